abbrev KT : Type := Program → Env → Room → State → MethodId → Array Value → List Frame → Method → Code → (State → Prop) → Nat → Nat → Prop
/-- a frame of method e: as Wp, what the end asks left open -/
def Wx (l : Launch) (g : GE) (e d kc ks pc : Nat) (ls : List (Nat × TV)) (st : List TV) (t : Tau) (σ : Mem) (Q : KT) : Prop :=
  ∀ (p : Program) (en : Env) (R : Room) (s : State) (m : MethodId) (args : Array Value) (below : List Frame) (meth : Method) (c : Code) (H : Heap) (locs : List Loc) (cells slots : Nat) (QM : State → Prop) (lsA : Array Slot),
    CxF g e p s m args meth c → d ≤ R.frames → 64 * d ≤ R.locals → cells + kc ≤ R.cells → slots + ks ≤ R.slots →
    Hld g t σ H → va_S (Ag g) s.heap H locs → (gO g ≤ s.heap.size ∧ (gB g = true → s.heap.size + cells ≤ gO g + t.length)) → lv_has lsA (mL e) (cvL g ls) → okLs ls → okTs st →
    Q p en R s m args below meth c QM (cells + kc) (slots + ks) →
    W p l en R s m args below meth c H locs cells slots QM (F0 m pc lsA (st.map (cv g)))
section WX
variable {l : Launch} {g : GE} {e d kc ks pc : Nat} {ls : List (Nat × TV)} {st : List TV} {t : Tau} {σ : Mem} {Q : KT}
theorem x_of {P : Post} (h : Wp l g e d kc ks pc ls st t σ P) (hQ : ∀ p en R s m args below meth c QM tc ts, Q p en R s m args below meth c QM tc ts → RetK l g e P tc ts p en R s m args below meth c QM) : Wx l g e d kc ks pc ls st t σ Q := by
  intro p en R s m args below meth c H locs cells slots QM lsA hC h1 h2 h3 h4 hH hS hO hl hol hos hr
  exact h p en R s m args below meth c H locs cells slots QM lsA hC h1 h2 h3 h4 hH hS hO hl hol hos (hQ _ _ _ _ _ _ _ _ _ _ _ _ hr)
theorem wx_pure {pc' : Nat} {st' : List TV} (k : Wx l g e d kc ks pc' ls st' t σ Q) (hok : okTs st → okTs st')
    (hw : ∀ (p : Program) (en : Env) (R : Room) (s : State) (m : MethodId) (args : Array Value) (below : List Frame) (meth : Method) (c : Code) (H : Heap) (locs : List Loc) (cells slots : Nat) (QM : State → Prop) (lsA : Array Slot), CxF g e p s m args meth c → okTs st →
      W p l en R s m args below meth c H locs cells slots QM (F0 m pc' lsA (st'.map (cv g))) → W p l en R s m args below meth c H locs cells slots QM (F0 m pc lsA (st.map (cv g)))) : Wx l g e d kc ks pc ls st t σ Q := by
  intro p en R s m args below meth c H locs cells slots QM lsA hC h1 h2 h3 h4 hH hS hO hl hol hos hr
  exact hw p en R s m args below meth c H locs cells slots QM lsA hC hos (k p en R s m args below meth c H locs cells slots QM lsA hC h1 h2 h3 h4 hH hS hO hl hol (hok hos) hr)
theorem wx_lift {pc' pc'' : Nat} {st' st'' : List TV} {A B : Prop} (k1 : A → Wx l g e d kc ks pc' ls st' t σ Q) (k2 : B → Wx l g e d kc ks pc'' ls st'' t σ Q) (hok : okTs st → okTs st') (hok2 : okTs st → okTs st'')
    (hw : ∀ (p : Program) (en : Env) (R : Room) (s : State) (m : MethodId) (args : Array Value) (below : List Frame) (meth : Method) (c : Code) (H : Heap) (locs : List Loc) (cells slots : Nat) (QM : State → Prop) (lsA : Array Slot), CxF g e p s m args meth c → okTs st →
      (A → W p l en R s m args below meth c H locs cells slots QM (F0 m pc' lsA (st'.map (cv g)))) → (B → W p l en R s m args below meth c H locs cells slots QM (F0 m pc'' lsA (st''.map (cv g)))) → W p l en R s m args below meth c H locs cells slots QM (F0 m pc lsA (st.map (cv g)))) : Wx l g e d kc ks pc ls st t σ Q := by
  intro p en R s m args below meth c H locs cells slots QM lsA hC h1 h2 h3 h4 hH hS hO hl hol hos hr
  exact hw p en R s m args below meth c H locs cells slots QM lsA hC hos (fun a => k1 a p en R s m args below meth c H locs cells slots QM lsA hC h1 h2 h3 h4 hH hS hO hl hol (hok hos) hr) (fun b => k2 b p en R s m args below meth c H locs cells slots QM lsA hC h1 h2 h3 h4 hH hS hO hl hol (hok2 hos) hr)
theorem wx_iconst {n : Int} (hn : b32 n) (hd : decode (mC e) pc = .ok (.iconst n, 1)) (k : Wx l g e d kc ks (pc + 1) ls (vI n :: st) t σ Q) : Wx l g e d kc ks pc ls st t σ Q :=
  wx_pure k (fun h => okTs_cons hn h) (fun _ _ _ _ _ _ _ _ _ _ _ _ _ _ _ hC _ kk => lv_iconst hC.1 hC.2.1 hd rfl kk)
theorem wx_bipush {n v : Int} (hn : b32 v) (hv : (Int8.ofInt n).toInt32 = Int32.ofInt v) (hd : decode (mC e) pc = .ok (.bipush n, 2)) (k : Wx l g e d kc ks (pc + 2) ls (vI v :: st) t σ Q) : Wx l g e d kc ks pc ls st t σ Q :=
  wx_pure k (fun h => okTs_cons hn h) (fun _ _ _ _ _ _ _ _ _ _ _ _ _ _ _ hC _ kk => lv_bipush hC.1 hC.2.1 hd hv kk)
theorem wx_dup {v : TV} (hc : catT v = 1) (hd : decode (mC e) pc = .ok (.dup, 1)) (k : Wx l g e d kc ks (pc + 1) ls (v :: v :: st) t σ Q) : Wx l g e d kc ks pc ls (v :: st) t σ Q :=
  wx_pure k (fun h => okTs_cons (okTs_hd h) h) (fun _ _ _ _ _ _ _ _ _ _ _ _ _ _ _ hC ho kk => lv_dup hC.1 hC.2.1 hd (by rw [cv_cat]; exact hc) kk)
theorem wx_if_eq {x : Int} {off : Int} {tgt : Nat} (hd : decode (mC e) pc = .ok (.ifCond .eq off, 3)) (ht : (pc : Int) + off = tgt) (k1 : x = 0 → Wx l g e d kc ks tgt ls st t σ Q) (k2 : ¬ (x = 0) → Wx l g e d kc ks (pc + 3) ls st t σ Q) : Wx l g e d kc ks pc ls (vI x :: st) t σ Q :=
  wx_lift k1 k2 (fun h => okTs_tl h) (fun h => okTs_tl h) (fun _ _ _ _ _ _ _ _ _ _ _ _ _ _ _ hC ho q1 q2 => by
    have hx : b32 x := okTs_hd ho
    have h : _ ↔ x = 0 := eq_of hx b32_0
    exact lv_if_eq (x := Int32.ofInt x) hC.1 hC.2.1 hd ht (fun z => q1 (h.mp z)) (fun z => q2 (fun y => z (h.mpr y))))
theorem wx_if_ne {x : Int} {off : Int} {tgt : Nat} (hd : decode (mC e) pc = .ok (.ifCond .ne off, 3)) (ht : (pc : Int) + off = tgt) (k1 : x ≠ 0 → Wx l g e d kc ks tgt ls st t σ Q) (k2 : ¬ (x ≠ 0) → Wx l g e d kc ks (pc + 3) ls st t σ Q) : Wx l g e d kc ks pc ls (vI x :: st) t σ Q :=
  wx_lift k1 k2 (fun h => okTs_tl h) (fun h => okTs_tl h) (fun _ _ _ _ _ _ _ _ _ _ _ _ _ _ _ hC ho q1 q2 => by
    have hx : b32 x := okTs_hd ho
    have h : _ ↔ x ≠ 0 := not_congr (eq_of hx b32_0)
    exact lv_if_ne (x := Int32.ofInt x) hC.1 hC.2.1 hd ht (fun z => q1 (h.mp z)) (fun z => q2 (fun y => h.mpr y z)))
theorem wx_if_lt {x : Int} {off : Int} {tgt : Nat} (hd : decode (mC e) pc = .ok (.ifCond .lt off, 3)) (ht : (pc : Int) + off = tgt) (k1 : x < 0 → Wx l g e d kc ks tgt ls st t σ Q) (k2 : ¬ (x < 0) → Wx l g e d kc ks (pc + 3) ls st t σ Q) : Wx l g e d kc ks pc ls (vI x :: st) t σ Q :=
  wx_lift k1 k2 (fun h => okTs_tl h) (fun h => okTs_tl h) (fun _ _ _ _ _ _ _ _ _ _ _ _ _ _ _ hC ho q1 q2 => by
    have hx : b32 x := okTs_hd ho
    have h : _ ↔ x < 0 := lt_of hx b32_0
    exact lv_if_lt (x := Int32.ofInt x) hC.1 hC.2.1 hd ht (fun z => q1 (h.mp z)) (fun z => q2 (fun y => z (h.mpr y))))
theorem wx_icmp_le {x y : Int} {off : Int} {tgt : Nat} (hd : decode (mC e) pc = .ok (.if_icmp .le off, 3)) (ht : (pc : Int) + off = tgt) (k1 : x ≤ y → Wx l g e d kc ks tgt ls st t σ Q) (k2 : ¬ (x ≤ y) → Wx l g e d kc ks (pc + 3) ls st t σ Q) : Wx l g e d kc ks pc ls (vI y :: vI x :: st) t σ Q :=
  wx_lift k1 k2 (fun h => okTs_tl (okTs_tl h)) (fun h => okTs_tl (okTs_tl h)) (fun _ _ _ _ _ _ _ _ _ _ _ _ _ _ _ hC ho q1 q2 => by
    have hy : b32 y := okTs_hd ho
    have hx : b32 x := okTs_hd (okTs_tl ho)
    have h : _ ↔ x ≤ y := le_of hx hy
    exact lv_icmp_le (x := Int32.ofInt x) (y := Int32.ofInt y) hC.1 hC.2.1 hd ht (fun z => q1 (h.mp z)) (fun z => q2 (fun y => z (h.mpr y))))
theorem wx_iload_n {i : Fin 4} {x : Int} (hg : lget i ls = some (vI x)) (hd : decode (mC e) pc = .ok (.iload_n i, 1)) (k : Wx l g e d kc ks (pc + 1) ls (vI x :: st) t σ Q) : Wx l g e d kc ks pc ls st t σ Q := by
  intro p en R s m args below meth c H locs cells slots QM lsA hC h1 h2 h3 h4 hH hS hO hl hol hos hr
  exact lv_iload_n hC.1 hC.2.1 hd rfl (lv_get hl hg) (k p en R s m args below meth c H locs cells slots QM lsA hC h1 h2 h3 h4 hH hS hO hl hol (okTs_cons (okLs_get hol hg) hos) hr)
theorem wx_aload_n {i : Fin 4} {x : Int} (hg : lget i ls = some (vR x)) (hd : decode (mC e) pc = .ok (.aload_n i, 1)) (k : Wx l g e d kc ks (pc + 1) ls (vR x :: st) t σ Q) : Wx l g e d kc ks pc ls st t σ Q := by
  intro p en R s m args below meth c H locs cells slots QM lsA hC h1 h2 h3 h4 hH hS hO hl hol hos hr
  have kk := k p en R s m args below meth c H locs cells slots QM lsA hC h1 h2 h3 h4 hH hS hO hl hol (okTs_cons (okLs_get hol hg) hos) hr
  have hq := lv_get hl hg
  rw [List.map_cons] at kk
  rw [show cv g (vR x) = rf g x from rfl] at kk hq
  rcases rf_cases g x with ⟨h5, h6⟩ | ⟨h5, a, h6⟩
  · rw [h6] at kk hq; exact lv_aload_nN hC.1 hC.2.1 hd rfl hq kk
  · rw [h6] at kk hq; exact lv_aload_n hC.1 hC.2.1 hd rfl hq kk
theorem wx_istore {i : Nat} {x : Int} (hn : (i : Nat) < mL e) (hd : decode (mC e) pc = .ok (.istore i, 2)) (k : Wx l g e d kc ks (pc + 2) (lset i (vI x) ls) st t σ Q) : Wx l g e d kc ks pc ls (vI x :: st) t σ Q := by
  intro p en R s m args below meth c H locs cells slots QM lsA hC h1 h2 h3 h4 hH hS hO hl hol hos hr
  refine lv_istore hC.1 hC.2.1 hd hl hn rfl (fun ls' hl' => ?_)
  exact k p en R s m args below meth c H locs cells slots QM ls' hC h1 h2 h3 h4 hH hS hO (lv_put1 rfl hl') (okLs_set hol (okTs_hd hos)) (okTs_tl hos) hr
theorem wx_astore_n {i : Fin 4} {x : Int} (hn : (i : Nat) < mL e) (hd : decode (mC e) pc = .ok (.astore_n i, 1)) (k : Wx l g e d kc ks (pc + 1) (lset i (vR x) ls) st t σ Q) : Wx l g e d kc ks pc ls (vR x :: st) t σ Q := by
  intro p en R s m args below meth c H locs cells slots QM lsA hC h1 h2 h3 h4 hH hS hO hl hol hos hr
  have kk : ∀ ls' : Array Slot, lv_has ls' (mL e) (((i : Nat), cv g (vR x)) :: (cvL g ls).filter (fun q => !(q.1 == (i : Nat)) && !(q.1 + 1 == (i : Nat) && q.2.category == 2))) → W p l en R s m args below meth c H locs cells slots QM (F0 m (pc + 1) ls' (st.map (cv g))) := fun ls' hl' => k p en R s m args below meth c H locs cells slots QM ls' hC h1 h2 h3 h4 hH hS hO (lv_put1 (v := vR x) rfl hl') (okLs_set hol trivial) (okTs_tl hos) hr
  show W _ _ _ _ _ _ _ _ _ _ _ _ _ _ _ (F0 _ _ _ (rf g x :: _))
  rw [show cv g (vR x) = rf g x from rfl] at kk
  rcases rf_cases g x with ⟨h5, h6⟩ | ⟨h5, a, h6⟩
  · rw [h6] at kk ⊢; exact lv_astore_nN hC.1 hC.2.1 hd rfl hl hn rfl kk
  · rw [h6] at kk ⊢; exact lv_astore_n hC.1 hC.2.1 hd rfl hl hn rfl kk
theorem wx_astore {i : Nat} {x : Int} (hn : (i : Nat) < mL e) (hd : decode (mC e) pc = .ok (.astore i, 2)) (k : Wx l g e d kc ks (pc + 2) (lset i (vR x) ls) st t σ Q) : Wx l g e d kc ks pc ls (vR x :: st) t σ Q := by
  intro p en R s m args below meth c H locs cells slots QM lsA hC h1 h2 h3 h4 hH hS hO hl hol hos hr
  have kk : ∀ ls' : Array Slot, lv_has ls' (mL e) (((i : Nat), cv g (vR x)) :: (cvL g ls).filter (fun q => !(q.1 == (i : Nat)) && !(q.1 + 1 == (i : Nat) && q.2.category == 2))) → W p l en R s m args below meth c H locs cells slots QM (F0 m (pc + 2) ls' (st.map (cv g))) := fun ls' hl' => k p en R s m args below meth c H locs cells slots QM ls' hC h1 h2 h3 h4 hH hS hO (lv_put1 (v := vR x) rfl hl') (okLs_set hol trivial) (okTs_tl hos) hr
  show W _ _ _ _ _ _ _ _ _ _ _ _ _ _ _ (F0 _ _ _ (rf g x :: _))
  rw [show cv g (vR x) = rf g x from rfl] at kk
  rcases rf_cases g x with ⟨h5, h6⟩ | ⟨h5, a, h6⟩
  · rw [h6] at kk ⊢; exact lv_astoreN hC.1 hC.2.1 hd hl hn rfl kk
  · rw [h6] at kk ⊢; exact lv_astore hC.1 hC.2.1 hd hl hn rfl kk
theorem wx_keep {ks' : List Nat} (k : Wx l g e d kc ks pc (lkeep ks' ls) st t σ Q) : Wx l g e d kc ks pc ls st t σ Q := by
  intro p en R s m args below meth c H locs cells slots QM lsA hC h1 h2 h3 h4 hH hS hO hl hol hos hr
  refine k p en R s m args below meth c H locs cells slots QM lsA hC h1 h2 h3 h4 hH hS hO (lv_has_sub hl fun q hq => ?_) (fun q hq => hol q (lkeep_mem hq)) hos hr
  obtain ⟨r, hr, rfl⟩ := List.mem_map.mp hq
  exact List.mem_map.mpr ⟨r, lkeep_mem hr, rfl⟩
theorem wx_get {idx ci k kd : Nat} {x : Int} (hO : isO t x ci) (hk : kdOk ci k kd = true) (hl : fLink (mN e).cls idx ci k = true ∨ fLinkN (mN e).cls idx ci k = true) (hd : decode (mC e) pc = .ok (.getfield idx, 3))
    (kk : Wx l g e d kc ks (pc + 3) ls (gval t σ x k kd :: st) t σ Q) : Wx l g e d kc ks pc ls (vR x :: st) t σ Q := by
  intro p en R s m args below meth c H locs cells slots QM lsA hC h1 h2 h3 h4 hH hS hZ hls hol hos hr
  obtain ⟨hx, fin, hs⟩ := hO
  unfold kdOk at hk
  cases hq : vwCl[ci]? with
  | none => rw [hq] at hk; cases hk
  | some q =>
    rw [hq] at hk
    simp only [Bool.and_eq_true, decide_eq_true_eq] at hk
    obtain ⟨⟨⟨⟨hk1, hk2⟩, hk3⟩, hk4⟩, -⟩ := hk
    have kw := kk p en R s m args below meth c H locs cells slots QM lsA hC h1 h2 h3 h4 hH hS hZ hls hol (okTs_cons (gval_ok hH.2.1 hx hs hk2) (okTs_tl hos)) hr
    rw [List.map_cons, gval_cv hs] at kw
    show W _ _ _ _ _ _ _ _ _ _ _ _ _ _ _ (F0 _ _ _ (rf g x :: _))
    rw [rf_ref hx]
    have he := world_atI (g := g) (s := σ) hx hs
    rcases hl with hl | hl
    · unfold fLink at hl
      rw [hq] at hl
      simp only [Bool.and_eq_true, decide_eq_true_eq] at hl
      exact va_get (C := q.1) (T := q.2.1) (N := q.2.2) hC.1 hC.2.1 hC.2.2.2.2.2.1 (clsOk hq).1 hC.2.2.2.2.1 hC.2.2.2.2.2.2.2.2.1 hH.1 x.toNat he hq k hk1 (hC.2.2.2.2.2.1 _ (List.mem_filter.mpr hl)) (fun _ z => z) (fld_at hk2) hd kw
    · unfold fLinkN at hl
      rw [hq] at hl
      simp only [decide_eq_true_eq] at hl
      have hw : va_Nw (Cond.fieldLinkNest (mN e).cls idx (q.2.1 k).1 (q.2.1 k).2.1 (q.2.1 k).2.2.1 "StruckColours") s := hC.2.2.2.2.2.2.2.2.2.1 _ (List.mem_filter.mpr ⟨hl, rfl⟩)
      exact va_getN (C := q.1) (T := q.2.1) (N := q.2.2) hC.1 hC.2.1 hC.2.2.2.2.2.1 (clsOk hq).1 hC.2.2.2.2.1 hC.2.2.2.2.2.2.2.2.1 hH.1 x.toNat he hq k hk1 (va_Nw.use rfl hw) (fun _ z => z) (fld_at hk2) hd kw
theorem wx_call {mc ms : Nat} {as : List TV} {p : Program} {en : Env} {R : Room} {s : State} {m : MethodId} {args : Array Value} {below : List Frame} {meth : Method} {c : Code} {H : Heap} {locs : List Loc} {cells slots : Nat} {QM : State → Prop} {lsA : Array Slot} {st0 : List Value} {Q' : Post}
    (hmc : mc ≤ kc) (hms : ms ≤ ks) (hQ' : ∀ v t' σ', Q' v t' σ' → Wx l g e d (kc - mc) (ks - ms) (pc + 3) ls (v.toList ++ st) t' σ' Q)
    (hC : CxF g e p s m args meth c) (h1 : d ≤ R.frames) (h2 : 64 * d ≤ R.locals) (h3 : cells + kc ≤ R.cells) (h4 : slots + ks ≤ R.slots) (hH : Hld g t σ H) (hS : va_S (Ag g) s.heap H locs) (hZ : gO g ≤ s.heap.size ∧ (gB g = true → s.heap.size + cells ≤ gO g + t.length)) (hls : lv_has lsA (mL e) (cvL g ls)) (hol : okLs ls) (hos : okTs st) (hr : Q p en R s m args below meth c QM (cells + kc) (slots + ks))
    (hrun : va_Run p l en R s m args below meth c H locs cells slots mc ms (F0 m pc lsA st0) (st.map (cv g)) (QcM g mc Q' ((as.map (cv g)).toArray)) (Ag g)) : W p l en R s m args below meth c H locs cells slots QM (F0 m pc lsA st0) := by
  refine wcall hrun hS fun v t' σ' H1 locs1 q1 q2 q3 q4 q5 => ?_
  rw [map_toList]
  refine hQ' v t' σ' q1 p en R s m args below meth c H1 locs1 (cells + mc) (slots + ms) QM lsA hC h1 h2 (by omega) (by omega) q3 q4 ⟨hZ.1, fun z => ?_⟩ hls hol ?_ ?_
  · have a := hZ.2 z
    have b := q5 z
    have c := hH.2.2
    omega
  · intro x hx
    rcases List.mem_append.mp hx with h | h
    · cases v with
      | none => cases h
      | some y => rw [List.mem_singleton.mp h]; exact q2 y rfl
    · exact hos x h
  · rw [show cells + mc + (kc - mc) = cells + kc by omega, show slots + ms + (ks - ms) = slots + ks by omega]
    exact hr
theorem wx_callV {kind idx e' n mc ms ci : Nat} {as : List TV} {x : Int} {q : vw_C} (hkd : kind = 0 ∨ kind = 1) (hq : vwCl[ci]? = some q) (hqc : q.1 = (mN e').cls) (hO : isO t x ci) (hk : callOk kind (mN e).cls idx e' n = true) (hn : as.length = n) (hst : (st.map catT).sum ≤ 8) (hmc : mc ≤ kc) (hms : ms ≤ ks) (hd : decode (mC e) pc = .ok (.invokevirtual idx, 3))
    (kk : WPc l g e' d mc ms (vR x :: as) t σ (fun v t' σ' => Wx l g e (d + 1) (kc - mc) (ks - ms) (pc + 3) ls (v.toList ++ st) t' σ' Q)) : Wx l g e (d + 1) kc ks pc ls (as.reverse ++ vR x :: st) t σ Q := by
  intro p en R s m args below meth c H locs cells slots QM lsA hC h1 h2 h3 h4 hH hS hZ hls hol hos hr T hT X
  obtain ⟨hx, fin, hs⟩ := hO
  have hsz : H.size ≤ s.heap.size + cells := by rw [← hT]; exact X.same.2.2.1
  unfold callOk at hk
  simp only [Bool.and_eq_true, decide_eq_true_eq, ne_eq] at hk
  obtain ⟨⟨⟨⟨⟨⟨k1, k2⟩, k3⟩, k4⟩, k5⟩, k6⟩, k7⟩ := hk
  rw [if_pos hkd] at k6
  have w5 := inALL_of k5
  have w6 := inALL_of k6
  have hts := hC.2.2.2.2.2.1
  have hstk : ((as.reverse ++ vR x :: st).map (cv g)) = (as.map (cv g)).reverse ++ .ref (gO g + x.toNat) :: st.map (cv g) := by
    rw [List.map_append, List.map_reverse, List.map_cons, show cv g (vR x) = rf g x from rfl, rf_ref hx]
  have hoa : okTs (vR x :: as) := okTs_cons trivial fun v hv => hos v (List.mem_append_left _ (List.mem_reverse.mpr hv))
  have hor : okTs st := fun v hv => hos v (List.mem_append_right _ (List.mem_cons_of_mem _ hv))
  have hpre : PreV s H (mN e').cls (gO g + x.toNat) (PcM g (vR x :: as) t σ) (as.map (cv g)) := by
    refine ⟨PcM_blind g _ t σ, ?_, fun U hU hW => ?_⟩
    · rw [← hqc]
      exact va_recv hC.2.2.2.2.2.2.2.2.1 hH.1 hq (world_atI (g := g) (s := σ) hx hs)
    · have := pc_in (U := U) hC hH hS hZ hsz hoa hU hW
      rw [List.map_cons, show cv g (vR x) = rf g x from rfl, rf_ref hx] at this
      exact this
  have hS0 : CallFix p m c (mC e) (mL e) s args ALL (mN e).cls := ⟨hC.1, hC.2.1, hC.2.2.2.1, hC.2.2.2.2.1, hts⟩
  have hsg : ∀ sig, parseMethodDescriptor (mN e').desc = some sig → n = sig.parameters.length := fun sig h => by
    rw [h] at k3
    exact (Option.some.inj k3).symm
  have hMt : Met l (mN e') (wsM e') (rmD d mc ms) (PcM g (vR x :: as) t σ) (QcM g mc (fun v t' σ' => Wx l g e (d + 1) (kc - mc) (ks - ms) (pc + 3) ls (v.toList ++ st) t' σ' Q)) mc ms (Ag g) := kk
  have hbk : (rmD d mc ms).cells = mc ∧ (rmD d mc ms).slots = ms ∧ (rmD d mc ms).frames + 1 ≤ R.frames ∧ 8 + (mL e' + 11) + (rmD d mc ms).locals ≤ R.locals := ⟨rfl, rfl, h1, by show 8 + (mL e' + 11) + 64 * d ≤ R.locals; omega⟩
  have hrun : va_Run p l en R s m args below meth c H locs cells slots mc ms (F0 m pc lsA ((as.reverse ++ vR x :: st).map (cv g))) (st.map (cv g)) (QcM g mc (fun v t' σ' => Wx l g e (d + 1) (kc - mc) (ks - ms) (pc + 3) ls (v.toList ++ st) t' σ' Q) ((((vR x :: as).map (cv g))).toArray)) (Ag g) := by
    rw [List.map_cons, show cv g (vR x) = rf g x from rfl, rf_ref hx]
    rcases hkd with rfl | rfl
    · rw [if_pos rfl] at k7
      exact va_runV hS0 hMt ⟨⟨hbk.1, hbk.2.1, hbk.2.2.1, hbk.2.2.2, pay_in hts (GoodAll (e := e) (w5 _ m1)), List.mem_cons_self, hts _ (w5 _ m1), hts _ (w5 _ m2), ⟨k1, k2⟩, hsg, hts _ (inALL_of k7 _ m1)⟩, hts _ (w6 _ m1), hts _ (w6 _ m2)⟩ hpre rfl (by rw [List.length_map]; exact hn) hls.1 hstk (lv_room (by rw [cat_map]; exact hst)) hd ⟨by omega, by omega⟩
    · rw [if_neg (by decide)] at k7
      have hw : va_Nw (Cond.methodLinkNest (mN e).cls idx (mN e') "StruckColours") s := hC.2.2.2.2.2.2.2.2.2.1 _ (List.mem_filter.mpr ⟨of_decide_eq_true k7, rfl⟩)
      exact va_runVN (host := "StruckColours") hS0 hMt ⟨⟨⟨hbk.1, hbk.2.1, hbk.2.2.1, hbk.2.2.2, pay_in hts (GoodAll (e := e) (w5 _ m1)), List.mem_cons_self⟩, hts _ (w5 _ m1), hts _ (w5 _ m2), ⟨k1, k2⟩, hsg, va_Nw.use rfl hw⟩, hts _ (w6 _ m1), hts _ (w6 _ m2)⟩ hpre rfl (by rw [List.length_map]; exact hn) hls.1 hstk (lv_room (by rw [cat_map]; exact hst)) hd ⟨by omega, by omega⟩
  exact wx_call (as := vR x :: as) hmc hms (fun _ _ _ z => z) hC h1 h2 h3 h4 hH hS hZ hls hol hor hr hrun T hT X
theorem wx_callI {kind idx e' n mc ms : Nat} {as : List TV} {x : Int} (hx : 0 ≤ x) (hkd : kind = 4 ∨ kind = 5) (hk : callOk kind (mN e).cls idx e' n = true) (hn : as.length = n) (hst : (st.map catT).sum ≤ 8) (hmc : mc ≤ kc) (hms : ms ≤ ks) (hd : decode (mC e) pc = .ok (.invokespecial idx, 3))
    (kk : WPc l g e' d mc ms (vR x :: as) t σ (fun v t' σ' => Wx l g e (d + 1) (kc - mc) (ks - ms) (pc + 3) ls (v.toList ++ st) t' σ' Q)) : Wx l g e (d + 1) kc ks pc ls (as.reverse ++ vR x :: st) t σ Q := by
  intro p en R s m args below meth c H locs cells slots QM lsA hC h1 h2 h3 h4 hH hS hZ hls hol hos hr T hT X
  have hsz : H.size ≤ s.heap.size + cells := by rw [← hT]; exact X.same.2.2.1
  unfold callOk at hk
  simp only [Bool.and_eq_true, decide_eq_true_eq, ne_eq] at hk
  obtain ⟨⟨⟨⟨⟨⟨k1, k2⟩, k3⟩, k4⟩, k5⟩, k6⟩, k7⟩ := hk
  rw [if_neg (by omega), if_neg (by omega)] at k6
  simp only [Bool.and_eq_true, decide_eq_true_eq] at k6
  obtain ⟨⟨k6, k8⟩, k9⟩ := k6
  have w5 := inALL_of k5
  have w6 := inALL_of k6
  have hts := hC.2.2.2.2.2.1
  have hstk : ((as.reverse ++ vR x :: st).map (cv g)) = (as.map (cv g)).reverse ++ .ref (gO g + x.toNat) :: st.map (cv g) := by
    rw [List.map_append, List.map_reverse, List.map_cons, show cv g (vR x) = rf g x from rfl, rf_ref hx]
  have hoa : okTs (vR x :: as) := okTs_cons trivial fun v hv => hos v (List.mem_append_left _ (List.mem_reverse.mpr hv))
  have hor : okTs st := fun v hv => hos v (List.mem_append_right _ (List.mem_cons_of_mem _ hv))
  have hpre : PreS s H (PcM g (vR x :: as) t σ) (.ref (gO g + x.toNat) :: as.map (cv g)) := by
    refine ⟨PcM_blind g _ t σ, fun U hU hW => ?_⟩
    have := pc_in (U := U) hC hH hS hZ hsz hoa hU hW
    rw [List.map_cons, show cv g (vR x) = rf g x from rfl, rf_ref hx] at this
    exact this
  have hS0 : CallFix p m c (mC e) (mL e) s args ALL (mN e).cls := ⟨hC.1, hC.2.1, hC.2.2.2.1, hC.2.2.2.2.1, hts⟩
  have hsg : ∀ sig, parseMethodDescriptor (mN e').desc = some sig → n = sig.parameters.length := fun sig h => by
    rw [h] at k3
    exact (Option.some.inj k3).symm
  have hMt : Met l (mN e') (wsM e') (rmD d mc ms) (PcM g (vR x :: as) t σ) (QcM g mc (fun v t' σ' => Wx l g e (d + 1) (kc - mc) (ks - ms) (pc + 3) ls (v.toList ++ st) t' σ' Q)) mc ms (Ag g) := kk
  have hbk : (rmD d mc ms).cells = mc ∧ (rmD d mc ms).slots = ms ∧ (rmD d mc ms).frames + 1 ≤ R.frames ∧ 8 + (mL e' + 11) + (rmD d mc ms).locals ≤ R.locals := ⟨rfl, rfl, h1, by show 8 + (mL e' + 11) + 64 * d ≤ R.locals; omega⟩
  have hrun : va_Run p l en R s m args below meth c H locs cells slots mc ms (F0 m pc lsA ((as.reverse ++ vR x :: st).map (cv g))) (st.map (cv g)) (QcM g mc (fun v t' σ' => Wx l g e (d + 1) (kc - mc) (ks - ms) (pc + 3) ls (v.toList ++ st) t' σ' Q) ((((vR x :: as).map (cv g))).toArray)) (Ag g) := by
    rw [List.map_cons, show cv g (vR x) = rf g x from rfl, rf_ref hx]
    have w1 := hts _ (w5 _ m1)
    rw [k9] at w1
    have w0 : Cond.code (mN e') (mC e') (mL e') none ∈ wsM e' := by rw [← k9]; exact List.mem_cons_self
    rcases hkd with rfl | rfl
    · rw [if_pos rfl] at k7
      exact va_runI hS0 hMt ⟨⟨hbk.1, hbk.2.1, hbk.2.2.1, hbk.2.2.2, pay_in hts (GoodAll (e := e) (w5 _ m1)), w0, w1, hts _ (w5 _ m2), ⟨k1, k2⟩, hsg, hts _ (inALL_of k7 _ m1)⟩, k8, hts _ (w6 _ m1)⟩ hpre rfl (by rw [List.length_map]; exact hn) hls.1 hstk (lv_room (by rw [cat_map]; exact hst)) hd ⟨by omega, by omega⟩
    · rw [if_neg (by decide)] at k7
      have hw : va_Nw (Cond.methodLinkNest (mN e).cls idx (mN e') "StruckColours") s := hC.2.2.2.2.2.2.2.2.2.1 _ (List.mem_filter.mpr ⟨of_decide_eq_true k7, rfl⟩)
      exact va_runIN (host := "StruckColours") hS0 hMt ⟨⟨⟨hbk.1, hbk.2.1, hbk.2.2.1, hbk.2.2.2, pay_in hts (GoodAll (e := e) (w5 _ m1)), w0⟩, w1, hts _ (w5 _ m2), ⟨k1, k2⟩, hsg, va_Nw.use rfl hw⟩, k8, hts _ (w6 _ m1)⟩ hpre rfl (by rw [List.length_map]; exact hn) hls.1 hstk (lv_room (by rw [cat_map]; exact hst)) hd ⟨by omega, by omega⟩
  exact wx_call (as := vR x :: as) hmc hms (fun _ _ _ z => z) hC h1 h2 h3 h4 hH hS hZ hls hol hor hr hrun T hT X
theorem wx_newa {atype : ArrayType} {ty n : Nat} (hty : newarray.typeOf atype = tyF ty) (ht : ty ≤ 4) (hw : Cond.arrayClass (tyF ty) ∈ ALL) (hB : gB g = true) (hkc : 1 ≤ kc) (hks : n ≤ ks) (hn : n < 10000) (hd : decode (mC e) pc = .ok (.newarray atype, 2))
    (kk : Wx l g e d (kc - 1) (ks - n) (pc + 2) ls (vR t.length :: st) (t ++ [.inr (ty, n)]) (zr σ t.length (fun _ => 0)) Q) : Wx l g e d kc ks pc ls (vI n :: st) t σ Q := by
  intro p en R s m args below meth c H locs cells slots QM lsA hC h1 h2 h3 h4 hH hS hZ hls hol hos hr T hT X
  have hsz : H.size ≤ s.heap.size + cells := by rw [← hT]; exact X.same.2.2.1
  have hs : H.size = gO g + t.length := by have := hZ.2 hB; have := hH.2.2; omega
  have hKf := hC.2.2.2.2.2.2.2.2.1
  have hts := hC.2.2.2.2.2.1
  have hbn : b32 (n : Int) := by unfold b32; omega
  have hcl : (Int32.ofInt (n : Int)).toNatClampNeg = n := by rw [clamp_of' hbn]; exact Int.toNat_natCast n
  refine va_newaK (cc := mC e) (atype := atype) hC.1 hC.2.1 (by rw [hty]; exact hts _ hw) (g := F0 m pc lsA ((vI (n : Int) :: st).map (cv g))) rfl hd (n := Int32.ofInt (n : Int)) (N := n) (rest := st.map (cv g)) rfl ?_ hcl ?_ (by omega) (by omega) hs (fun H1 cA e1 z1 o1 hAr hNm => ?_) T hT X
  · intro hlt
    have h0 := Int32.lt_iff_toInt_lt.mp hlt
    rw [to_of hbn] at h0
    have : ((0 : Int32).toInt) = 0 := rfl
    omega
  · rw [hty]
    rcases (show ty = 0 ∨ ty = 1 ∨ ty = 2 ∨ ty = 3 ∨ ty = 4 by omega) with rfl | rfl | rfl | rfl | rfl <;> simp [tyF, componentBytes] <;> omega
  · have hK2 := (hKf.2 ty _ (tyL_at g (by omega))).2
    have hcA : cA = gC g ty := by
      rw [hty] at hNm
      rcases (show ty = 0 ∨ ty = 1 ∨ ty = 2 ∨ ty = 3 ∨ ty = 4 by omega) with rfl | rfl | rfl | rfl | rfl <;> exact Option.some.inj (hNm.symm.trans hK2)
    subst hcA
    have hat : va_at (gD g) vwCl (gO g + t.length, cellE g (.inr (ty, n)) (fun _ => 0)) H1 := by
      show H1[gO g + t.length]? = some (vp_cell (gC g ty) (n, arrE g ty (fun _ => 0)))
      rw [e1, hty]
      rcases (show ty = 0 ∨ ty = 1 ∨ ty = 2 ∨ ty = 3 ∨ ty = 4 by omega) with rfl | rfl | rfl | rfl | rfl <;> rfl
    have hH1 : Hld g (t ++ [.inr (ty, n)]) (zr σ t.length (fun _ => 0)) H1 := Hld_app hH (fun j => by
      show (if ty = 1 then b64 0 else if ty = 5 then (-1 : Int) ≤ 0 else b32 0)
      split
      · unfold b64; omega
      · split
        · omega
        · unfold b32; omega) hs (by rw [z1, hs]) (fun q hq => o1 q (by rw [← hs]; exact hq)) hat
    have hS1 : va_S (Ag g) s.heap H1 locs := ⟨by have := hS.1; omega, fun q q1 q2 => by rw [o1 q (by have := hS.1; omega)]; exact hS.2.1 q q1 q2, hS.2.2⟩
    have hw1 := kk p en R s m args below meth c H1 locs (cells + 1) (slots + n) QM lsA hC h1 h2 (by omega) (by omega) hH1 hS1 ⟨hZ.1, fun _ => by have := hZ.2 hB; simp; omega⟩ hls hol (okTs_cons trivial (okTs_tl hos)) (by rw [show cells + 1 + (kc - 1) = cells + kc by omega, show slots + n + (ks - n) = slots + ks by omega]; exact hr)
    rw [List.map_cons, show cv g (vR (t.length : Int)) = rf g (t.length : Int) from rfl, rf_ref (by omega), Int.toNat_natCast] at hw1
    exact hw1
theorem wx_new {idx ci : Nat} {q : vw_C} (hq : vwCl[ci]? = some q) (hdf : ∀ j ty, j < q.2.2 → parseFieldDescriptor (q.2.1 j).2.2.1 = some ty → defaultValue ty = vp_V ((fkL.getD ci []).map dfv) j) (hw1 : Cond.classLink (mN e).cls idx q.1 ∈ ALL) (hw2 : Cond.instantiable q.1 q.2.2 ∈ ALL) (hw3 : Cond.initialized q.1 ∈ ALL) (hB : gB g = true) (hkc : 1 ≤ kc) (hks : q.2.2 ≤ ks) (hd : decode (mC e) pc = .ok (.new idx, 3))
    (kk : Wx l g e d (kc - 1) (ks - q.2.2) (pc + 3) ls (vR t.length :: st) (t ++ [.inl (ci, fun _ => -1)]) (zr σ t.length (nf ci)) Q) : Wx l g e d kc ks pc ls st t σ Q := by
  intro p en R s m args below meth c H locs cells slots QM lsA hC h1 h2 h3 h4 hH hS hZ hls hol hos hr T hT X
  have hsz : H.size ≤ s.heap.size + cells := by rw [← hT]; exact X.same.2.2.1
  have hs : H.size = gO g + t.length := by have := hZ.2 hB; have := hH.2.2; omega
  have hKf := hC.2.2.2.2.2.2.2.2.1
  have hts := hC.2.2.2.2.2.1
  obtain ⟨w1, ty0, w2, w3⟩ := clsOk hq
  have hKn := hKf.1 ci _ hq
  refine W.newcK (cc := mC e) (own := (mN e).cls) (C := q.1) (n := q.2.2) hC.1 hC.2.1 hC.2.2.2.2.1 (hts _ hw1) (hts _ hw2) (hts _ hw3) (g := F0 m pc lsA (st.map (cv g))) rfl hd (by omega) (by omega) hKn.2.1 hs (fun H1 kC hkC e1 z1 o1 => ?_) T hT X
  have hat : va_at (gD g) vwCl (gO g + t.length, cellE g (.inl (ci, fun _ => -1)) (nf ci)) H1 := by
    show ∃ r : vw_C, vwCl[ci]? = some r ∧ t_OB (gO g + t.length) ((gD g).1 ci) r.2.2 ((gD g).2 ci) H1 (vp_V (fldE g ci (fun _ => -1) (nf ci)))
    rw [fldE_n]
    exact ⟨_, hq, (u_born ty0 hts w1 hKn hkC e1 w2).to (fun j hj => hdf j _ hj (w2 j hj))⟩
  have hH1 : Hld g (t ++ [.inl (ci, fun _ => -1)]) (zr σ t.length (nf ci)) H1 := Hld_app hH (fun j => by
    intro kd hkd hle
    unfold nf
    rw [Int.toNat_natCast, hkd]
    rw [if_neg (by intro z; cases z; omega)]
    unfold b32; omega) hs (by rw [z1, hs]) (fun q hq => o1 q (by rw [← hs]; exact hq)) hat
  have hS1 : va_S (Ag g) s.heap H1 locs := ⟨by have := hS.1; omega, fun q q1 q2 => by rw [o1 q (by have := hS.1; omega)]; exact hS.2.1 q q1 q2, hS.2.2⟩
  have hk1 := kk p en R s m args below meth c H1 locs (cells + 1) (slots + q.2.2) QM lsA hC h1 h2 (by omega) (by omega) hH1 hS1 ⟨hZ.1, fun _ => by have := hZ.2 hB; simp; omega⟩ hls hol (okTs_cons trivial hos) (by rw [show cells + 1 + (kc - 1) = cells + kc by omega, show slots + q.2.2 + (ks - q.2.2) = slots + ks by omega]; exact hr)
  rw [List.map_cons, show cv g (vR (t.length : Int)) = rf g (t.length : Int) from rfl, rf_ref (by omega), Int.toNat_natCast] at hk1
  exact hk1
theorem wx_newX {idx idx2 ci ei nc ns kind : Nat} {q : vw_C} (hq : vwCl[ci]? = some q) (hdf : ∀ j, j < q.2.2 → (parseFieldDescriptor (q.2.1 j).2.2.1).map defaultValue = some (vp_V ((fkL.getD ci []).map dfv) j)) (hw : inALL [Cond.classLink (mN e).cls idx q.1, Cond.instantiable q.1 q.2.2, Cond.initialized q.1] = true) (hB : gB g = true) (hkc : 1 + nc ≤ kc) (hks : q.2.2 + ns ≤ ks) (hd : decode (mC e) pc = .ok (.new idx, 3)) (hd1 : decode (mC e) (pc + 3) = .ok (.dup, 1)) (hd2 : decode (mC e) (pc + 4) = .ok (.invokespecial idx2, 3)) (hkd : kind = 4 ∨ kind = 5) (hk : callOk kind (mN e).cls idx2 ei 0 = true) (hst : (st.map catT).sum + 1 ≤ 8)
    (kk : WPc l g ei d nc ns [vR t.length] (t ++ [.inl (ci, fun _ => -1)]) (zr σ t.length (nf ci)) (fun v t' σ' => Wx l g e (d + 1) (kc - 1 - nc) (ks - q.2.2 - ns) (pc + 7) ls (v.toList ++ (vR t.length :: st)) t' σ' Q)) : Wx l g e (d + 1) kc ks pc ls st t σ Q := by
  have hi := inALL_of hw
  refine wx_new (ci := ci) hq (dfOf hdf) (hi _ (by simp)) (hi _ (by simp)) (hi _ (by simp)) hB (by omega) (by omega) hd ?_
  refine wx_dup rfl hd1 ?_
  refine wx_callI (as := []) (Int.natCast_nonneg _) hkd hk rfl ?_ (by omega) (by omega) hd2 kk
  show ((vR _ :: st).map catT).sum ≤ 8
  simp only [List.map_cons, List.sum_cons]
  have : catT (vR (t.length : Int)) = 1 := rfl
  omega
end WX
