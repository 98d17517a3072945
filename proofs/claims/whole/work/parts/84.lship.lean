/-! ship and row of the law: what is thrown is caught there -/
abbrev HT : Type := List (Nat × Nat × Nat × Nat)
def wsW (e : Nat) (hh : HT) : List Cond := .codeWith (mN e) (mC e) (mL e) (mR e) hh :: ALL
def KCa (l : Launch) (g : GE) (e : Nat) (hh : HT) (Q : Post) : KT := fun p en R s m args below meth c QM tc ts => c.exceptionTable.toList = tableOf hh ∧ RetK l g e Q tc ts p en R s m args below meth c QM
theorem GoodW {e' : Nat} {hh : HT} (h : Cond.codeWith (mN e') (mC e') (mL e') (mR e') hh ∈ ALL) : GoodIn ALL (wsW e' hh) := by
  intro w hw
  rcases List.mem_cons.mp hw with h1 | h1
  · rw [h1]; exact ⟨h, good_of_word (List.mem_filter.mp h).2⟩
  · exact ⟨h1, good_of_word (List.mem_filter.mp h1).2⟩
theorem ns_cast : isDC (Cond.castable NSE NSE) = true ∧ Cond.castable NSE NSE ∈ tables_1 := by decide +kernel
section CAT
variable {l : Launch} {g : GE} {e d kc ks pc : Nat} {ls : List (Nat × TV)} {st : List TV} {t : Tau} {σ : Mem}
theorem w_in {Q : Post} {as : List TV} {hh : HT} (hy : plainName (mN e).cls = true) (hl : (as.map catT).sum ≤ mL e) (k : Wx l g e d kc ks 0 (largs 0 as) [] t σ (KCa l g e hh Q)) : Met l (mN e) (wsW e hh) (rmD d kc ks) (PcM g as t σ) (QcM g kc Q) kc ks (Ag g) := by
  refine va_MetW (cc := mC e) (maxL := mL e) (ret := mR e) (hh := hh) hy rfl ?_
  intro p en s m args below meth c s₁ B hml hv
  have htb : c.exceptionTable.toList = tableOf hh := vx_table (x := mN e) B (atoms_spec (ws := wsW e hh) B.pre _ List.mem_cons_self)
  obtain ⟨rfl, hok, hKF, hH, hO, hT⟩ := hv
  have hle := lv_entry (as.map (cv g)) (n := mL e) (by rw [lg_len]; exact hl)
  rw [lg_entry_eq]
  generalize (lg_sl (as.map (cv g)) ++ List.replicate (mL e - (lg_sl (as.map (cv g))).length) Slot.unset).toArray = lsA at hle ⊢
  rw [largs_cv] at hle
  have hrt : meth.sig.returnType = mR e := B.returns
  have hlocks := B.notSynchronized
  have hx := B.exec
  have hb : c.code = mC e := B.bytes
  refine k p en (rmD d kc ks) s m _ below meth c s.heap [] 0 0 _ lsA ⟨hx, hb, hrt, hml, findClass_of_methodNamed B.named, fun w hw => atoms_spec (ws := wsW e hh) B.pre w (List.mem_cons_of_mem _ hw), hlocks, (name_of_methodNamed B.named B.method).1, hKF⟩ (Nat.le_refl _) (Nat.le_refl _) (by show 0 + kc ≤ kc; omega) (by show 0 + ks ≤ ks; omega) hH va_S.rf ⟨hO, fun z => by have := hT z; omega⟩ hle (largs_ok as 0 hok) (fun q hq => by cases hq) ⟨htb, ?_⟩
  intro v t' σ' H locs cells slots lsA' pc' i hQ hok' hH' hS' hc hs hT' hd hro
  refine W.widen (k := kc) (n := ks) (by omega) (by omega) ?_
  have hq : ∀ (ov : Option Value), ov = v.map (cv g) → ∀ u : State, u.heap = H → s.WarmedH u.vm → QcM g kc Q ((as.map (cv g)).toArray) s (.returned ov) u := fun ov ho u hu _ => ⟨v, t', σ', by rw [ho], hQ, hok', by rw [hu]; exact hH', hS'.F hu, fun z => by have := hT' z; omega⟩
  unfold rOK at hro
  split at hro
  · rename_i h
    subst hro
    exact W.vret hx hb (hrt.trans h) (hq none rfl) hS'.2.2 hd
  · rename_i y h
    subst hro
    exact W.iret hx hb (hrt.trans h) (hq _ rfl) hS'.2.2 hd
  · rename_i y h
    obtain ⟨rfl, hy⟩ := hro
    exact W.zret hx hb (hrt.trans h) (narrow_z hy) (hq _ rfl) hS'.2.2 hd
  · rename_i y h
    obtain ⟨rfl, hy0, hy1⟩ := hro
    exact W.zret hx hb (hrt.trans h) (narrow_c hy0 hy1) (hq _ rfl) hS'.2.2 hd
  · rename_i y h
    subst hro
    exact W.lret hx hb (hrt.trans h) (hq _ rfl) hS'.2.2 hd
  · rename_i n y h
    subst hro
    refine W.aret hx hb (hrt.trans h) (Or.inl ⟨_, rfl⟩) ?_ (hq _ rfl) hS'.2.2 hd
    rcases rf_cases g y with ⟨-, h⟩ | ⟨-, a, h⟩
    · exact Or.inl h
    · exact Or.inr ⟨a, h⟩
  · cases hro
theorem x_callT {Q : Post} {idx e' n mc ms ci sp ep hp hp2 ct : Nat} {as : List TV} {x : Int} {q : vw_C} {XP : Prop} {Q' : Post} (hq : vwCl[ci]? = some q) (hqc : q.1 = (mN e').cls) (hO : isO t x ci) (hk : callOk 0 (mN e).cls idx e' n = true) (hn : as.length = n) (hst : (st.map catT).sum ≤ 8) (hmc : mc ≤ kc) (hms : ms ≤ ks) (hB : gB g = false) (hd : decode (mC e) pc = .ok (.invokevirtual idx, 3))
    (hcv : covers ⟨sp, ep, hp, ct⟩ pc = true) (hct : ct ≠ 0) (hcl : Cond.classLink (mN e).cls ct NSE ∈ ALL)
    (hM : vx_Met l (mN e') (wsM e') (rmD d mc ms) (PcM g (vR x :: as) t σ) (QcM g mc Q') (XCs g t σ XP) mc ms (Ag g))
    (hQ' : ∀ v t' σ', Q' v t' σ' → Wx l g e (d + 1) (kc - mc) (ks - ms) (pc + 3) ls (v.toList ++ st) t' σ' (KCa l g e [(sp, ep, hp, ct)] Q))
    (hst2 : ∀ (p : Program) (en : Env) (R : Room) (s : State) (m : MethodId) (args : Array Value) (below : List Frame) (meth : Method) (c : Code) (H : Heap) (locs : List Loc) (cells slots : Nat) (QM : State → Prop) (lsA : Array Slot) (q : Addr), CxF g e p s m args meth c → lv_has lsA (mL e) (cvL g ls) → (∀ ls' : Array Slot, lv_has ls' (mL e) (cvL g ls) → W p l en R s m args below meth c H locs cells slots QM (F0 m hp2 ls' [])) → W p l en R s m args below meth c H locs cells slots QM (F0 m hp lsA [.ref q]))
    (hX' : XP → Wx l g e (d + 1) (kc - mc) (ks - ms) hp2 ls [] t σ (KCa l g e [(sp, ep, hp, ct)] Q)) : Wx l g e (d + 1) kc ks pc ls (as.reverse ++ vR x :: st) t σ (KCa l g e [(sp, ep, hp, ct)] Q) := by
  intro p en R s m args below meth c H locs cells slots QM lsA hC h1 h2 h3 h4 hH hS hZ hls hol hos hr T hT X
  obtain ⟨hx, fin, hs⟩ := hO
  have hsz : H.size ≤ s.heap.size + cells := by rw [← hT]; exact X.same.2.2.1
  unfold callOk at hk
  simp only [Bool.and_eq_true, decide_eq_true_eq, ne_eq] at hk
  obtain ⟨⟨⟨⟨⟨⟨k1, k2⟩, k3⟩, k4⟩, k5⟩, k6⟩, k7⟩ := hk
  rw [if_pos (Or.inl trivial)] at k6
  rw [if_pos trivial] at k7
  have w5 := inALL_of k5
  have w6 := inALL_of k6
  have hts := hC.2.2.2.2.2.1
  have hXX := hC.2.2.2.2.2.2.2.2.2.2.1.2
  have hstk : ((as.reverse ++ vR x :: st).map (cv g)) = (as.map (cv g)).reverse ++ .ref (gO g + x.toNat) :: st.map (cv g) := by
    rw [List.map_append, List.map_reverse, List.map_cons, show cv g (vR x) = rf g x from rfl, rf_ref hx]
  have hoa : okTs (vR x :: as) := okTs_cons trivial fun v hv => hos v (List.mem_append_left _ (List.mem_reverse.mpr hv))
  have hor : okTs st := fun v hv => hos v (List.mem_append_right _ (List.mem_cons_of_mem _ hv))
  have hpre : PreV s H (mN e').cls (gO g + x.toNat) (PcM g (vR x :: as) t σ) (as.map (cv g)) := by
    refine ⟨PcM_blind g _ t σ, ?_, fun U hU hW => ?_⟩
    · rw [← hqc]
      exact va_recv hC.2.2.2.2.2.2.2.2.1 hH.1 hq (world_atI (g := g) (s := σ) hx hs)
    · have := pc_in (U := U) hC hH hS hZ hsz hoa hU hW
      rw [List.map_cons, show cv g (vR x) = rf g x from rfl, rf_ref hx] at this
      exact this
  have hS0 : CallFix p m c (mC e) (mL e) s args ALL (mN e).cls := ⟨hC.1, hC.2.1, hC.2.2.2.1, hC.2.2.2.2.1, hts⟩
  have hsg : ∀ sig, parseMethodDescriptor (mN e').desc = some sig → n = sig.parameters.length := fun sig h => by
    rw [h] at k3
    exact (Option.some.inj k3).symm
  have hbk : (rmD d mc ms).cells = mc ∧ (rmD d mc ms).slots = ms ∧ (rmD d mc ms).frames + 1 ≤ R.frames ∧ 8 + (mL e' + 11) + (rmD d mc ms).locals ≤ R.locals := ⟨rfl, rfl, h1, by show 8 + (mL e' + 11) + 64 * d ≤ R.locals; omega⟩
  have hrun := vx_runV (g := F0 m pc lsA ((as.reverse ++ vR x :: st).map (cv g))) (rest := st.map (cv g)) (locs := locs) (cells := cells) (slots := slots) (below := below) (meth := meth) (e := en) hS0 hM ⟨⟨hbk.1, hbk.2.1, hbk.2.2.1, hbk.2.2.2, pay_in hts (GoodAll (e := e) (w5 _ m1)), List.mem_cons_self, hts _ (w5 _ m1), hts _ (w5 _ m2), ⟨k1, k2⟩, hsg, hts _ (inALL_of k7 _ m1)⟩, hts _ (w6 _ m1), hts _ (w6 _ m2)⟩ hpre rfl (by rw [List.length_map]; exact hn) hls.1 hstk (lv_room (by rw [cat_map]; exact hst)) hd ⟨by omega, by omega⟩
  have hcells : cells + mc + (kc - mc) = cells + kc := by omega
  have hslots : slots + ms + (ks - ms) = slots + ks := by omega
  rcases hrun T hT X with ⟨v, st₀, u, T', L, h0, X', hL, e1, e2, ⟨v', t', σ', hv, hQ, hok, hH1, ⟨hz, hk⟩, hG⟩, stp⟩ | ⟨q9, st₀, u, T', L, E, ce, h0, X', hL, e1, e2, ⟨⟨hE, hP⟩, hH1, ⟨hz, hk⟩⟩, hce, hcvm, hcls, stp⟩
  · have hv' : v = v'.map (cv g) := Outcome.returned.inj hv
    subst hv'
    rw [h0] at hz hk
    have hS1 : va_S (Ag g) s.heap T'.heap (locs ++ L) := ⟨Nat.le_trans hS.1 (by rw [e1]; exact hz), fun q h1 h2 => by rw [e1, hk q (Nat.lt_of_lt_of_le h1 hS.1) h2]; exact hS.2.1 q h1 h2, fun q hq => by
      rcases List.mem_append.mp hq with h | h
      · exact hS.2.2 q h
      · exact hL q h⟩
    have kw := hQ' v' t' σ' hQ p en R s m args below meth c T'.heap (locs ++ L) (cells + mc) (slots + ms) QM lsA hC h1 h2 (by omega) (by omega) (by rw [e1]; exact hH1) hS1 ⟨hZ.1, fun z => by rw [hB] at z; cases z⟩ hls hol (by
      intro y hy
      rcases List.mem_append.mp hy with h | h
      · cases v' with
        | none => cases h
        | some y' => rw [List.mem_singleton.mp h]; exact hok y' rfl
      · exact hor y h) (by rw [hcells, hslots]; exact hr)
    rw [← map_toList] at kw
    obtain ⟨t2, a1, b1⟩ := kw T' rfl X'
    exact ⟨t2, stp t2 a1, b1⟩
  · rw [h0] at hz hk
    subst hE
    have hS1 : va_S (Ag g) s.heap T'.heap (locs ++ L) := ⟨Nat.le_trans hS.1 (by rw [e1]; exact hz), fun q h1 h2 => by rw [e1, hk q (Nat.lt_of_lt_of_le h1 hS.1) h2]; exact hS.2.1 q h1 h2, fun q hq => by
      rcases List.mem_append.mp hq with h | h
      · exact hS.2.2 q h
      · exact hL q h⟩
    have hcast : (Cond.castable NSE NSE).before args s = true := va_Nw.use (dc_tab ns_cast.1) (hXX.2.2.2.2 _ (List.mem_filter.mpr ⟨ns_cast.2, ns_cast.1⟩))
    have kw := hst2 p en R s m args below meth c T'.heap (locs ++ L) (cells + mc) (slots + ms) QM lsA q9 hC hls (fun ls' hl' => hX' hP p en R s m args below meth c T'.heap (locs ++ L) (cells + mc) (slots + ms) QM ls' hC h1 h2 (by omega) (by omega) (by rw [e1]; exact hH1) hS1 ⟨hZ.1, fun z => by rw [hB] at z; cases z⟩ hl' hol (fun y hy => by cases hy) (by rw [hcells, hslots]; exact hr))
    have kc1 := ct_catch (H := T'.heap) (locs := locs ++ L) (cells := cells + mc) (slots := slots + ms) (Q := QM) (ls := lsA) (rest := st.map (cv g)) (pc := pc) (own := (mN e).cls) (name := NSE) (E := NSE) (ce := ce) (q := q9) hC.2.2.2.2.1 ⟨sp, ep, hp, ct⟩ (by rw [hr.1]; rfl) hcv hct (hts _ hcl) hcast (by rw [e1]; exact hce) hcvm hcls kw
    obtain ⟨t2, a1, b1⟩ := kc1 T' rfl X'
    exact ⟨t2, stp.trans a1, b1⟩
theorem r_callSW {Q : Post} {idx e' n mc ms : Nat} {hh : HT} {as : List TV} (k12 : (mN e').cls ≠ "java/lang/invoke/MethodHandle" ∧ (mN e').cls ≠ "java/lang/invoke/VarHandle") (k3 : (parseMethodDescriptor (mN e').desc).map (fun d => d.parameters.length) = some n) (k4 : mL e' ≤ 45) (w1 : Cond.codeWith (mN e') (mC e') (mL e') (mR e') hh ∈ ALL) (w2 : Cond.initialized (mN e').cls ∈ ALL) (w3 : Cond.methodLink (mN e).cls idx (mN e') ∈ ALL) (w4 : Cond.static (mN e') ∈ ALL) (hn : as.length = n) (hst : (st.map catT).sum ≤ 8) (hmc : mc ≤ kc) (hms : ms ≤ ks) (hd : decode (mC e) pc = .ok (.invokestatic idx, 3))
    (kk : Met l (mN e') (wsW e' hh) (rmD d mc ms) (PcM g as t σ) (QcM g mc (fun v t' σ' => Wp l g e (d + 1) (kc - mc) (ks - ms) (pc + 3) ls (v.toList ++ st) t' σ' Q)) mc ms (Ag g)) : Wp l g e (d + 1) kc ks pc ls (as.reverse ++ st) t σ Q := by
  intro p en R s m args below meth c H locs cells slots QM lsA hC h1 h2 h3 h4 hH hS hZ hls hol hos hr T hT X
  have hsz : H.size ≤ s.heap.size + cells := by rw [← hT]; exact X.same.2.2.1
  have hts := hC.2.2.2.2.2.1
  have hstk : ((as.reverse ++ st).map (cv g)) = (as.map (cv g)).reverse ++ st.map (cv g) := by
    rw [List.map_append, List.map_reverse]
  have hoa : okTs as := fun v hv => hos v (List.mem_append_left _ (List.mem_reverse.mpr hv))
  have hor : okTs st := fun v hv => hos v (List.mem_append_right _ hv)
  have hpre : PreS s H (PcM g as t σ) (as.map (cv g)) := ⟨PcM_blind g _ t σ, fun U hU hW => pc_in (U := U) hC hH hS hZ hsz hoa hU hW⟩
  have hS0 : CallFix p m c (mC e) (mL e) s args ALL (mN e).cls := ⟨hC.1, hC.2.1, hC.2.2.2.1, hC.2.2.2.2.1, hts⟩
  have hsg : ∀ sig, parseMethodDescriptor (mN e').desc = some sig → n = sig.parameters.length := fun sig h => by
    rw [h] at k3
    exact (Option.some.inj k3).symm
  have hbk : (rmD d mc ms).cells = mc ∧ (rmD d mc ms).slots = ms ∧ (rmD d mc ms).frames + 1 ≤ R.frames ∧ 8 + (mL e' + 11) + (rmD d mc ms).locals ≤ R.locals := ⟨rfl, rfl, h1, by show 8 + (mL e' + 11) + 64 * d ≤ R.locals; omega⟩
  have hrun : va_Run p l en R s m args below meth c H locs cells slots mc ms (F0 m pc lsA ((as.reverse ++ st).map (cv g))) (st.map (cv g)) (QcM g mc (fun v t' σ' => Wp l g e (d + 1) (kc - mc) (ks - ms) (pc + 3) ls (v.toList ++ st) t' σ' Q) ((as.map (cv g)).toArray)) (Ag g) :=
    vx_runSW hS0 kk ⟨⟨hbk.1, hbk.2.1, hbk.2.2.1, hbk.2.2.2, pay_in hts (GoodW w1), List.mem_cons_self⟩, hts _ w1, hts _ w2, k12, hsg, hts _ w3, hts _ w4⟩ hpre rfl (by rw [List.length_map]; exact hn) hls.1 hstk (lv_room (by rw [cat_map]; exact hst)) hd ⟨by omega, by omega⟩
  exact r_call (as := as) hmc hms (fun _ _ _ z => z) hC h1 h2 h3 h4 hH hS hZ hls hol hor hr hrun T hT X
end CAT
theorem l_ship {l : Launch} {g : GE} {d : Nat} {t : Tau} {σ : Mem} {Q : Post} {i w : Int} (hB : gB g = false) (hl : l.stackTraces = false) (hC : TC t) (hk : SeaOk t σ 5) (ho : isT t 199 1 ∧ lenOf t 199 = 1) (h : (shC (nS σ 5) i w → Q (some (vI 0)) t (up σ 199 0 (shpA (mS σ 5) (vwS σ 5) i w))) ∧ (¬ shC (nS σ 5) i w → Q (some (vI 1)) t σ)) : Met l (mN 290) (wsW 290 [(0, 10, 13, 13)]) (rmD (d + 10) 1 6) (PcM g [vR 0, vI i, vI w, vR 199] t σ) (QcM g 1 Q) 1 6 (Ag g) := by
  refine w_in (by decide +kernel) (show 4 ≤ mL 290 by decide) ?_
  refine wx_aload_n (i := 3) rfl (by decide +kernel) ?_
  refine wx_iconst (n := 0) (by unfold b32; omega) (by decide +kernel) ?_
  refine wx_aload_n (i := 0) rfl (by decide +kernel) ?_
  refine wx_iload_n (i := 1) rfl (by decide +kernel) ?_
  refine wx_iload_n (i := 2) rfl (by decide +kernel) ?_
  refine x_callT (d := d + 9) (idx := 7) (e' := 89) (ci := 8) (as := [vI i, vI w]) (q := (RX8, TX8, 17)) (mc := 1) (ms := 6) (hp2 := 15) rfl rfl hC.o0 ca_12_7 rfl (by decide) (by omega) (by omega) hB (by decide +kernel) (by decide) (by decide) (inA (by decide +kernel)) (t_ship (d := d) hB hl hC hk) ?_ ?_ ?_
  · rintro v t' σ' ⟨hc, rfl, rfl, rfl⟩
    refine x_of ?_ (fun _ _ _ _ _ _ _ _ _ _ _ _ z => z.2)
    show Wp l g 290 (d + 10) (1 - 1) (6 - 6) 8 _ [vI _, vI 0, vR 199] _ _ Q
    refine r_i2l (by decide +kernel) ?_
    refine r_last ho.1 (by omega) (by rw [ho.2]; omega) (by decide +kernel) ?_
    refine r_goto (off := 7) (tgt := 17) (by decide +kernel) (by decide) ?_
    refine r_iconst (n := 0) (by unfold b32; omega) (by decide +kernel) ?_
    exact r_ret (i := .ireturn) (v := some (vI 0)) rfl (by decide +kernel) rfl (Or.inr hB) (h.1 hc)
  · intro p en R s m args below meth c H locs cells slots QM lsA q hCx hls kk
    exact lv_astore hCx.1 hCx.2.1 (i := 4) (by decide +kernel) hls (show 4 < mL 290 by decide) rfl (fun ls' hl' => kk ls' (lv_has_sub hl' (fun q hq => by
      refine List.mem_cons_of_mem _ (List.mem_filter.mpr ⟨hq, ?_⟩)
      obtain ⟨r, hr, rfl⟩ := List.mem_map.mp hq
      have hr' : r = (0, vR 0) ∨ r = (1, vI i) ∨ r = (2, vI w) ∨ r = (3, vR 199) := by simpa [largs, catT] using hr
      rcases hr' with rfl | rfl | rfl | rfl <;> simp [cv_cat, catT])))
  · intro hx
    refine x_of ?_ (fun _ _ _ _ _ _ _ _ _ _ _ _ z => z.2)
    refine r_iconst (n := 1) (by unfold b32; omega) (by decide +kernel) ?_
    exact r_ret (i := .ireturn) (v := some (vI 1)) rfl (by decide +kernel) rfl (Or.inr hB) (h.2 hx)
theorem l_row {l : Launch} {g : GE} {d : Nat} {t : Tau} {σ : Mem} {Q : Post} {i : Int} (hB : gB g = false) (hl : l.stackTraces = false) (hC : TC t) (ho : isT t 199 1 ∧ lenOf t 199 = 1) (h : (roC (σ 3 1) i → Q (some (vI 0)) t (up σ 199 0 (σ 4 i))) ∧ (¬ roC (σ 3 1) i → Q (some (vI 1)) t σ)) : Met l (mN 291) (wsW 291 [(0, 8, 11, 13)]) (rmD (d + 10) 1 6) (PcM g [vR 0, vI i, vR 199] t σ) (QcM g 1 Q) 1 6 (Ag g) := by
  refine w_in (by decide +kernel) (show 3 ≤ mL 291 by decide) ?_
  refine wx_aload_n (i := 2) rfl (by decide +kernel) ?_
  refine wx_iconst (n := 0) (by unfold b32; omega) (by decide +kernel) ?_
  refine wx_aload_n (i := 0) rfl (by decide +kernel) ?_
  refine wx_iload_n (i := 1) rfl (by decide +kernel) ?_
  refine x_callT (d := d + 9) (idx := 15) (e' := 134) (ci := 8) (as := [vI i]) (q := (RX8, TX8, 17)) (mc := 1) (ms := 6) (hp2 := 12) rfl rfl hC.o0 ca_12_15 rfl (by decide) (by omega) (by omega) hB (by decide +kernel) (by decide) (by decide) (inA (by decide +kernel)) (t_row (d := d) hB hl hC) ?_ ?_ ?_
  · rintro v t' σ' ⟨hc, rfl, rfl, rfl⟩
    refine x_of ?_ (fun _ _ _ _ _ _ _ _ _ _ _ _ z => z.2)
    show Wp l g 291 (d + 10) (1 - 1) (6 - 6) 7 _ [vL _, vI 0, vR 199] _ _ Q
    refine r_last ho.1 (by omega) (by rw [ho.2]; omega) (by decide +kernel) ?_
    refine r_goto (off := 6) (tgt := 14) (by decide +kernel) (by decide) ?_
    refine r_iconst (n := 0) (by unfold b32; omega) (by decide +kernel) ?_
    exact r_ret (i := .ireturn) (v := some (vI 0)) rfl (by decide +kernel) rfl (Or.inr hB) (h.1 hc)
  · intro p en R s m args below meth c H locs cells slots QM lsA q hCx hls kk
    exact lv_astore_n hCx.1 hCx.2.1 (k := 3) (i := 3) (by decide +kernel) rfl hls (show 3 < mL 291 by decide) rfl (fun ls' hl' => kk ls' (lv_has_sub hl' (fun q hq => by
      refine List.mem_cons_of_mem _ (List.mem_filter.mpr ⟨hq, ?_⟩)
      obtain ⟨r, hr, rfl⟩ := List.mem_map.mp hq
      have hr' : r = (0, vR 0) ∨ r = (1, vI i) ∨ r = (2, vR 199) := by simpa [largs, catT] using hr
      rcases hr' with rfl | rfl | rfl <;> simp [cv_cat, catT])))
  · intro hx
    refine x_of ?_ (fun _ _ _ _ _ _ _ _ _ _ _ _ z => z.2)
    refine r_iconst (n := 1) (by unfold b32; omega) (by decide +kernel) ?_
    exact r_ret (i := .ireturn) (v := some (vI 1)) rfl (by decide +kernel) rfl (Or.inr hB) (h.2 hx)
