/-! methods of java.lang.Math; the words that a walk is simplified by -/
section CALF
variable {l : Launch} {g : GE} {e d kc ks pc : Nat} {ls : List (Nat × TV)} {st : List TV} {t : Tau} {σ : Mem} {Q : Post}
theorem wp_inF {as : List TV} (hy : plainFor (mN e) = true) (hl : (as.map catT).sum ≤ mL e) (k : Wp l g e d kc ks 0 (largs 0 as) [] t σ Q) : WPc l g e d kc ks as t σ Q := by
  refine va_MetF (cc := mC e) (maxL := mL e) (ret := mR e) hy rfl ?_
  intro p en s m args below meth c s₁ B hml hv
  obtain ⟨rfl, hok, hKF, hH, hO, hT⟩ := hv
  have hle := lv_entry (as.map (cv g)) (n := mL e) (by rw [lg_len]; exact hl)
  rw [lg_entry_eq]
  generalize (lg_sl (as.map (cv g)) ++ List.replicate (mL e - (lg_sl (as.map (cv g))).length) Slot.unset).toArray = lsA at hle ⊢
  rw [largs_cv] at hle
  have hrt : meth.sig.returnType = mR e := B.returns
  have hlocks := B.notSynchronized
  have hx := B.exec
  have hb : c.code = mC e := B.bytes
  refine k p en (rmD d kc ks) s m _ below meth c s.heap [] 0 0 _ lsA ⟨hx, hb, hrt, hml, findClass_of_methodNamed B.named, fun w hw => atoms_spec (ws := wsM e) B.pre w (List.mem_cons_of_mem _ hw), hlocks, (name_of_methodNamed B.named B.method).1, hKF⟩ (Nat.le_refl _) (Nat.le_refl _) (by show 0 + kc ≤ kc; omega) (by show 0 + ks ≤ ks; omega) hH va_S.rf ⟨hO, fun z => by have := hT z; omega⟩ hle (largs_ok as 0 hok) (fun q hq => by cases hq) ?_
  intro v t' σ' H locs cells slots lsA' pc' i hQ hok' hH' hS' hc hs hT' hd hro
  refine W.widen (k := kc) (n := ks) (by omega) (by omega) ?_
  have hq : ∀ (ov : Option Value), ov = v.map (cv g) → ∀ u : State, u.heap = H → s.WarmedH u.vm → QcM g kc Q ((as.map (cv g)).toArray) s (.returned ov) u := fun ov ho u hu _ => ⟨v, t', σ', by rw [ho], hQ, hok', by rw [hu]; exact hH', hS'.F hu, fun z => by have := hT' z; omega⟩
  unfold rOK at hro
  split at hro
  · rename_i h
    subst hro
    exact W.vret hx hb (hrt.trans h) (hq none rfl) hS'.2.2 hd
  · rename_i y h
    subst hro
    exact W.iret hx hb (hrt.trans h) (hq _ rfl) hS'.2.2 hd
  · rename_i y h
    obtain ⟨rfl, hy⟩ := hro
    exact W.zret hx hb (hrt.trans h) (narrow_z hy) (hq _ rfl) hS'.2.2 hd
  · rename_i y h
    obtain ⟨rfl, hy0, hy1⟩ := hro
    exact W.zret hx hb (hrt.trans h) (narrow_c hy0 hy1) (hq _ rfl) hS'.2.2 hd
  · rename_i y h
    subst hro
    exact W.lret hx hb (hrt.trans h) (hq _ rfl) hS'.2.2 hd
  · rename_i n y h
    subst hro
    refine W.aret hx hb (hrt.trans h) (Or.inl ⟨_, rfl⟩) ?_ (hq _ rfl) hS'.2.2 hd
    rcases rf_cases g y with ⟨-, h⟩ | ⟨-, a, h⟩
    · exact Or.inl h
    · exact Or.inr ⟨a, h⟩
  · cases hro
theorem wp_goF {tb : Tb} {as : List TV} {ml : Nat} (hE : e < 293) (htb : tb.all (fun q => chk e q.1 q.2.2) = true) (hy : plainFor (mN e) = true) (hml : mL e = ml) (n : Nat) (hl : (as.map catT).sum ≤ ml) (h : vcl l g e d (vcN l g e d Q tb n) Q (lkp 0 tb).2 kc ks (largs 0 as) [] t σ) : WPc l g e (d + 1) kc ks as t σ Q :=
  wp_inF hy (by rw [hml]; exact hl) (wp_at hE htb n h)
end CALF
