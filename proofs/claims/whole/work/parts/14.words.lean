/-! methods of java.lang.Math; the words that a walk is simplified by -/
section CALF
variable {l : Launch} {g : GE} {e d kc ks pc : Nat} {ls : List (Nat × TV)} {st : List TV} {t : Tau} {σ : Mem} {Q : Post} {E : EC}
theorem wp_inF {as : List TV} (hy : plainFor (mN e) = true) (hl : (as.map catT).sum ≤ mL e) (k : Wp l g e d kc ks 0 (largs 0 as) [] t σ Q) : WPc l g e d kc ks as t σ Q := by
  refine va_MetF (cc := mC e) (maxL := mL e) (ret := mR e) hy rfl ?_
  intro p en s m args below meth c s₁ B hml hv
  obtain ⟨rfl, hok, hKF, hH, hO, hT⟩ := hv
  have hle := lv_entry (as.map (cv g)) (n := mL e) (by rw [lg_len]; exact hl)
  rw [lg_entry_eq]
  generalize (lg_sl (as.map (cv g)) ++ List.replicate (mL e - (lg_sl (as.map (cv g))).length) Slot.unset).toArray = lsA at hle ⊢
  rw [largs_cv] at hle
  have hrt : meth.sig.returnType = mR e := B.returns
  have hlocks := B.notSynchronized
  have hx := B.exec
  have hb : c.code = mC e := B.bytes
  refine k p en (rmD d kc ks) s m _ below meth c s.heap [] 0 0 _ lsA ⟨hx, hb, hrt, hml, findClass_of_methodNamed B.named, fun w hw => atoms_spec (ws := wsM e) B.pre w (List.mem_cons_of_mem _ hw), hlocks, (name_of_methodNamed B.named B.method).1, hKF⟩ (Nat.le_refl _) (Nat.le_refl _) (by show 0 + kc ≤ kc; omega) (by show 0 + ks ≤ ks; omega) hH va_S.rf ⟨hO, fun z => by have := hT z; omega⟩ hle (largs_ok as 0 hok) (fun q hq => by cases hq) ?_
  intro v t' σ' H locs cells slots lsA' pc' i hQ hok' hH' hS' hc hs hT' hd hro
  refine W.widen (k := kc) (n := ks) (by omega) (by omega) ?_
  have hq : ∀ (ov : Option Value), ov = v.map (cv g) → ∀ u : State, u.heap = H → s.WarmedH u.vm → QcM g kc Q ((as.map (cv g)).toArray) s (.returned ov) u := fun ov ho u hu _ => ⟨v, t', σ', by rw [ho], hQ, hok', by rw [hu]; exact hH', hS'.F hu, fun z => by have := hT' z; omega⟩
  unfold rOK at hro
  split at hro
  · rename_i h
    subst hro
    exact W.vret hx hb (hrt.trans h) (hq none rfl) hS'.2.2 hd
  · rename_i y h
    subst hro
    exact W.iret hx hb (hrt.trans h) (hq _ rfl) hS'.2.2 hd
  · rename_i y h
    obtain ⟨rfl, hy⟩ := hro
    exact W.zret hx hb (hrt.trans h) (narrow_z hy) (hq _ rfl) hS'.2.2 hd
  · rename_i y h
    obtain ⟨rfl, hy0, hy1⟩ := hro
    exact W.zret hx hb (hrt.trans h) (narrow_c hy0 hy1) (hq _ rfl) hS'.2.2 hd
  · rename_i y h
    subst hro
    exact W.lret hx hb (hrt.trans h) (hq _ rfl) hS'.2.2 hd
  · rename_i n y h
    subst hro
    refine W.aret hx hb (hrt.trans h) (Or.inl ⟨_, rfl⟩) ?_ (hq _ rfl) hS'.2.2 hd
    rcases rf_cases g y with ⟨-, h⟩ | ⟨-, a, h⟩
    · exact Or.inl h
    · exact Or.inr ⟨a, h⟩
  · cases hro
theorem wp_goF {tb : Tb} {as : List TV} {ml : Nat} (hE : e < 293) (hEC : ∀ e' as t σ Q', E e' as t σ Q' → WPc l g e' d 0 0 as t σ Q') (htb : tb.all (fun q => chk e q.1 q.2.2) = true) (hy : plainFor (mN e) = true) (hml : mL e = ml) (n : Nat) (hl : (as.map catT).sum ≤ ml) (h : vcl g E (vcN l g e d E Q tb n) Q (lkp 0 tb).2 kc ks (largs 0 as) [] t σ) : WPc l g e (d + 1) kc ks as t σ Q :=
  wp_inF hy (by rw [hml]; exact hl) (wp_at hE hEC htb n h)
end CALF
section WRD
variable {l : Launch} {g : GE} {e d n kc ks tg : Nat} {ls : List (Nat × TV)} {st : List TV} {t : Tau} {σ : Mem} {Q : Post} {E : EC} {J : Nat → Cont} {tb : Tb}
theorem vcN_s : vcN l g e d E Q tb (n + 1) tg kc ks ls st t σ = vcJ l g e d E Q tg (vcN l g e d E Q tb n) (lkp tg tb) kc ks ls st t σ := rfl
theorem vcJ_n {is : List Instr} {f : Nat → Cont} : vcJ l g e d E Q tg f (none, is) kc ks ls st t σ = vcl g E f Q is kc ks ls st t σ := rfl
theorem vcJ_s {is : List Instr} {f : Nat → Cont} {lv : List Nat} : vcJ l g e d E Q tg f (some lv, is) kc ks ls st t σ = Wp l g e (d + 1) kc ks tg (lkeep lv ls) st t σ Q := rfl
theorem vcl_c {i : Instr} {r : List Instr} : vcl g E J Q (i :: r) kc ks ls st t σ = ex1 g E J Q i (vcl g E J Q r) kc ks ls st t σ := rfl
end WRD
/-! a register of contracts, that a walk looks up -/
abbrev Sp : Type := List TV → Tau → Mem → Post → Prop
abbrev Reg : Type := List (Nat × Sp)
def rlk (e : Nat) : Reg → Option Sp
  | [] => none
  | (j, f) :: r => if e = j then some f else rlk e r
def rOr (f : Option Sp) (w : Sp) : Sp := match f with
  | some f => f
  | none => w
def rE (l : Launch) (g : GE) (d : Nat) (r : Reg) : EC := fun e as t σ Q => rOr (rlk e r) (WPc l g e d 0 0) as t σ Q
theorem rE_nil {l : Launch} {g : GE} {d : Nat} : ∀ e as t σ Q, rE l g d [] e as t σ Q → WPc l g e d 0 0 as t σ Q := fun _ _ _ _ _ h => h
theorem rE_cons {l : Launch} {g : GE} {d j : Nat} {f : Sp} {r : Reg} (hf : ∀ as t σ Q, f as t σ Q → WPc l g j d 0 0 as t σ Q) (hr : ∀ e as t σ Q, rE l g d r e as t σ Q → WPc l g e d 0 0 as t σ Q) : ∀ e as t σ Q, rE l g d ((j, f) :: r) e as t σ Q → WPc l g e d 0 0 as t σ Q := by
  intro e as t σ Q h
  unfold rE rlk at h
  by_cases he : e = j
  · rw [if_pos he] at h
    subst he
    exact hf as t σ Q h
  · rw [if_neg he] at h
    exact hr e as t σ Q h
/-! patterns of arguments -/
def aR (as : List TV) (f : Int → Prop) : Prop := match as with
  | [.inr (.inr a)] => f a
  | _ => False
def aI (as : List TV) (f : Int → Prop) : Prop := match as with
  | [.inl a] => f a
  | _ => False
def aII (as : List TV) (f : Int → Int → Prop) : Prop := match as with
  | [.inl a, .inl b] => f a b
  | _ => False
def aIII (as : List TV) (f : Int → Int → Int → Prop) : Prop := match as with
  | [.inl a, .inl b, .inl c] => f a b c
  | _ => False
def aRI (as : List TV) (f : Int → Int → Prop) : Prop := match as with
  | [.inr (.inr a), .inl b] => f a b
  | _ => False
def aRII (as : List TV) (f : Int → Int → Int → Prop) : Prop := match as with
  | [.inr (.inr a), .inl b, .inl c] => f a b c
  | _ => False
def aRIII (as : List TV) (f : Int → Int → Int → Int → Prop) : Prop := match as with
  | [.inr (.inr a), .inl b, .inl c, .inl d] => f a b c d
  | _ => False
theorem aR_e {as : List TV} {f : Int → Prop} (h : aR as f) : ∃ a, as = [vR a] ∧ f a := by
  unfold aR at h
  split at h
  · exact ⟨_, rfl, h⟩
  · exact h.elim
theorem aI_e {as : List TV} {f : Int → Prop} (h : aI as f) : ∃ a, as = [vI a] ∧ f a := by
  unfold aI at h
  split at h
  · exact ⟨_, rfl, h⟩
  · exact h.elim
theorem aII_e {as : List TV} {f : Int → Int → Prop} (h : aII as f) : ∃ a b, as = [vI a, vI b] ∧ f a b := by
  unfold aII at h
  split at h
  · exact ⟨_, _, rfl, h⟩
  · exact h.elim
theorem aIII_e {as : List TV} {f : Int → Int → Int → Prop} (h : aIII as f) : ∃ a b c, as = [vI a, vI b, vI c] ∧ f a b c := by
  unfold aIII at h
  split at h
  · exact ⟨_, _, _, rfl, h⟩
  · exact h.elim
theorem aRI_e {as : List TV} {f : Int → Int → Prop} (h : aRI as f) : ∃ a b, as = [vR a, vI b] ∧ f a b := by
  unfold aRI at h
  split at h
  · exact ⟨_, _, rfl, h⟩
  · exact h.elim
theorem aRII_e {as : List TV} {f : Int → Int → Int → Prop} (h : aRII as f) : ∃ a b c, as = [vR a, vI b, vI c] ∧ f a b c := by
  unfold aRII at h
  split at h
  · exact ⟨_, _, _, rfl, h⟩
  · exact h.elim
theorem aRIII_e {as : List TV} {f : Int → Int → Int → Int → Prop} (h : aRIII as f) : ∃ a b c d, as = [vR a, vI b, vI c, vI d] ∧ f a b c d := by
  unfold aRIII at h
  split at h
  · exact ⟨_, _, _, _, rfl, h⟩
  · exact h.elim
