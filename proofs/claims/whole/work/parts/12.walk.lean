/-! the walk of a method's code -/
def isTm (i : Instr) : Bool := match i with
  | .goto _ => true
  | .lookupswitch .. => true
  | .ireturn => true
  | .freturn => true
  | .dreturn => true
  | .lreturn => true
  | .areturn => true
  | .return_ => true
  | _ => false
def vcl (g : GE) (E : EC) (J : Nat → Cont) (Q : Post) : List Instr → Cont
  | [] => fun _ _ _ _ _ _ => False
  | i :: r => ex1 g E J Q i (vcl g E J Q r)
def isFall (i : Instr) : Option Int := match i with
  | .goto_w n => some n
  | _ => none
def chk (e : Nat) : Nat → List Instr → Bool
  | _, [] => false
  | pc, i :: r => match isFall i with
    | some n => decide (n = (pc : Int))
    | none => match decode (mC e) pc with
      | .ok (a, len) => agr e pc a len i && (isTm i || chk e (pc + len) r)
      | .error _ => false
abbrev Tb : Type := List (Nat × Option (List Nat) × List Instr)
def lkp (tg : Nat) : Tb → Option (List Nat) × List Instr
  | [] => (none, [])
  | (p, x) :: r => if tg = p then x else lkp tg r
def vcJ (l : Launch) (g : GE) (e d : Nat) (E : EC) (Q : Post) (tg : Nat) (f : Nat → Cont) (x : Option (List Nat) × List Instr) : Cont := match x.1 with
  | some live => fun kc ks ls st t σ => Wp l g e (d + 1) kc ks tg (lkeep live ls) st t σ Q
  | none => vcl g E f Q x.2
def vcN (l : Launch) (g : GE) (e d : Nat) (E : EC) (Q : Post) (tb : Tb) : Nat → Nat → Cont
  | 0, tg => fun kc ks ls st t σ => Wp l g e (d + 1) kc ks tg ls st t σ Q
  | n + 1, tg => vcJ l g e d E Q tg (vcN l g e d E Q tb n) (lkp tg tb)
section WLK
variable {l : Launch} {g : GE} {e d kc ks pc : Nat} {ls : List (Nat × TV)} {st : List TV} {t : Tau} {σ : Mem} {Q : Post} {E : EC} {J : Nat → Cont}
theorem ex1_tm {i : Instr} {k k' : Cont} (h : isTm i = true) (hx : ex1 g E J Q i k kc ks ls st t σ) : ex1 g E J Q i k' kc ks ls st t σ := by
  cases i <;> first | exact hx | cases h
theorem vcl_ok (hE : e < 293) (hEC : ∀ e' as t σ Q', E e' as t σ Q' → WPc l g e' d 0 0 as t σ Q') (hJ : ∀ tg kc ks ls st t σ, J tg kc ks ls st t σ → Wp l g e (d + 1) kc ks tg ls st t σ Q) : ∀ (is : List Instr) (pc kc ks : Nat) (ls : List (Nat × TV)) (st : List TV) (t : Tau) (σ : Mem), chk e pc is = true → vcl g E J Q is kc ks ls st t σ → Wp l g e (d + 1) kc ks pc ls st t σ Q
  | [], _, _, _, _, _, _, _, h, _ => by cases h
  | i :: r, pc, kc, ks, ls, st, t, σ, h, hv => by
    unfold chk at h
    cases hf : isFall i with
    | some n =>
      rw [hf] at h
      have hn := of_decide_eq_true h
      have hi : i = .goto_w n := by
        cases i <;> first | (cases hf; rfl) | cases hf
      subst hi
      have := hJ _ _ _ _ _ _ _ hv
      rw [hn, Int.toNat_natCast] at this
      exact this
    | none =>
      rw [hf] at h
      cases hd : decode (mC e) pc with
      | error m => rw [hd] at h; cases h
      | ok q =>
        obtain ⟨a, len⟩ := q
        rw [hd] at h
        simp only [Bool.and_eq_true, Bool.or_eq_true] at h
        obtain ⟨hag, hr⟩ := h
        rcases hr with hr | hr
        · exact ex1_ok (k := fun _ _ _ _ _ _ => False) hE hEC hag hd (fun _ _ _ _ _ _ z => z.elim) hJ (ex1_tm hr hv)
        · exact ex1_ok hE hEC hag hd (fun kc ks ls st t σ z => vcl_ok hE hEC hJ r (pc + len) kc ks ls st t σ hr z) hJ hv
theorem lkp_ok {tb : Tb} (htb : tb.all (fun q => chk e q.1 q.2.2) = true) {tg : Nat} : (lkp tg tb).2 = [] ∨ chk e tg (lkp tg tb).2 = true := by
  induction tb with
  | nil => exact Or.inl rfl
  | cons q r ih =>
    obtain ⟨p, x⟩ := q
    rw [List.all_cons, Bool.and_eq_true] at htb
    unfold lkp
    by_cases hp : tg = p
    · rw [if_pos hp, hp]; exact Or.inr htb.1
    · rw [if_neg hp]; exact ih htb.2
theorem vcl_nil {is : List Instr} (h : is = []) : ¬ vcl g E J Q is kc ks ls st t σ := by
  subst h
  exact fun z => z
theorem vcN_ok {tb : Tb} (hE : e < 293) (hEC : ∀ e' as t σ Q', E e' as t σ Q' → WPc l g e' d 0 0 as t σ Q') (htb : tb.all (fun q => chk e q.1 q.2.2) = true) : ∀ (n tg kc ks : Nat) (ls : List (Nat × TV)) (st : List TV) (t : Tau) (σ : Mem), vcN l g e d E Q tb n tg kc ks ls st t σ → Wp l g e (d + 1) kc ks tg ls st t σ Q
  | 0, _, _, _, _, _, _, _, h => h
  | n + 1, tg, kc, ks, ls, st, t, σ, h => by
    have h' : vcJ l g e d E Q tg (vcN l g e d E Q tb n) (lkp tg tb) kc ks ls st t σ := h
    unfold vcJ at h'
    cases hx : (lkp tg tb).1 with
    | some live => rw [hx] at h'; exact r_keep h'
    | none =>
      rw [hx] at h'
      rcases lkp_ok htb (tg := tg) with h1 | h1
      · exact (vcl_nil h1 h').elim
      · exact vcl_ok hE hEC (fun tg kc ks ls st t σ z => vcN_ok hE hEC htb n tg kc ks ls st t σ z) _ tg kc ks ls st t σ h1 h'
theorem wp_at {tb : Tb} (hE : e < 293) (hEC : ∀ e' as t σ Q', E e' as t σ Q' → WPc l g e' d 0 0 as t σ Q') (htb : tb.all (fun q => chk e q.1 q.2.2) = true) (n : Nat) (h : vcl g E (vcN l g e d E Q tb n) Q (lkp pc tb).2 kc ks ls st t σ) : Wp l g e (d + 1) kc ks pc ls st t σ Q := by
  rcases lkp_ok htb (tg := pc) with h1 | h1
  · exact (vcl_nil h1 h).elim
  · exact vcl_ok hE hEC (fun tg kc ks ls st t σ z => vcN_ok hE hEC htb n tg kc ks ls st t σ z) _ pc kc ks ls st t σ h1 h
theorem wp_go {tb : Tb} {as : List TV} {ml : Nat} (hE : e < 293) (hEC : ∀ e' as t σ Q', E e' as t σ Q' → WPc l g e' d 0 0 as t σ Q') (htb : tb.all (fun q => chk e q.1 q.2.2) = true) (hy : plainName (mN e).cls = true) (hml : mL e = ml) (n : Nat) (hl : (as.map catT).sum ≤ ml) (h : vcl g E (vcN l g e d E Q tb n) Q (lkp 0 tb).2 kc ks (largs 0 as) [] t σ) : WPc l g e (d + 1) kc ks as t σ Q :=
  wp_in hy (by rw [hml]; exact hl) (wp_at hE hEC htb n h)
end WLK
