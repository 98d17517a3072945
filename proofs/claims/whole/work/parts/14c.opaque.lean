/-! the walk with its continuation kept opaque -/
section OPQ
variable {l : Launch} {g : GE} {e d n kc ks tg pc : Nat} {ls : List (Nat × TV)} {st : List TV} {t : Tau} {σ : Mem} {Q : Post} {E : EC} {J : Nat → Cont} {tb : Tb}
theorem vJn {is : List Instr} {f : Nat → Cont} : vcJ l g e d E Q tg f (none, is) kc ks ls st t σ = vcl g E f Q is kc ks ls st t σ := propext Iff.rfl
theorem vJs {is : List Instr} {f : Nat → Cont} {lv : List Nat} : vcJ l g e d E Q tg f (some lv, is) kc ks ls st t σ = Wp l g e (d + 1) kc ks tg (lkeep lv ls) st t σ Q := propext Iff.rfl
theorem vlc {i : Instr} {r : List Instr} : vcl g E J Q (i :: r) kc ks ls st t σ = ex1 g E J Q i (vcl g E J Q r) kc ks ls st t σ := propext Iff.rfl
def NEq (l : Launch) (g : GE) (e d : Nat) (E : EC) (Q : Post) (tb : Tb) (N : Nat → Nat → Cont) : Prop := ∀ n tg kc ks ls st t σ, N (n + 1) tg kc ks ls st t σ = vcJ l g e d E Q tg (N n) (lkp tg tb) kc ks ls st t σ
theorem wa (hE : e < 293) (hEC : ∀ e' as t σ Q', E e' as t σ Q' → WPc l g e' d 0 0 as t σ Q') (htb : tb.all (fun q => chk e q.1 q.2.2) = true) (n : Nat) (h : ∀ N : Nat → Nat → Cont, NEq l g e d E Q tb N → vcl g E (N n) Q (lkp pc tb).2 kc ks ls st t σ) : Wp l g e (d + 1) kc ks pc ls st t σ Q :=
  wp_at hE hEC htb n (h (vcN l g e d E Q tb) fun _ _ _ _ _ _ _ _ => rfl)
theorem wg {as : List TV} {ml : Nat} (hE : e < 293) (hEC : ∀ e' as t σ Q', E e' as t σ Q' → WPc l g e' d 0 0 as t σ Q') (htb : tb.all (fun q => chk e q.1 q.2.2) = true) (hy : plainName (mN e).cls = true) (hml : mL e = ml) (n : Nat) (hl : (as.map catT).sum ≤ ml) (h : ∀ N : Nat → Nat → Cont, NEq l g e d E Q tb N → vcl g E (N n) Q (lkp 0 tb).2 kc ks (largs 0 as) [] t σ) : WPc l g e (d + 1) kc ks as t σ Q :=
  wp_in hy (by rw [hml]; exact hl) (wa hE hEC htb n h)
end OPQ
