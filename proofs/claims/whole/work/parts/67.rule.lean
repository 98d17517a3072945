/-! rules: expressions, and how signs lead to them one by one -/
abbrev Ex : Type := List Int
def xN (v : Int) : Ex := [v]
def xL (c : Int) : Ex := [1000 + c]
def xM (a : Ex) : Ex := a ++ [1126]
def xB (o : Int) (a b : Ex) : Ex := a ++ (b ++ [1000 + o])
noncomputable def ngL (st : List Int) : List Int := match st with
  | x :: r => w32 (-x) :: r
  | [] => []
noncomputable def jnL (c : Int) (st : List Int) : List Int := match st with
  | y :: x :: r => joinV c x y :: r
  | st => st
noncomputable def lsT (E : Int → Int) (p : Int) (st : List Int) : List Int :=
  if p < 1000 then p :: st
  else if ltB (p - 1000) = 1 then E (ltI (p - 1000)) :: st
  else if p - 1000 = 126 then ngL st
  else jnL (p - 1000) st
noncomputable def evS (E : Int → Int) (L st : List Int) : List Int := L.foldl (fun st p => lsT E p st) st
noncomputable def evE (E : Int → Int) (e : Ex) : Int := (evS E e []).headD 0
abbrev OE : Type := Option (Ex × Int)
/-- what waits between two brackets: a comparison, a sum, a product, signs of less -/
abbrev Lv : Type := OE × OE × OE × Nat
def Lv.cm (l : Lv) : OE := l.1
def Lv.su (l : Lv) : OE := l.2.1
def Lv.mu (l : Lv) : OE := l.2.2.1
def Lv.ng (l : Lv) : Nat := l.2.2.2
def apO (o : OE) (e : Ex) : Ex := match o with
  | none => e
  | some (a, c) => xB c a e
def ngE : Nat → Ex → Ex
  | 0, e => e
  | n + 1, e => ngE n (xM e)
def Lv.m (l : Lv) (e : Ex) : Ex := apO l.mu (ngE l.ng e)
def Lv.s (l : Lv) (e : Ex) : Ex := apO l.su (l.m e)
def Lv.c (l : Lv) (e : Ex) : Ex := apO l.cm (l.s e)
def lv0 : Lv := ⟨none, none, none, 0⟩
abbrev Sr : Type := (List Lv × Lv) ⊕ (List Lv × Lv × Ex × Nat)
abbrev oP (ls : List Lv) (l : Lv) : Sr := .inl (ls, l)
abbrev cL (ls : List Lv) (l : Lv) (e : Ex) (k : Nat) : Sr := .inr (ls, l, e, k)
def dgE (e : Ex) (d : Int) : Ex := match e with
  | [v] => [v * 10 + d]
  | e => e
def stO (ls : List Lv) (l : Lv) (c : Int) : Option Sr :=
  if 48 ≤ c ∧ c ≤ 57 then some (cL ls l (xN (c - 48)) 1)
  else if ltB c = 1 then some (cL ls l (xL c) 0)
  else if c = 45 then some (oP ls ⟨l.cm, l.su, l.mu, l.ng + 1⟩)
  else if c = 40 ∧ ls.length < 4 then some (oP (l :: ls) lv0)
  else none
def stC (ls : List Lv) (l : Lv) (e : Ex) (k : Nat) (c : Int) : Option Sr :=
  if 48 ≤ c ∧ c ≤ 57 then (if k = 1 ∨ k = 2 then some (cL ls l (dgE e (c - 48)) (k + 1)) else none)
  else if c = 41 then (match ls with
    | [] => none
    | l' :: ls' => some (cL ls' l' (l.c e) 0))
  else if c = 42 ∨ c = 47 then some (oP ls ⟨l.cm, l.su, some (l.m e, c), 0⟩)
  else if c = 43 ∨ c = 45 then some (oP ls ⟨l.cm, some (l.s e, c), none, 0⟩)
  else if c = 60 ∨ c = 61 ∨ c = 62 then (if l.cm.isSome then none else some (oP ls ⟨some (l.s e, c), none, none, 0⟩))
  else none
def srT (s : Sr) (c : Int) : Option Sr := match s with
  | .inl (ls, l) => stO ls l c
  | .inr (ls, l, e, k) => stC ls l e k c
abbrev Rs : Type := Nat ⊕ Ex
abbrev bD (p : Nat) : Rs := .inl p
abbrev oK (e : Ex) : Rs := .inr e
def endS (N : Nat) (s : Sr) : Rs := match s with
  | .inr ([], l, e, _) => oK (l.c e)
  | _ => bD N
/-- q signs are left of N -/
def rn (x : Nat → Int) (N : Nat) : Nat → Sr → Rs
  | 0, s => endS N s
  | q + 1, s => match srT s (x (N - (q + 1))) with
    | none => bD (N - (q + 1))
    | some s' => rn x N q s'
def hr (x : Nat → Int) (N q : Nat) : Int := if q = 0 then -1 else x (N - q)
theorem hr_s {x : Nat → Int} {N q : Nat} : hr x N (q + 1) = x (N - (q + 1)) := rfl
theorem ltB_c {c : Int} (h : ltB c = 1) : c = 115 ∨ c = 111 ∨ c = 101 ∨ c = 119 ∨ c = 108 ∨ c = 110 := by
  unfold ltB at h
  by_cases z : c = 115 ∨ c = 111 ∨ c = 101 ∨ c = 119 ∨ c = 108 ∨ c = 110
  · exact z
  · rw [if_neg z] at h; omega
/-- closed states that go on alike -/
theorem stC_1 {ls : List Lv} {l l' : Lv} {e e' : Ex} {c : Int} (h1 : l.m e = l'.m e') (h2 : l.su = l'.su) (h3 : l.cm = l'.cm) : stC ls l e 0 c = stC ls l' e' 0 c := by
  have hs : l.s e = l'.s e' := by unfold Lv.s; rw [h1, h2]
  have hc : l.c e = l'.c e' := by unfold Lv.c; rw [hs, h3]
  unfold stC
  rw [h1, h2, h3, hs, hc]
  simp
theorem rn_1 {x : Nat → Int} {N : Nat} {ls : List Lv} {l l' : Lv} {e e' : Ex} (h1 : l.m e = l'.m e') (h2 : l.su = l'.su) (h3 : l.cm = l'.cm) : ∀ q, rn x N q (cL ls l e 0) = rn x N q (cL ls l' e' 0)
  | 0 => by
    have hs : l.s e = l'.s e' := by unfold Lv.s; rw [h1, h2]
    have hc : l.c e = l'.c e' := by unfold Lv.c; rw [hs, h3]
    cases ls with
    | nil => show oK _ = oK _; rw [hc]
    | cons a b => rfl
  | q + 1 => by
    unfold rn srT
    simp only [stC_1 (ls := ls) (c := x (N - (q + 1))) h1 h2 h3]
theorem stC_2 {ls : List Lv} {l l' : Lv} {e e' : Ex} {c : Int} (h1 : l.s e = l'.s e') (h3 : l.cm = l'.cm) (hc1 : c ≠ 42) (hc2 : c ≠ 47) : stC ls l e 0 c = stC ls l' e' 0 c := by
  have hc : l.c e = l'.c e' := by unfold Lv.c; rw [h1, h3]
  unfold stC
  rw [h1, h3, hc]
  simp [hc1, hc2]
theorem rn_2 {x : Nat → Int} {N : Nat} {ls : List Lv} {l l' : Lv} {e e' : Ex} (h1 : l.s e = l'.s e') (h3 : l.cm = l'.cm) : ∀ q, hr x N q ≠ 42 → hr x N q ≠ 47 → rn x N q (cL ls l e 0) = rn x N q (cL ls l' e' 0)
  | 0, _, _ => by
    have hc : l.c e = l'.c e' := by unfold Lv.c; rw [h1, h3]
    cases ls with
    | nil => show oK _ = oK _; rw [hc]
    | cons a b => rfl
  | q + 1, a, b => by
    unfold rn srT
    simp only [stC_2 (ls := ls) (c := x (N - (q + 1))) h1 h3 a b]
theorem rn_k {x : Nat → Int} {N : Nat} {ls : List Lv} {l : Lv} {e : Ex} {k : Nat} : ∀ q, (¬ (48 ≤ hr x N q ∧ hr x N q ≤ 57) ∨ ¬ (k = 1 ∨ k = 2)) → rn x N q (cL ls l e k) = rn x N q (cL ls l e 0)
  | 0, _ => by cases ls <;> rfl
  | q + 1, h => by
    rw [hr_s] at h
    unfold rn srT stC
    generalize x (N - (q + 1)) = c at h
    by_cases hd : 48 ≤ c ∧ c ≤ 57
    · have hk : ¬ (k = 1 ∨ k = 2) := by
        rcases h with h | h
        · exact absurd hd h
        · exact h
      simp only [hd, hk]
      simp
    · simp only [hd]
      simp
/-- what is read of a thing, a product, a sum -/
abbrev RT : Type := Nat ⊕ (Ex × Nat)
def goR (x : Nat → Int) (N : Nat) (f : Ex → Sr) (R : RT) : Rs := match R with
  | .inl w => bD w
  | .inr (e, q') => rn x N q' (f e)
def RTl (q : Nat) (R : RT) : Prop := match R with
  | .inl _ => True
  | .inr (_, q') => q' ≤ q
def ThOk (x : Nat → Int) (N dp q : Nat) (R : RT) : Prop := RTl q R ∧ ∀ ls l, ls.length = dp → rn x N q (oP ls l) = goR x N (fun e => cL ls l e 0) R
def nxN (x : Nat → Int) (N : Nat) (S : List Int) (R : RT) : Prop := match R with
  | .inl _ => True
  | .inr (_, q') => hr x N q' ∉ S
def PdOk (x : Nat → Int) (N dp q : Nat) (R : RT) : Prop := RTl q R ∧ nxN x N [42, 47] R ∧ ∀ ls a b, ls.length = dp → rn x N q (oP ls ⟨a, b, none, 0⟩) = goR x N (fun e => cL ls ⟨a, b, none, 0⟩ e 0) R
def SmOk (x : Nat → Int) (N dp q : Nat) (R : RT) : Prop := RTl q R ∧ nxN x N [42, 47, 43, 45] R ∧ ∀ ls a, ls.length = dp → rn x N q (oP ls ⟨a, none, none, 0⟩) = goR x N (fun e => cL ls ⟨a, none, none, 0⟩ e 0) R
/-- what comes behind all that stands between two brackets -/
def aft (x : Nat → Int) (N : Nat) (ls : List Lv) (e : Ex) (q : Nat) : Rs := match ls with
  | [] => if q = 0 then oK e else bD (N - q)
  | l' :: ls' => if hr x N q = 41 then rn x N (q - 1) (cL ls' l' e 0) else bD (N - q)
def HeOk (x : Nat → Int) (N dp q : Nat) (R : RT) : Prop := RTl q R ∧ ∀ ls, ls.length = dp → rn x N q (oP ls lv0) = match R with
  | .inl w => bD w
  | .inr (e, q') => aft x N ls e q'
