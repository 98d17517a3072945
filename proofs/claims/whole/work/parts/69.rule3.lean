/-! rules: what is kept of them, each sign behind what it joins -/
noncomputable def rl (env : Int → Int) (L : List Int) (m : Stk) : Stk := L.foldl (fun m p => stp env p m) m
theorem rl_app {env : Int → Int} {L M : List Int} {m : Stk} : rl env (L ++ M) m = rl env M (rl env L m) := List.foldl_append
theorem rl_cons {env : Int → Int} {p : Int} {M : List Int} {m : Stk} : rl env (p :: M) m = rl env M (stp env p m) := rfl
theorem rl_run {code env : Int → Int} {m : Stk} : ∀ L : List Int, (∀ k : Nat, k < L.length → code k = L.getD k 0) → runC code env m L.length = rl env L m := by
  have key : ∀ (L : List Int) (n : Nat), n ≤ L.length → (∀ k : Nat, k < L.length → code k = L.getD k 0) → runC code env m n = rl env (L.take n) m := by
    intro L n
    induction n with
    | zero => intro _ _; simp [runC, rl, fo]
    | succ n ih =>
      intro hn hc
      have hL : L.take (n + 1) = L.take n ++ [L.getD n 0] := by
        rw [List.take_add_one]
        simp [List.getElem?_eq_getElem (show n < L.length by omega)]
      rw [hL, rl_app, ← ih (by omega) hc]
      show stp env (code n) (runC code env m n) = _
      rw [hc n (by omega)]
      rfl
  intro L hc
  have := key L L.length (Nat.le_refl _) hc
  rwa [List.take_length] at this
def opB (o : Int) : Prop := o = 60 ∨ o = 61 ∨ o = 62 ∨ o = 43 ∨ o = 45 ∨ o = 42 ∨ o = 47
theorem evS_app {E : Int → Int} {L M st : List Int} : evS E (L ++ M) st = evS E M (evS E L st) := List.foldl_append
/-- an expression, kept so: what it does is to lay its value on top -/
def WfE (e : Ex) : Prop := (∀ E st, evS E e st = evE E e :: st) ∧ ∀ p ∈ e, 0 ≤ p ∧ p < 1256
theorem ev_of {e : Ex} {E : Int → Int} {v : Int} (h : ∀ st, evS E e st = v :: st) : evE E e = v := by unfold evE; rw [h []]; rfl
theorem wfe_N {v : Int} (h : 0 ≤ v ∧ v < 1000) : WfE (xN v) ∧ ∀ E, evE E (xN v) = v := by
  have key : ∀ E st, evS E (xN v) st = v :: st := fun E st => by
    show lsT E v st = _
    unfold lsT; rw [if_pos h.2]
  exact ⟨⟨fun E st => by rw [ev_of (key E)]; exact key E st, fun p hp => by simp [xN] at hp; omega⟩, fun E => ev_of (key E)⟩
theorem wfe_L {c : Int} (h : ltB c = 1) : WfE (xL c) ∧ ∀ E, evE E (xL c) = E (ltI c) := by
  have hc := ltB_c h
  have key : ∀ E st, evS E (xL c) st = E (ltI c) :: st := fun E st => by
    show lsT E (1000 + c) st = _
    unfold lsT; rw [if_neg (by omega), show 1000 + c - 1000 = c by omega, if_pos h]
  exact ⟨⟨fun E st => by rw [ev_of (key E)]; exact key E st, fun p hp => by simp [xL] at hp; omega⟩, fun E => ev_of (key E)⟩
theorem wfe_M {a : Ex} (h : WfE a) : WfE (xM a) ∧ ∀ E, evE E (xM a) = w32 (-(evE E a)) := by
  have key : ∀ E st, evS E (xM a) st = w32 (-(evE E a)) :: st := fun E st => by
    show evS E (a ++ [1126]) st = _
    rw [evS_app, h.1]
    show lsT E 1126 (evE E a :: st) = _
    unfold lsT; rw [if_neg (by omega), if_neg (by unfold ltB; rw [if_neg (by omega)]; omega), if_pos (by omega)]
    rfl
  refine ⟨⟨fun E st => by rw [ev_of (key E)]; exact key E st, fun p hp => ?_⟩, fun E => ev_of (key E)⟩
  simp [xM] at hp
  rcases hp with hp | hp
  · exact h.2 p hp
  · omega
theorem wfe_B {o : Int} {a b : Ex} (ho : opB o) (ha : WfE a) (hb : WfE b) : WfE (xB o a b) ∧ ∀ E, evE E (xB o a b) = joinV o (evE E a) (evE E b) := by
  unfold opB at ho
  have key : ∀ E st, evS E (xB o a b) st = joinV o (evE E a) (evE E b) :: st := fun E st => by
    show evS E (a ++ (b ++ [1000 + o])) st = _
    rw [evS_app, ha.1, evS_app, hb.1]
    show lsT E (1000 + o) _ = _
    unfold lsT; rw [if_neg (by omega), show 1000 + o - 1000 = o by omega, if_neg (by unfold ltB; rw [if_neg (by omega)]; omega), if_neg (by omega)]
    rfl
  refine ⟨⟨fun E st => by rw [ev_of (key E)]; exact key E st, fun p hp => ?_⟩, fun E => ev_of (key E)⟩
  simp [xB] at hp
  rcases hp with hp | hp | hp
  · exact ha.2 p hp
  · exact hb.2 p hp
  · omega
/-- a stack in a row, and as a list -/
def skR (m : Stk) (st : List Int) : Prop := m.1 = st.length ∧ ∀ i : Nat, i < st.length → m.2 i = st.getD (st.length - 1 - i) 0
theorem skR_psh {m : Stk} {st : List Int} {v : Int} (h : skR m st) (hl : m.1 < 40) : skR (psh v m) (v :: st) := by
  obtain ⟨h1, h2⟩ := h
  unfold psh
  rw [if_pos hl]
  refine ⟨by simp [h1], fun i hi => ?_⟩
  show upv m.2 m.1 v i = _
  unfold upv
  by_cases hz : i = st.length
  · rw [if_pos (by omega)]; subst hz; simp
  · have hi' : i < st.length := by simp at hi; omega
    rw [if_neg (by omega), h2 i hi', show (v :: st).length - 1 - i = (st.length - 1 - i) + 1 by simp; omega]
    rfl
theorem skR_stp {E : Int → Int} {p : Int} {m : Stk} {st : List Int} (h : skR m st) (hl : m.1 < 40) : skR (stp E p m) (lsT E p st) := by
  unfold stp lsT
  by_cases c1 : p < 1000
  · rw [if_pos c1, if_pos c1]; exact skR_psh h hl
  · rw [if_neg c1, if_neg c1]
    by_cases c2 : ltB (p - 1000) = 1
    · rw [if_pos c2, if_pos c2]; exact skR_psh h hl
    · rw [if_neg c2, if_neg c2]
      obtain ⟨h1, h2⟩ := h
      by_cases c3 : p - 1000 = 126
      · have hs : (if p - 1000 = 126 then ngL st else jnL (p - 1000) st) = ngL st := if_pos c3
        rw [hs]
        unfold redu
        cases st with
        | nil => rw [if_pos (by simp at h1; omega)]; exact ⟨h1, h2⟩
        | cons x r =>
          have hm : m.1 = r.length + 1 := by simpa using h1
          have t0 : m.2 r.length = x := by have := h2 r.length (by simp); simpa using this
          rw [if_neg (by omega), if_pos c3]
          show skR _ (w32 (-x) :: r)
          refine ⟨by simpa using h1, fun i hi => ?_⟩
          show upv m.2 ((m.1 : Int) - 1) _ i = _
          rw [show (m.1 : Int) - 1 = (r.length : Int) by omega, t0]
          unfold upv
          by_cases hz : i = r.length
          · rw [if_pos (by omega)]; subst hz; simp
          · have hi' : i < r.length := by simp at hi; omega
            rw [if_neg (by omega), h2 i (by simp; omega), show (x :: r).length - 1 - i = (r.length - 1 - i) + 1 by simp; omega, show (w32 (-x) :: r).length - 1 - i = (r.length - 1 - i) + 1 by simp; omega]
            rfl
      · have hs : (if p - 1000 = 126 then ngL st else jnL (p - 1000) st) = jnL (p - 1000) st := if_neg c3
        rw [hs]
        unfold redu
        match st, h1, h2 with
        | [], h1, h2 => rw [if_pos (by simp at h1; omega)]; exact ⟨h1, h2⟩
        | [x], h1, h2 =>
          have hm : m.1 = 1 := by simpa using h1
          rw [if_neg (by omega), if_neg c3, if_pos (by omega)]
          exact ⟨h1, h2⟩
        | y :: x :: r, h1, h2 =>
          have hm : m.1 = r.length + 2 := by simpa using h1
          have t0 : m.2 ((r.length + 1 : Nat) : Int) = y := by have := h2 (r.length + 1) (by simp); simpa using this
          have t1 : m.2 (r.length : Int) = x := by have := h2 r.length (by simp; omega); simpa using this
          rw [if_neg (by omega), if_neg c3, if_neg (by omega)]
          show skR _ (joinV (p - 1000) x y :: r)
          refine ⟨by show m.1 - 1 = _; simp; omega, fun i hi => ?_⟩
          show upv m.2 ((m.1 : Int) - 2) (joinV _ (m.2 ((m.1 : Int) - 2)) (m.2 ((m.1 : Int) - 1))) i = _
          rw [show (m.1 : Int) - 2 = (r.length : Int) by omega, show (m.1 : Int) - 1 = ((r.length + 1 : Nat) : Int) by omega, t0, t1]
          unfold upv
          by_cases hz : i = r.length
          · rw [if_pos (by omega)]; subst hz; simp
          · have hi' : i < r.length := by simp at hi; omega
            rw [if_neg (by omega), h2 i (by simp; omega), show (y :: x :: r).length - 1 - i = (r.length - 1 - i) + 2 by simp; omega, show (joinV (p - 1000) x y :: r).length - 1 - i = (r.length - 1 - i) + 1 by simp; omega]
            rfl
theorem stp_up {E : Int → Int} {p : Int} {m : Stk} : (stp E p m).1 ≤ m.1 + 1 := by
  unfold stp psh redu
  repeat' split
  all_goals (try simp) <;> omega
theorem skR_rl {E : Int → Int} : ∀ (L : List Int) (m : Stk) (st : List Int), skR m st → m.1 + L.length ≤ 40 → skR (rl E L m) (evS E L st)
  | [], _, _, h, _ => h
  | p :: L, m, st, h, hl => by
    rw [rl_cons]
    show skR _ (evS E L (lsT E p st))
    have := stp_up (E := E) (p := p) (m := m)
    exact skR_rl L _ _ (skR_stp h (by simp at hl; omega)) (by simp at hl; omega)
theorem rl_ev {E : Int → Int} {e : Ex} (h : WfE e) (hl : e.length ≤ 40) (s : Int → Int) : (rl E e (0, s)).2 0 = evE E e := by
  have := skR_rl (E := E) e (0, s) [] ⟨rfl, fun i hi => by simp at hi⟩ (by simpa using hl)
  rw [h.1] at this
  have := this.2 0 (by simp)
  simpa using this
/-! what is kept while it is read -/
def pO (o : OE) : List Int := match o with
  | none => []
  | some (a, _) => a
def oO (o : OE) : List Int := match o with
  | none => []
  | some (_, c) => [c]
def plL (l : Lv) : List Int := pO l.cm ++ (pO l.su ++ pO l.mu)
/-- what waits, the latest first -/
def wL (l : Lv) : List Int := List.replicate l.ng 126 ++ (oO l.mu ++ (oO l.su ++ oO l.cm))
def cd : List Lv → List Int
  | [] => []
  | l :: ls => cd ls ++ plL l
def wt : List Lv → List Int
  | [] => []
  | l :: ls => 40 :: (wL l ++ wt ls)
def cdS : Sr → List Int
  | .inl (ls, l) => cd ls ++ plL l
  | .inr (ls, l, e, _) => cd ls ++ (plL l ++ e)
def wtS : Sr → List Int
  | .inl (ls, l) => wL l ++ wt ls
  | .inr (ls, l, _, _) => wL l ++ wt ls
def bnd (c : Int) : Int := if c = 60 ∨ c = 61 ∨ c = 62 then 1 else if c = 43 ∨ c = 45 then 2 else if c = 42 ∨ c = 47 then 3 else if c = 126 then 4 else 0
def jn (b : Int) : List Int → List Int → List Int × List Int
  | [], C => ([], C)
  | x :: w, C => if b ≤ bnd x then jn b w (C ++ [1000 + x]) else (x :: w, C)
def oin (S : List Int) (o : OE) : Prop := match o with
  | none => True
  | some (a, c) => c ∈ S ∧ WfE a
def WfL (l : Lv) : Prop := oin [60, 61, 62] l.cm ∧ oin [43, 45] l.su ∧ oin [42, 47] l.mu
theorem jn_ng {b : Int} (hb : b ≤ 4) (w : List Int) : ∀ (n : Nat) (C : List Int), jn b (List.replicate n 126 ++ w) C = jn b w (C ++ List.replicate n 1126)
  | 0, C => by simp
  | n + 1, C => by
    rw [List.replicate_succ, List.cons_append]
    show (if b ≤ bnd 126 then jn b (List.replicate n 126 ++ w) (C ++ [1000 + 126]) else _) = _
    rw [if_pos (by unfold bnd; simp; omega), jn_ng hb w n, List.append_assoc]
    simp [List.replicate_succ]
theorem ngE_l : ∀ (n : Nat) (e : Ex), (ngE n e) = e ++ List.replicate n 1126
  | 0, e => by simp [ngE]
  | n + 1, e => by
    show (ngE n (xM e)) = _
    rw [ngE_l n]
    show (e ++ [1126]) ++ _ = _
    rw [List.append_assoc]
    simp [List.replicate_succ]
/-- what joins takes of what waits here -/
theorem jn_wt {b : Int} (hb : 1 ≤ b) (C : List Int) : ∀ ls, jn b (wt ls) C = (wt ls, C)
  | [] => rfl
  | l :: ls => by
    show (if b ≤ bnd 40 then _ else _) = _
    rw [if_neg (by unfold bnd; simp; omega)]
    rfl
theorem jn_o1 {b c : Int} {w C : List Int} (h : b ≤ bnd c) : jn b (c :: w) C = jn b w (C ++ [1000 + c]) := by
  show (if b ≤ bnd c then _ else _) = _
  rw [if_pos h]
theorem jn_o0 {b c : Int} {w C : List Int} (h : ¬ b ≤ bnd c) : jn b (c :: w) C = (c :: w, C) := by
  show (if b ≤ bnd c then _ else _) = _
  rw [if_neg h]
theorem apO_l (o : OE) (e : Ex) (X : List Int) : (apO o e) ++ X = pO o ++ (e ++ ((oO o).map (fun c => 1000 + c) ++ X)) := by
  cases o with
  | none => simp [apO, pO, oO]
  | some p => simp [apO, pO, oO, xB]
theorem jn_3 {ls : List Lv} {l : Lv} {e : Ex} (hl : WfL l) (D : List Int) : jn 3 (wL l ++ wt ls) (D ++ (plL l ++ e)) = (oO l.su ++ (oO l.cm ++ wt ls), D ++ (pO l.cm ++ (pO l.su ++ (l.m e)))) := by
  obtain ⟨h1, h2, h3⟩ := hl
  obtain ⟨cm, su, mu, ng⟩ := l
  have base : ∀ C, jn 3 (oO su ++ (oO cm ++ wt ls)) C = (oO su ++ (oO cm ++ wt ls), C) := by
    intro C
    cases su with
    | some p =>
      have : p.2 = 43 ∨ p.2 = 45 := by have := h2.1; simpa using this
      exact jn_o0 (by unfold bnd; rcases this with z | z <;> rw [z] <;> simp)
    | none =>
      cases cm with
      | some p =>
        have : p.2 = 60 ∨ p.2 = 61 ∨ p.2 = 62 := by have := h1.1; simpa using this
        exact jn_o0 (by unfold bnd; rcases this with z | z | z <;> rw [z] <;> simp)
      | none => exact jn_wt (by omega) C ls
  show jn 3 ((List.replicate ng 126 ++ (oO mu ++ (oO su ++ oO cm))) ++ wt ls) _ = _
  rw [List.append_assoc, jn_ng (by omega)]
  show _ = (_, D ++ (pO cm ++ (pO su ++ (apO mu (ngE ng e)))))
  cases mu with
  | none =>
    show jn 3 (([] ++ (oO su ++ oO cm)) ++ wt ls) _ = _
    rw [List.nil_append, List.append_assoc, base]
    simp [apO, ngE_l, plL, pO, Lv.cm, Lv.su, Lv.mu]
  | some p =>
    have : p.2 = 42 ∨ p.2 = 47 := by have := h3.1; simpa using this
    show jn 3 (([p.2] ++ (oO su ++ oO cm)) ++ wt ls) _ = _
    rw [List.append_assoc, List.append_assoc, List.singleton_append, jn_o1 (by unfold bnd; rcases this with z | z <;> rw [z] <;> simp), base]
    simp [apO, ngE_l, plL, pO, xB, Lv.cm, Lv.su, Lv.mu]
theorem jn_2 {ls : List Lv} {l : Lv} {e : Ex} (hl : WfL l) (D : List Int) : jn 2 (wL l ++ wt ls) (D ++ (plL l ++ e)) = (oO l.cm ++ wt ls, D ++ (pO l.cm ++ (l.s e))) := by
  obtain ⟨h1, h2, h3⟩ := hl
  obtain ⟨cm, su, mu, ng⟩ := l
  have base : ∀ C, jn 2 (oO cm ++ wt ls) C = (oO cm ++ wt ls, C) := by
    intro C
    cases cm with
    | some p =>
      have : p.2 = 60 ∨ p.2 = 61 ∨ p.2 = 62 := by have := h1.1; simpa using this
      exact jn_o0 (by unfold bnd; rcases this with z | z | z <;> rw [z] <;> simp)
    | none => exact jn_wt (by omega) C ls
  have base2 : ∀ C, jn 2 (oO su ++ (oO cm ++ wt ls)) C = (oO cm ++ wt ls, C ++ (oO su).map (fun c => 1000 + c)) := by
    intro C
    cases su with
    | some p =>
      have : p.2 = 43 ∨ p.2 = 45 := by have := h2.1; simpa using this
      show jn 2 (p.2 :: _) C = _
      rw [jn_o1 (by unfold bnd; rcases this with z | z <;> rw [z] <;> simp)]
      exact base _
    | none => simpa [oO] using base C
  show jn 2 ((List.replicate ng 126 ++ (oO mu ++ (oO su ++ oO cm))) ++ wt ls) _ = _
  rw [List.append_assoc, jn_ng (by omega)]
  show _ = (_, D ++ (pO cm ++ (apO su (apO mu (ngE ng e)))))
  have pa := apO_l su (apO mu (ngE ng e)) []
  simp only [List.append_nil] at pa
  rw [pa]
  cases mu with
  | none =>
    show jn 2 (([] ++ (oO su ++ oO cm)) ++ wt ls) _ = _
    rw [List.nil_append, List.append_assoc, base2]
    simp [apO, ngE_l, plL, pO, Lv.cm, Lv.su, Lv.mu]
  | some p =>
    have : p.2 = 42 ∨ p.2 = 47 := by have := h3.1; simpa using this
    show jn 2 (([p.2] ++ (oO su ++ oO cm)) ++ wt ls) _ = _
    rw [List.append_assoc, List.append_assoc, List.singleton_append, jn_o1 (by unfold bnd; rcases this with z | z <;> rw [z] <;> simp), base2]
    simp [apO, ngE_l, plL, pO, xB, Lv.cm, Lv.su, Lv.mu]
theorem jn_1 {ls : List Lv} {l : Lv} {e : Ex} (hl : WfL l) (D : List Int) : jn 1 (wL l ++ wt ls) (D ++ (plL l ++ e)) = (wt ls, D ++ (l.c e)) := by
  obtain ⟨h1, h2, h3⟩ := hl
  obtain ⟨cm, su, mu, ng⟩ := l
  have base : ∀ C, jn 1 (oO cm ++ wt ls) C = (wt ls, C ++ (oO cm).map (fun c => 1000 + c)) := by
    intro C
    cases cm with
    | some p =>
      have : p.2 = 60 ∨ p.2 = 61 ∨ p.2 = 62 := by have := h1.1; simpa using this
      show jn 1 (p.2 :: _) C = _
      rw [jn_o1 (by unfold bnd; rcases this with z | z | z <;> rw [z] <;> simp)]
      exact jn_wt (by omega) _ ls
    | none => simpa [oO] using jn_wt (by omega) C ls
  have base2 : ∀ C, jn 1 (oO su ++ (oO cm ++ wt ls)) C = (wt ls, C ++ ((oO su).map (fun c => 1000 + c) ++ (oO cm).map (fun c => 1000 + c))) := by
    intro C
    cases su with
    | some p =>
      have : p.2 = 43 ∨ p.2 = 45 := by have := h2.1; simpa using this
      show jn 1 (p.2 :: (oO cm ++ wt ls)) C = _
      rw [jn_o1 (by unfold bnd; rcases this with z | z <;> rw [z] <;> simp), base]
      simp [oO]
    | none => simpa [oO] using base C
  show jn 1 ((List.replicate ng 126 ++ (oO mu ++ (oO su ++ oO cm))) ++ wt ls) _ = _
  rw [List.append_assoc, jn_ng (by omega)]
  show _ = (_, D ++ (apO cm (apO su (apO mu (ngE ng e)))))
  have pa := apO_l cm (apO su (apO mu (ngE ng e))) []
  simp only [List.append_nil] at pa
  rw [pa, apO_l su (apO mu (ngE ng e))]
  cases mu with
  | none =>
    show jn 1 (([] ++ (oO su ++ oO cm)) ++ wt ls) _ = _
    rw [List.nil_append, List.append_assoc, base2]
    simp [apO, ngE_l, plL, pO, Lv.cm, Lv.su, Lv.mu]
  | some p =>
    have : p.2 = 42 ∨ p.2 = 47 := by have := h3.1; simpa using this
    show jn 1 (([p.2] ++ (oO su ++ oO cm)) ++ wt ls) _ = _
    rw [List.append_assoc, List.append_assoc, List.singleton_append, jn_o1 (by unfold bnd; rcases this with z | z <;> rw [z] <;> simp), base2]
    simp [apO, ngE_l, plL, pO, xB, Lv.cm, Lv.su, Lv.mu]
