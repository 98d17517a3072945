/-! states of reading are as they must be -/
def dgO (k : Nat) (e : Ex) : Prop := k = 0 ∨ ∃ v, e = xN v ∧ 0 ≤ v ∧ ((k = 1 ∧ v < 10) ∨ (k = 2 ∧ v < 100) ∨ (k = 3 ∧ v < 1000))
def WfS : Sr → Prop
  | .inl (ls, l) => (∀ l' ∈ ls, WfL l') ∧ WfL l ∧ ls.length ≤ 4
  | .inr (ls, l, e, k) => (∀ l' ∈ ls, WfL l') ∧ WfL l ∧ ls.length ≤ 4 ∧ WfE e ∧ dgO k e
theorem wf_ng : ∀ (n : Nat) (e : Ex), WfE e → WfE (ngE n e)
  | 0, _, h => h
  | n + 1, e, h => wf_ng n (xM e) (wfe_M h).1
theorem wf_ap {S : List Int} (hS : ∀ c ∈ S, opB c) {o : OE} {e : Ex} (ho : oin S o) (he : WfE e) : WfE (apO o e) := by
  cases o with
  | none => exact he
  | some p => exact (wfe_B (hS p.2 ho.1) ho.2 he).1
theorem wf_m {l : Lv} {e : Ex} (h : WfL l) (he : WfE e) : WfE (l.m e) := wf_ap (S := [42, 47]) (fun c hc => by simp at hc; unfold opB; omega) h.2.2 (wf_ng _ _ he)
theorem wf_sm {l : Lv} {e : Ex} (h : WfL l) (he : WfE e) : WfE (l.s e) := wf_ap (S := [43, 45]) (fun c hc => by simp at hc; unfold opB; omega) h.2.1 (wf_m h he)
theorem wf_c {l : Lv} {e : Ex} (h : WfL l) (he : WfE e) : WfE (l.c e) := wf_ap (S := [60, 61, 62]) (fun c hc => by simp at hc; unfold opB; omega) h.1 (wf_sm h he)
theorem wf_stO {ls : List Lv} {l : Lv} {c : Int} {s' : Sr} (h : WfS (oP ls l)) (hs : stO ls l c = some s') : WfS s' := by
  obtain ⟨h1, h2, h3⟩ := h
  unfold stO at hs
  split at hs
  · cases hs
    rename_i hd
    exact ⟨h1, h2, h3, (wfe_N ⟨by omega, by omega⟩).1, Or.inr ⟨_, rfl, by omega, Or.inl ⟨rfl, by omega⟩⟩⟩
  split at hs
  · cases hs
    rename_i hl
    exact ⟨h1, h2, h3, (wfe_L hl).1, Or.inl rfl⟩
  split at hs
  · cases hs
    exact ⟨h1, h2, h3⟩
  split at hs
  · cases hs
    rename_i hp
    refine ⟨fun l' hl' => ?_, ⟨trivial, trivial, trivial⟩, by simp; omega⟩
    rcases List.mem_cons.mp hl' with z | z
    · rw [z]; exact h2
    · exact h1 l' z
  · cases hs
theorem wf_stC {ls : List Lv} {l : Lv} {e : Ex} {k : Nat} {c : Int} {s' : Sr} (h : WfS (cL ls l e k)) (hs : stC ls l e k c = some s') : WfS s' := by
  obtain ⟨h1, h2, h3, h4, h5⟩ := h
  unfold stC at hs
  split at hs
  · rename_i hd
    split at hs
    · rename_i hk
      cases hs
      rcases h5 with h5 | ⟨v, rfl, v0, h5⟩
      · omega
      · refine ⟨h1, h2, h3, ?_, Or.inr ⟨v * 10 + (c - 48), rfl, by omega, ?_⟩⟩
        · exact (wfe_N (v := v * 10 + (c - 48)) ⟨by omega, by omega⟩).1
        · rcases h5 with ⟨z1, z2⟩ | ⟨z1, z2⟩ | ⟨z1, z2⟩
          · exact Or.inr (Or.inl ⟨by omega, by omega⟩)
          · exact Or.inr (Or.inr ⟨by omega, by omega⟩)
          · omega
    · cases hs
  split at hs
  · cases ls with
    | nil => cases hs
    | cons l' ls' =>
      cases hs
      exact ⟨fun x hx => h1 x (List.mem_cons_of_mem _ hx), h1 l' (List.mem_cons_self ..), by simp at h3; omega, wf_c h2 h4, Or.inl rfl⟩
  split at hs
  · rename_i hc
    cases hs
    exact ⟨h1, ⟨h2.1, h2.2.1, by show c ∈ _ ∧ _; exact ⟨by simpa using hc, wf_m h2 h4⟩⟩, h3⟩
  split at hs
  · rename_i hc
    cases hs
    exact ⟨h1, ⟨h2.1, by show c ∈ _ ∧ _; exact ⟨by simpa using hc, wf_sm h2 h4⟩, trivial⟩, h3⟩
  split at hs
  · rename_i hc
    split at hs
    · cases hs
    · cases hs
      exact ⟨h1, ⟨by show c ∈ _ ∧ _; exact ⟨by simpa using hc, wf_sm h2 h4⟩, trivial, trivial⟩, h3⟩
  · cases hs
theorem lv_cm {a b c : OE} {n : Nat} : Lv.cm (a, b, c, n) = a := rfl
theorem lv_su {a b c : OE} {n : Nat} : Lv.su (a, b, c, n) = b := rfl
theorem lv_mu {a b c : OE} {n : Nat} : Lv.mu (a, b, c, n) = c := rfl
theorem lv_ng {a b c : OE} {n : Nat} : Lv.ng (a, b, c, n) = n := rfl
theorem pO_n : pO none = [] := rfl
theorem pO_s {p : Ex × Int} : pO (some p) = p.1 := rfl
theorem oO_n : oO none = [] := rfl
theorem oO_s {p : Ex × Int} : oO (some p) = [p.2] := rfl
def cnS (s : Sr) : Nat := (cdS s).length + (wtS s).length
theorem post_ln : ∀ (n : Nat) (e : Ex), List.length (ngE n e) = e.length + n := fun n e => by rw [ngE_l]; simp
theorem ap_ln (o : OE) (e : Ex) : List.length (apO o e) = (pO o).length + (oO o).length + e.length := by
  have := congrArg List.length (apO_l o e [])
  simp at this
  omega
theorem m_ln (l : Lv) (e : Ex) : List.length (l.m e) = (pO l.mu).length + (oO l.mu).length + e.length + l.ng := by
  unfold Lv.m; rw [ap_ln, post_ln]; omega
theorem s_ln (l : Lv) (e : Ex) : List.length (l.s e) = (pO l.su).length + (oO l.su).length + List.length (l.m e) := by
  unfold Lv.s; rw [ap_ln]
theorem c_ln (l : Lv) (e : Ex) : List.length (l.c e) = (pO l.cm).length + (oO l.cm).length + List.length (l.s e) := by
  unfold Lv.c; rw [ap_ln]
theorem cn_stO {ls : List Lv} {l : Lv} {c : Int} {s' : Sr} (hs : stO ls l c = some s') : cnS s' = cnS (oP ls l) + 1 := by
  unfold stO at hs
  split at hs
  · cases hs; simp [cnS, cdS, wtS, xN, xL]; omega
  split at hs
  · cases hs; simp [cnS, cdS, wtS, xN, xL]; omega
  split at hs
  · cases hs; simp [cnS, cdS, wtS, plL, wL, lv_cm, lv_su, lv_mu, lv_ng]; omega
  split at hs
  · cases hs; simp [cnS, cdS, wtS, cd, wt, plL, wL, lv0, lv_cm, lv_su, lv_mu, lv_ng, pO_n, oO_n]; omega
  · cases hs
theorem dg_ln (e : Ex) (d : Int) : List.length (dgE e d) = e.length := by
  unfold dgE
  split <;> simp
theorem cn_stC {ls : List Lv} {l : Lv} {e : Ex} {k : Nat} {c : Int} {s' : Sr} (hs : stC ls l e k c = some s') : cnS s' ≤ cnS (cL ls l e k) + 1 := by
  unfold stC at hs
  split at hs
  · split at hs
    · cases hs; simp [cnS, cdS, wtS, dg_ln]
    · cases hs
  split at hs
  · cases ls with
    | nil => cases hs
    | cons l' ls' =>
      cases hs
      simp [cnS, cdS, wtS, cd, wt, plL, wL, c_ln, s_ln, m_ln]; omega
  split at hs
  · cases hs
    simp [cnS, cdS, wtS, cd, wt, plL, wL, lv_cm, lv_su, lv_mu, lv_ng, pO_n, pO_s, oO_n, oO_s, m_ln]; omega
  split at hs
  · cases hs
    simp [cnS, cdS, wtS, cd, wt, plL, wL, lv_cm, lv_su, lv_mu, lv_ng, pO_n, pO_s, oO_n, oO_s, s_ln, m_ln]; omega
  split at hs
  · split at hs
    · cases hs
    · cases hs
      simp [cnS, cdS, wtS, cd, wt, plL, wL, lv_cm, lv_su, lv_mu, lv_ng, pO_n, pO_s, oO_n, oO_s, s_ln, m_ln]; omega
  · cases hs
/-- the bits of the comparisons -/
def cmB (b : Nat) : List Lv → Prop
  | [] => True
  | l :: ls => tb b ls.length = l.cm.isSome ∧ cmB b ls
theorem cmB_cg {b b' : Nat} : ∀ ls : List Lv, (∀ j, j < ls.length → tb b' j = tb b j) → cmB b ls → cmB b' ls
  | [], _, _ => trivial
  | l :: ls, h, hc => ⟨by rw [h ls.length (by simp)]; exact hc.1, cmB_cg ls (fun j hj => h j (by simp; omega)) hc.2⟩
