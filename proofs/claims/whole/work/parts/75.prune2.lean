/-! the search of the class and that of the reference -/
theorem cnt_all {p : Int → Bool} : ∀ {n : Nat}, cntN p n = n → ∀ i : Nat, i < n → p i = true
  | 0, _, i, hi => by omega
  | n + 1, h, i, hi => by
    unfold cntN at h
    have hl := cntN_l p n
    by_cases hp : p n = true
    · rw [if_pos hp] at h
      by_cases hz : i = n
      · rw [hz]; exact hp
      · exact cnt_all (n := n) (by omega) i (by omega)
    · rw [if_neg hp] at h; omega
theorem cnt_of {p : Int → Bool} : ∀ {n : Nat}, (∀ i : Nat, i < n → p i = true) → cntN p n = n
  | 0, _ => rfl
  | n + 1, h => by
    unfold cntN
    rw [if_pos (h n (by omega)), cnt_of (fun i hi => h i (by omega))]
theorem mo_ge {n : Nat} {V : Int → Int} : ∀ {m f : Nat}, f < m → sdC n V f ≤ moV n V m
  | 0, f, h => by omega
  | m + 1, f, h => by
    show sdC n V f ≤ max (moV n V m) (sdC n V m)
    by_cases hz : f = m
    · subst hz; omega
    · have := mo_ge (n := n) (V := V) (m := m) (f := f) (by omega); omega
theorem mo_ex {n : Nat} {V : Int → Int} : ∀ {m : Nat}, 0 < m → ∃ f, f < m ∧ moV n V m = sdC n V f
  | 0, h => by omega
  | m + 1, _ => by
    have es : moV n V (m + 1) = max (moV n V m) (sdC n V m) := rfl
    by_cases hz : m = 0
    · subst hz
      refine ⟨0, by omega, ?_⟩
      rw [es]
      show max 0 _ = _
      omega
    · obtain ⟨f, hf, he⟩ := mo_ex (n := n) (V := V) (m := m) (by omega)
      by_cases hc : sdC n V m ≤ moV n V m
      · exact ⟨f, by omega, by rw [es]; omega⟩
      · exact ⟨m, by omega, by rw [es]; omega⟩
theorem sA_all {p : Nat → Bool} : ∀ {m : Nat}, sA p m = true ↔ ∀ k, k < m → p k = true
  | 0 => ⟨fun _ k hk => by omega, fun _ => rfl⟩
  | m + 1 => by
    show (sA p m && p m) = true ↔ _
    rw [Bool.and_eq_true, sA_all (m := m)]
    refine ⟨fun ⟨h1, h2⟩ k hk => ?_, fun h => ⟨fun k hk => h k (by omega), h m (by omega)⟩⟩
    by_cases hz : k = m
    · rw [hz]; exact h2
    · exact h1 k (by omega)
/-- reached, as both say it -/
theorem rch_so {n : Nat} {M V : Int → Int} {s f f' : Int} (hW : WFV n M V) (hf : s ≠ -1 → f = f') : rchB s f n V = soB n V s f' := by
  unfold rchB soB
  by_cases hs : s = -1
  · rw [if_pos hs, if_pos hs]
    have key : n = moV n V 4 ↔ alB V (n - 1) = true := by
      unfold alB
      rw [sA_all]
      by_cases hn : n = 0
      · subst hn
        have := moV_l 0 V 4
        exact ⟨fun _ k hk => by omega, fun _ => by omega⟩
      · refine ⟨fun h k hk => ?_, fun h => ?_⟩
        · obtain ⟨q, hq, he⟩ := mo_ex (n := n) (V := V) (m := 4) (by omega)
          rw [he] at h
          have ha := cnt_all (p := fun i => decide (V (6 + i) = q)) h.symm
          have h1 := of_decide_eq_true (ha (k + 1) (by omega))
          have h0 := of_decide_eq_true (ha 0 (by omega))
          refine decide_eq_true ?_
          rw [h1, ← h0]
          congr 1
        · have s0 := sd_in hW (i := 0) (by omega) (by omega)
          obtain ⟨q, hq⟩ : ∃ q : Nat, V (6 + 0) = q := ⟨(V (6 + 0)).toNat, by omega⟩
          have hc : sdC n V q = n := cnt_of (fun i hi => decide_eq_true (by
            by_cases hz : i = 0
            · subst hz; exact hq
            · have := of_decide_eq_true (h (i - 1) (by omega))
              rw [show i - 1 + 1 = i by omega] at this
              rw [this]; exact hq))
          have h1 := mo_ge (n := n) (V := V) (m := 4) (f := q) (by omega)
          have h2 := moV_l n V 4
          omega
    by_cases c : n = moV n V 4
    · rw [decide_eq_true c, (key.mp c)]
    · rw [decide_eq_false c]
      cases hb : alB V (n - 1) with
      | false => rfl
      | true => exact absurd (key.mpr hb) c
  · rw [if_neg hs, if_neg hs, hf hs]
theorem pJ_cg {f g : Nat → OL} {c e : OL} (hc : c = e) : ∀ {q j : Nat}, (∀ x, j ≤ x → x < j + q → f x = g x) → pJ f c q j = pJ g e q j
  | 0, _, _ => hc
  | q + 1, j, h => by
    unfold pJ
    rw [h j (by omega) (by omega), pJ_cg hc (q := q) (j := j + 1) (fun x h1 h2 => h x (by omega) (by omega))]
theorem pI2_cg {f g : Nat → Nat → OL} {n : Nat} : ∀ {q i : Nat}, i + q = n → (∀ a b, a < b → b < n → f a b = g a b) → pI2 f q i = pI2 g q i
  | 0, _, _, _ => rfl
  | q + 1, i, hn, h => by
    unfold pI2
    exact pJ_cg (pI2_cg (by omega) h) (fun x h1 h2 => h i x (by omega) (by omega))
theorem pJ_none {f : Nat → OL} {c : OL} : ∀ {q j : Nat}, pJ f c q j = none → c = none ∧ ∀ x, j ≤ x → x < j + q → f x = none
  | 0, _, h => ⟨h, fun x h1 h2 => by omega⟩
  | q + 1, j, h => by
    unfold pJ at h
    split at h
    · cases h
    · rename_i hj
      obtain ⟨h1, h2⟩ := pJ_none h
      refine ⟨h1, fun x z1 z2 => ?_⟩
      by_cases hz : x = j
      · rw [hz]; exact hj
      · exact h2 x (by omega) (by omega)
theorem pI2_none {f : Nat → Nat → OL} {n : Nat} : ∀ {q i : Nat}, i + q = n → pI2 f q i = none → ∀ a b, i ≤ a → a < b → b < n → f a b = none
  | 0, i, hn, _, a, b, h1, h2, h3 => by omega
  | q + 1, i, hn, h, a, b, h1, h2, h3 => by
    unfold pI2 at h
    obtain ⟨e1, e2⟩ := pJ_none h
    by_cases hz : a = i
    · subst hz; exact e2 b (by omega) (by omega)
    · exact pI2_none (by omega) e1 a b (by omega) h2 h3
theorem pI2_none' {f : Nat → Nat → OL} {n : Nat} (h : ∀ a b, a < b → b < n → f a b = none) : pI2 f n 0 = none := by
  rw [pI2_cg (g := fun _ _ => none) (n := n) (by omega) h]
  have : ∀ q i, pI2 (fun _ _ => (none : OL)) q i = none := by
    intro q
    induction q with
    | zero => intro i; rfl
    | succ q ih =>
      intro i
      unfold pI2
      rw [ih]
      have : ∀ q j, pJ (fun _ => (none : OL)) none q j = none := by
        intro q
        induction q with
        | zero => intro j; rfl
        | succ q ih => intro j; unfold pJ; exact ih (j + 1)
      exact this q (i + 1)
  exact this n 0
/-- ships of a side: a fight brings one more at most -/
theorem cnt_1 {p q : Int → Bool} {w : Nat} : ∀ {n : Nat}, (∀ i : Nat, i < n → i ≠ w → p i = q i) → cntN p n ≤ cntN q n + (if w < n then 1 else 0)
  | 0, _ => Nat.zero_le _
  | n + 1, h => by
    have ih := cnt_1 (p := p) (q := q) (w := w) (n := n) (fun i hi => h i (by omega))
    have hp : cntN p (n + 1) = if p n then cntN p n + 1 else cntN p n := rfl
    have hq : cntN q (n + 1) = if q n then cntN q n + 1 else cntN q n := rfl
    by_cases hz : n = w
    · subst hz
      have e0 : (if n < n then 1 else 0) = 0 := if_neg (Nat.lt_irrefl n)
      have e1 : (if n < n + 1 then 1 else 0) = 1 := if_pos (by omega)
      rw [e0] at ih
      rw [e1, hp, hq]
      split <;> split <;> omega
    · have e1 : (if w < n + 1 then 1 else 0) = (if w < n then 1 else 0) := by
        by_cases c : w < n
        · rw [if_pos c, if_pos (by omega)]
        · rw [if_neg c, if_neg (by omega)]
      rw [e1, hp, hq, h n (by omega) hz]
      generalize (if w < n then 1 else 0) = x at ih
      split <;> omega
theorem far_step {F : (Int → Int) → Int} {n : Nat} {M V : Int → Int} {s f k : Int} {i j : Int} {r : Nat} (hW : WFV n M V) (hk : 1 ≤ k ∧ k ≤ 6) (hA : AimOk n s f) (hw : 0 ≤ winA F n V i j) (h : farB s f k n V (r + 1) = true) : farB s f k n (fgtV F n k V i j) r = true := by
  obtain ⟨w, -, w0, S, P⟩ := fgt_p hW hk hw
  unfold farB at h ⊢
  by_cases hs : s = -1
  · rw [if_pos hs] at h ⊢
    have h := of_decide_eq_true h
    refine decide_eq_true ?_
    obtain ⟨q, hq, he⟩ := mo_ex (n := n) (V := fgtV F n k V i j) (m := 4) (by omega)
    obtain ⟨w', hw'⟩ : ∃ w' : Nat, w = w' := ⟨w.toNat, by omega⟩
    have c1 : sdC n (fgtV F n k V i j) q ≤ sdC n V q + 1 := by
      have := cnt_1 (p := fun x => decide (fgtV F n k V i j (6 + x) = q)) (q := fun x => decide (V (6 + x) = q)) (w := w') (n := n) (fun x hx hxw => by show decide _ = decide _; rw [(S x (by omega) (by omega) (by omega)).1])
      have : sdC n (fgtV F n k V i j) q ≤ sdC n V q + (if w' < n then 1 else 0) := this
      split at this <;> omega
    have c2 := mo_ge (n := n) (V := V) (m := 4) (f := q) hq
    omega
  · rw [if_neg hs] at h ⊢
    have h := of_decide_eq_true h
    refine decide_eq_true ?_
    obtain ⟨⟨s0, s1⟩, f0, f1⟩ : (0 ≤ s ∧ s < n) ∧ (0 ≤ f ∧ f < 4) := by
      rcases hA with hA | hA
      · exact absurd hA hs
      · exact hA
    have e1 : 2 * ((r + 1 : Nat) : Int) * k = 2 * (r : Int) * k + 2 * k := by
      rw [show ((r + 1 : Nat) : Int) = (r : Int) + 1 by omega, Int.mul_add, Int.add_mul]
      simp
    by_cases hz : s = w
    · subst hz
      have := P f f0 f1
      omega
    · obtain ⟨a, b⟩ := S s s0 s1 hz
      have b1 := b f f0 f1
      have hd := sd_in hW s0 s1
      have b2 := b (V (6 + s)) hd.1 hd.2
      have e2 : ownV (fgtV F n k V i j) s = ownV V s := by
        show partV (fgtV F n k V i j) s (fgtV F n k V i j (6 + s)) = _
        rw [a]; exact b2
      rw [b1, e2]
      have : 0 ≤ 2 * k := by omega
      omega
theorem far_none {F : (Int → Int) → Int} {n : Nat} {M : Int → Int} {s f f' k : Int} (hk : 1 ≤ k ∧ k ≤ 6) (hA : AimOk n s f) (hf : s ≠ -1 → f = f') : ∀ (r : Nat) (V : Int → Int), WFV n M V → farB s f k n V r = true → cbe s f' k F n r V = none
  | 0, V, hW, h => by
    unfold cbe
    rw [← rch_so hW hf, if_neg]
    intro hr
    unfold farB at h
    unfold rchB at hr
    by_cases hs : s = -1
    · rw [if_pos hs] at h hr
      have h := of_decide_eq_true h
      have hr := of_decide_eq_true hr
      omega
    · rw [if_neg hs] at h hr
      have h := of_decide_eq_true h
      have hr := of_decide_eq_true hr
      have : ownV V s = partV V s f := by show partV V s (V (6 + s)) = _; rw [hr]
      simp at h
      omega
  | r + 1, V, hW, h => by
    unfold cbe
    refine pI2_none' (fun a b _ _ => ?_)
    unfold cbS
    split
    · rename_i hw
      rw [far_none hk hA hf r _ (wf_fgtV hW hk) (far_step hW hk hA hw h)]
    · rfl
theorem srch_cbe {F : (Int → Int) → Int} {n : Nat} {M : Int → Int} {s f f' k : Int} (hk : 1 ≤ k ∧ k ≤ 6) (hA : AimOk n s f) (hf : s ≠ -1 → f = f') : ∀ (r : Nat) (V : Int → Int), WFV n M V → cbe s f' k F n r V = none → cbe s f' k F n (r + 1) V = srch s f k F n (r + 1) V := by
  have base : ∀ V, WFV n M V → cbe s f' k F n 0 V = srch s f k F n 0 V := fun V hW => by unfold cbe srch; rw [rch_so hW hf]
  intro r
  induction r with
  | zero =>
    intro V hW h0
    by_cases hfar : farB s f k n V 1 = true
    · rw [far_none hk hA hf 1 V hW hfar]
      show none = (if farB s f k n V (0 + 1) = true then none else _)
      rw [if_pos hfar]
    · show pI2 (cbS (cbe s f' k F n 0) k F n V) n 0 = (if farB s f k n V (0 + 1) = true then none else pI2 (srS (srch s f k F n 0) s k F n 0 V) n 0)
      rw [if_neg hfar]
      refine pI2_cg (n := n) (by omega) (fun a b hab hb => ?_)
      unfold cbS srS
      by_cases hw : 0 ≤ winA F n V a b
      · rw [if_pos hw]
        by_cases hu : useB s a b (0 + 1) = true
        · rw [if_pos ⟨hu, hw⟩, base _ (wf_fgtV hW hk)]
          cases srch s f k F n 0 (fgtV F n k V a b) <;> rfl
        · rw [if_neg (fun z => hu z.1)]
          have hu' : ¬ (s = -1 ∨ 1 < 0 + 1 ∨ (a : Int) = s ∨ (b : Int) = s) := fun z => hu (decide_eq_true z)
          have hs : s ≠ -1 := fun z => hu' (Or.inl z)
          obtain ⟨⟨s0, s1⟩, f0, f1⟩ : (0 ≤ s ∧ s < n) ∧ (0 ≤ f ∧ f < 4) := by
            rcases hA with hA | hA
            · exact absurd hA hs
            · exact hA
          obtain ⟨w, wc, w0, S, -⟩ := fgt_p hW hk hw
          have hsw : s ≠ w := fun z => hu' (by rcases wc with wc | wc; exact Or.inr (Or.inr (Or.inl (by omega))); exact Or.inr (Or.inr (Or.inr (by omega))))
          have e6 := (S s s0 s1 hsw).1
          have hn : cbe s f' k F n 0 (fgtV F n k V a b) = none := by
            unfold cbe at h0 ⊢
            unfold soB at h0 ⊢
            rw [if_neg hs] at h0 ⊢
            rw [e6]; exact h0
          rw [hn]
      · rw [if_neg hw, if_neg (fun z => hw z.2)]
  | succ r ih =>
    intro V hW h0
    by_cases hfar : farB s f k n V (r + 1 + 1) = true
    · rw [far_none hk hA hf (r + 1 + 1) V hW hfar]
      show none = (if farB s f k n V (r + 1 + 1) = true then none else _)
      rw [if_pos hfar]
    · show pI2 (cbS (cbe s f' k F n (r + 1)) k F n V) n 0 = (if farB s f k n V (r + 1 + 1) = true then none else pI2 (srS (srch s f k F n (r + 1)) s k F n (r + 1) V) n 0)
      rw [if_neg hfar]
      have h0' : pI2 (cbS (cbe s f' k F n r) k F n V) n 0 = none := h0
      refine pI2_cg (n := n) (by omega) (fun a b hab hb => ?_)
      have hab0 := pI2_none (n := n) (by omega) h0' a b (by omega) hab hb
      unfold cbS at hab0
      unfold cbS srS
      by_cases hw : 0 ≤ winA F n V a b
      · rw [if_pos hw] at hab0 ⊢
        have hu : useB s a b (r + 1 + 1) = true := decide_eq_true (Or.inr (Or.inl (by omega)))
        have hn : cbe s f' k F n r (fgtV F n k V a b) = none := by
          cases hc : cbe s f' k F n r (fgtV F n k V a b) with
          | none => rfl
          | some L => rw [hc] at hab0; cases hab0
        rw [if_pos ⟨hu, hw⟩, ih _ (wf_fgtV hW hk) hn]
        cases srch s f k F n (r + 1) (fgtV F n k V a b) <;> rfl
      · rw [if_neg hw, if_neg (fun z => hw z.2)]
theorem few_eq {F : (Int → Int) → Int} {n : Nat} {M V : Int → Int} {s f f' k : Int} (hW : WFV n M V) (hk : 1 ≤ k ∧ k ≤ 6) (hA : AimOk n s f) (hf : s ≠ -1 → f = f') : fewV s f k F n V 4 0 = fewM s f' k F n V 4 0 := by
  have key : ∀ q m, (∀ m', m' < m → cbe s f' k F n m' V = none) → fewV s f k F n V q m = fewM s f' k F n V q m := by
    intro q
    induction q with
    | zero => intro m _; rfl
    | succ q ih =>
      intro m hm
      have e : srch s f k F n m V = cbe s f' k F n m V := by
        cases m with
        | zero => unfold cbe srch; rw [rch_so hW hf]
        | succ m => exact (srch_cbe hk hA hf m V hW (hm m (by omega))).symm
      unfold fewV fewM
      rw [e]
      cases hc : cbe s f' k F n m V with
      | some L => rfl
      | none =>
        refine ih (m + 1) (fun m' h' => ?_)
        by_cases hz : m' = m
        · rw [hz]; exact hc
        · exact hm m' (by omega)
  exact key 4 0 (fun m' h => by omega)
