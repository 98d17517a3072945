/-! the law's body: its pieces -/
theorem WPc.mono {l : Launch} {g : GE} {e d kc ks : Nat} {as : List TV} {t : Tau} {σ : Mem} {Q Q' : Post} (h : WPc l g e d kc ks as t σ Q) (hQ : ∀ v t σ, Q v t σ → Q' v t σ) : WPc l g e d kc ks as t σ Q' := by
  intro p en ha hc hk s m args below hf hs hP hT
  obtain ⟨k, o, h1, h2, h3, ⟨v, t', σ', q1, q2, q3⟩, h5⟩ := h p en ha hc hk s m args below hf hs hP hT
  exact ⟨k, o, h1, h2, h3, ⟨v, t', σ', q1, hQ _ _ _ q2, q3⟩, h5⟩
abbrev lwL (i : Int) : List (Nat × TV) := [(0, vR (-5)), (1, vR 0), (2, vR 175), (3, vR 199), (4, vI i)]
def dA (pc : Nat) (j : Int) : Bool := decide (decode (mC 292) pc = .ok (.aload_n 0, 1)) && decide (decode (mC 292) (pc + 1) = .ok (.iload 4, 2)) && decide (decode (mC 292) (pc + 3) = .ok (.iconst j, 1)) && decide (decode (mC 292) (pc + 4) = .ok (.iadd, 1)) && decide (decode (mC 292) (pc + 5) = .ok (.iaload, 1))
section LWB
variable {l : Launch} {g : GE} {d kc ks pc c : Nat} {t : Tau} {σ : Mem} {Q : Post} {st : List TV} {i : Int} {ls : List (Nat × TV)}
theorem l_arg {j : Int} (h0 : lget 0 ls = some (vR (-5))) (h4 : lget 4 ls = some (vI i)) (hi : 0 ≤ i ∧ i + 5 ≤ gL g ∧ i < 3000) (hj : 1 ≤ j ∧ j ≤ 4) (hd : dA pc j = true) (k : Wp l g 292 d kc ks (pc + 6) ls (vI (gX g (i + j).toNat) :: st) t σ Q) : Wp l g 292 d kc ks pc ls st t σ Q := by
  unfold dA at hd
  simp only [Bool.and_eq_true, decide_eq_true_eq] at hd
  obtain ⟨⟨⟨⟨d1, d2⟩, d3⟩, d4⟩, d5⟩ := hd
  refine r_aload_n (i := 0) h0 d1 ?_
  refine r_iload (i := 4) h4 d2 ?_
  refine r_iconst (n := j) (by unfold b32; omega) d3 ?_
  refine r_iadd d4 ?_
  rw [w32_id (by omega) (by omega)]
  refine r_sald (i := 5) (j := i + j) (by omega) (by omega) (by omega) (by show i + j < ((gL g : Nat) : Int); omega) d5 ?_
  exact k
theorem l_fin (hB : gB g = false) {x : Int} (hx : x = 0 ∨ x = 1) (hd : decode (mC 292) pc = .ok (.ireturn, 1)) (hQ : Q (some (vI x)) t σ) : Wp l g 292 d kc ks pc ls [vI x] t σ Q :=
  r_ret (i := .ireturn) (v := some (vI x)) rfl hd ⟨rfl, hx⟩ (Or.inr hB) hQ
def dC0 (pc iC iM : Nat) : Bool := decide (decode (mC 292) pc = .ok (.aload_n 1, 1)) && decide (decode (mC 292) (pc + 1) = .ok (.invokevirtual iC, 3)) && decide (decode (mC 292) (pc + 4) = .ok (.aload_n 2, 1)) && decide (decode (mC 292) (pc + 5) = .ok (.invokevirtual iM, 3)) && decide (decode (mC 292) (pc + 8) = .ok (.if_icmp .eq (1659 - (pc + 8 : Nat)), 3))
theorem l_case0 {iC iM eC eM : Nat} (hC : TC t) (hM : TM t) (hd : dC0 pc iC iM = true) (qC : RX8 = (mN eC).cls) (qM : RX9 = (mN eM).cls) (kC : callOk 0 (mN 292).cls iC eC 0 = true) (kM : callOk 0 (mN 292).cls iM eM 0 = true) (hi : 0 ≤ i ∧ i + 5 ≤ gL g ∧ i < 3000) (hJ : JJ l g d eC eM [] c t σ) (k : ∀ σ2, Inv (c + 1) t σ2 → Wp l g 292 (d + 1) kc ks 1659 (lwL i) [] t σ2 Q) : Wp l g 292 (d + 1) kc ks pc (lwL i) [] t σ Q := by
  unfold dC0 at hd
  simp only [Bool.and_eq_true, decide_eq_true_eq] at hd
  obtain ⟨⟨⟨⟨x0, x1⟩, x2⟩, x3⟩, x4⟩ := hd
  refine r_aload_n (i := 1) rfl x0 ?_
  refine r_callV (st := []) (kind := 0) (ci := 8) (as := []) (q := (RX8, TX8, 17)) (mc := 0) (ms := 0) (Or.inl rfl) rfl qC hC.o0 kC rfl (by decide) (by omega) (by omega) x1 ?_
  refine hJ.mono ?_
  rintro v t1 σ1 ⟨a, rfl, rfl, h2⟩
  refine r_aload_n (i := 2) rfl x2 ?_
  refine r_callV (st := [vI a]) (kind := 0) (ci := 9) (as := []) (q := (RX9, TX9, 41)) (mc := 0) (ms := 0) (Or.inl rfl) rfl qM hM.o kM rfl (show 1 ≤ 8 by omega) (by omega) (by omega) x3 ?_
  refine h2.mono ?_
  rintro v t1 σ2 ⟨rfl, rfl, h3⟩
  exact r_icmp_eq (st := []) (x := a) (y := a) (tgt := 1659) x4 (by omega) (fun _ => k σ2 h3) (fun z => absurd rfl z)
def dC1 (pc iC iM : Nat) : Bool := decide (decode (mC 292) pc = .ok (.aload_n 1, 1)) && dA (pc + 1) 1 && decide (decode (mC 292) (pc + 7) = .ok (.invokevirtual iC, 3)) && decide (decode (mC 292) (pc + 10) = .ok (.aload_n 2, 1)) && dA (pc + 11) 1 && decide (decode (mC 292) (pc + 17) = .ok (.invokevirtual iM, 3)) && decide (decode (mC 292) (pc + 20) = .ok (.if_icmp .eq (1659 - (pc + 20 : Nat)), 3))
theorem l_case1 {iC iM eC eM : Nat} (hC : TC t) (hM : TM t) (hd : dC1 pc iC iM = true) (qC : RX8 = (mN eC).cls) (qM : RX9 = (mN eM).cls) (kC : callOk 0 (mN 292).cls iC eC 1 = true) (kM : callOk 0 (mN 292).cls iM eM 1 = true) (hi : 0 ≤ i ∧ i + 5 ≤ gL g ∧ i < 3000) (hJ : JJ l g d eC eM [vI (gX g (i + 1).toNat)] c t σ) (k : ∀ σ2, Inv (c + 1) t σ2 → Wp l g 292 (d + 1) kc ks 1659 (lwL i) [] t σ2 Q) : Wp l g 292 (d + 1) kc ks pc (lwL i) [] t σ Q := by
  unfold dC1 at hd
  simp only [Bool.and_eq_true, decide_eq_true_eq] at hd
  obtain ⟨⟨⟨⟨⟨⟨x0, x1⟩, x2⟩, x3⟩, x4⟩, x5⟩, x6⟩ := hd
  refine r_aload_n (i := 1) rfl x0 ?_
  refine l_arg (j := 1) rfl rfl hi (by omega) x1 ?_
  refine r_callV (st := []) (kind := 0) (ci := 8) (as := [vI (gX g (i + 1).toNat)]) (q := (RX8, TX8, 17)) (mc := 0) (ms := 0) (Or.inl rfl) rfl qC hC.o0 kC rfl (by decide) (by omega) (by omega) x2 ?_
  refine hJ.mono ?_
  rintro v t1 σ1 ⟨a, rfl, rfl, h2⟩
  refine r_aload_n (i := 2) rfl x3 ?_
  refine l_arg (j := 1) rfl rfl hi (by omega) x4 ?_
  refine r_callV (st := [vI a]) (kind := 0) (ci := 9) (as := [vI (gX g (i + 1).toNat)]) (q := (RX9, TX9, 41)) (mc := 0) (ms := 0) (Or.inl rfl) rfl qM hM.o kM rfl (show 1 ≤ 8 by omega) (by omega) (by omega) x5 ?_
  refine h2.mono ?_
  rintro v t1 σ2 ⟨rfl, rfl, h3⟩
  exact r_icmp_eq (st := []) (x := a) (y := a) (tgt := 1659) x6 (by omega) (fun _ => k σ2 h3) (fun z => absurd rfl z)
def dC2 (pc iC iM : Nat) : Bool := decide (decode (mC 292) pc = .ok (.aload_n 1, 1)) && dA (pc + 1) 1 && dA (pc + 7) 2 && decide (decode (mC 292) (pc + 13) = .ok (.invokevirtual iC, 3)) && decide (decode (mC 292) (pc + 16) = .ok (.aload_n 2, 1)) && dA (pc + 17) 1 && dA (pc + 23) 2 && decide (decode (mC 292) (pc + 29) = .ok (.invokevirtual iM, 3)) && decide (decode (mC 292) (pc + 32) = .ok (.if_icmp .eq (1659 - (pc + 32 : Nat)), 3))
theorem l_case2 {iC iM eC eM : Nat} (hC : TC t) (hM : TM t) (hd : dC2 pc iC iM = true) (qC : RX8 = (mN eC).cls) (qM : RX9 = (mN eM).cls) (kC : callOk 0 (mN 292).cls iC eC 2 = true) (kM : callOk 0 (mN 292).cls iM eM 2 = true) (hi : 0 ≤ i ∧ i + 5 ≤ gL g ∧ i < 3000) (hJ : JJ l g d eC eM [vI (gX g (i + 1).toNat), vI (gX g (i + 2).toNat)] c t σ) (k : ∀ σ2, Inv (c + 1) t σ2 → Wp l g 292 (d + 1) kc ks 1659 (lwL i) [] t σ2 Q) : Wp l g 292 (d + 1) kc ks pc (lwL i) [] t σ Q := by
  unfold dC2 at hd
  simp only [Bool.and_eq_true, decide_eq_true_eq] at hd
  obtain ⟨⟨⟨⟨⟨⟨⟨⟨x0, x1⟩, x2⟩, x3⟩, x4⟩, x5⟩, x6⟩, x7⟩, x8⟩ := hd
  refine r_aload_n (i := 1) rfl x0 ?_
  refine l_arg (j := 1) rfl rfl hi (by omega) x1 ?_
  refine l_arg (j := 2) rfl rfl hi (by omega) x2 ?_
  refine r_callV (st := []) (kind := 0) (ci := 8) (as := [vI (gX g (i + 1).toNat), vI (gX g (i + 2).toNat)]) (q := (RX8, TX8, 17)) (mc := 0) (ms := 0) (Or.inl rfl) rfl qC hC.o0 kC rfl (by decide) (by omega) (by omega) x3 ?_
  refine hJ.mono ?_
  rintro v t1 σ1 ⟨a, rfl, rfl, h2⟩
  refine r_aload_n (i := 2) rfl x4 ?_
  refine l_arg (j := 1) rfl rfl hi (by omega) x5 ?_
  refine l_arg (j := 2) rfl rfl hi (by omega) x6 ?_
  refine r_callV (st := [vI a]) (kind := 0) (ci := 9) (as := [vI (gX g (i + 1).toNat), vI (gX g (i + 2).toNat)]) (q := (RX9, TX9, 41)) (mc := 0) (ms := 0) (Or.inl rfl) rfl qM hM.o kM rfl (show 1 ≤ 8 by omega) (by omega) (by omega) x7 ?_
  refine h2.mono ?_
  rintro v t1 σ2 ⟨rfl, rfl, h3⟩
  exact r_icmp_eq (st := []) (x := a) (y := a) (tgt := 1659) x8 (by omega) (fun _ => k σ2 h3) (fun z => absurd rfl z)
def dC3 (pc iC iM : Nat) : Bool := decide (decode (mC 292) pc = .ok (.aload_n 1, 1)) && dA (pc + 1) 1 && dA (pc + 7) 2 && dA (pc + 13) 3 && decide (decode (mC 292) (pc + 19) = .ok (.invokevirtual iC, 3)) && decide (decode (mC 292) (pc + 22) = .ok (.aload_n 2, 1)) && dA (pc + 23) 1 && dA (pc + 29) 2 && dA (pc + 35) 3 && decide (decode (mC 292) (pc + 41) = .ok (.invokevirtual iM, 3)) && decide (decode (mC 292) (pc + 44) = .ok (.if_icmp .eq (1659 - (pc + 44 : Nat)), 3))
theorem l_case3 {iC iM eC eM : Nat} (hC : TC t) (hM : TM t) (hd : dC3 pc iC iM = true) (qC : RX8 = (mN eC).cls) (qM : RX9 = (mN eM).cls) (kC : callOk 0 (mN 292).cls iC eC 3 = true) (kM : callOk 0 (mN 292).cls iM eM 3 = true) (hi : 0 ≤ i ∧ i + 5 ≤ gL g ∧ i < 3000) (hJ : JJ l g d eC eM [vI (gX g (i + 1).toNat), vI (gX g (i + 2).toNat), vI (gX g (i + 3).toNat)] c t σ) (k : ∀ σ2, Inv (c + 1) t σ2 → Wp l g 292 (d + 1) kc ks 1659 (lwL i) [] t σ2 Q) : Wp l g 292 (d + 1) kc ks pc (lwL i) [] t σ Q := by
  unfold dC3 at hd
  simp only [Bool.and_eq_true, decide_eq_true_eq] at hd
  obtain ⟨⟨⟨⟨⟨⟨⟨⟨⟨⟨x0, x1⟩, x2⟩, x3⟩, x4⟩, x5⟩, x6⟩, x7⟩, x8⟩, x9⟩, x10⟩ := hd
  refine r_aload_n (i := 1) rfl x0 ?_
  refine l_arg (j := 1) rfl rfl hi (by omega) x1 ?_
  refine l_arg (j := 2) rfl rfl hi (by omega) x2 ?_
  refine l_arg (j := 3) rfl rfl hi (by omega) x3 ?_
  refine r_callV (st := []) (kind := 0) (ci := 8) (as := [vI (gX g (i + 1).toNat), vI (gX g (i + 2).toNat), vI (gX g (i + 3).toNat)]) (q := (RX8, TX8, 17)) (mc := 0) (ms := 0) (Or.inl rfl) rfl qC hC.o0 kC rfl (by decide) (by omega) (by omega) x4 ?_
  refine hJ.mono ?_
  rintro v t1 σ1 ⟨a, rfl, rfl, h2⟩
  refine r_aload_n (i := 2) rfl x5 ?_
  refine l_arg (j := 1) rfl rfl hi (by omega) x6 ?_
  refine l_arg (j := 2) rfl rfl hi (by omega) x7 ?_
  refine l_arg (j := 3) rfl rfl hi (by omega) x8 ?_
  refine r_callV (st := [vI a]) (kind := 0) (ci := 9) (as := [vI (gX g (i + 1).toNat), vI (gX g (i + 2).toNat), vI (gX g (i + 3).toNat)]) (q := (RX9, TX9, 41)) (mc := 0) (ms := 0) (Or.inl rfl) rfl qM hM.o kM rfl (show 1 ≤ 8 by omega) (by omega) (by omega) x9 ?_
  refine h2.mono ?_
  rintro v t1 σ2 ⟨rfl, rfl, h3⟩
  exact r_icmp_eq (st := []) (x := a) (y := a) (tgt := 1659) x10 (by omega) (fun _ => k σ2 h3) (fun z => absurd rfl z)
def dC4 (pc iC iM : Nat) : Bool := decide (decode (mC 292) pc = .ok (.aload_n 1, 1)) && dA (pc + 1) 1 && dA (pc + 7) 2 && dA (pc + 13) 3 && dA (pc + 19) 4 && decide (decode (mC 292) (pc + 25) = .ok (.invokevirtual iC, 3)) && decide (decode (mC 292) (pc + 28) = .ok (.aload_n 2, 1)) && dA (pc + 29) 1 && dA (pc + 35) 2 && dA (pc + 41) 3 && dA (pc + 47) 4 && decide (decode (mC 292) (pc + 53) = .ok (.invokevirtual iM, 3)) && decide (decode (mC 292) (pc + 56) = .ok (.if_icmp .eq (1659 - (pc + 56 : Nat)), 3))
theorem l_case4 {iC iM eC eM : Nat} (hC : TC t) (hM : TM t) (hd : dC4 pc iC iM = true) (qC : RX8 = (mN eC).cls) (qM : RX9 = (mN eM).cls) (kC : callOk 0 (mN 292).cls iC eC 4 = true) (kM : callOk 0 (mN 292).cls iM eM 4 = true) (hi : 0 ≤ i ∧ i + 5 ≤ gL g ∧ i < 3000) (hJ : JJ l g d eC eM [vI (gX g (i + 1).toNat), vI (gX g (i + 2).toNat), vI (gX g (i + 3).toNat), vI (gX g (i + 4).toNat)] c t σ) (k : ∀ σ2, Inv (c + 1) t σ2 → Wp l g 292 (d + 1) kc ks 1659 (lwL i) [] t σ2 Q) : Wp l g 292 (d + 1) kc ks pc (lwL i) [] t σ Q := by
  unfold dC4 at hd
  simp only [Bool.and_eq_true, decide_eq_true_eq] at hd
  obtain ⟨⟨⟨⟨⟨⟨⟨⟨⟨⟨⟨⟨x0, x1⟩, x2⟩, x3⟩, x4⟩, x5⟩, x6⟩, x7⟩, x8⟩, x9⟩, x10⟩, x11⟩, x12⟩ := hd
  refine r_aload_n (i := 1) rfl x0 ?_
  refine l_arg (j := 1) rfl rfl hi (by omega) x1 ?_
  refine l_arg (j := 2) rfl rfl hi (by omega) x2 ?_
  refine l_arg (j := 3) rfl rfl hi (by omega) x3 ?_
  refine l_arg (j := 4) rfl rfl hi (by omega) x4 ?_
  refine r_callV (st := []) (kind := 0) (ci := 8) (as := [vI (gX g (i + 1).toNat), vI (gX g (i + 2).toNat), vI (gX g (i + 3).toNat), vI (gX g (i + 4).toNat)]) (q := (RX8, TX8, 17)) (mc := 0) (ms := 0) (Or.inl rfl) rfl qC hC.o0 kC rfl (by decide) (by omega) (by omega) x5 ?_
  refine hJ.mono ?_
  rintro v t1 σ1 ⟨a, rfl, rfl, h2⟩
  refine r_aload_n (i := 2) rfl x6 ?_
  refine l_arg (j := 1) rfl rfl hi (by omega) x7 ?_
  refine l_arg (j := 2) rfl rfl hi (by omega) x8 ?_
  refine l_arg (j := 3) rfl rfl hi (by omega) x9 ?_
  refine l_arg (j := 4) rfl rfl hi (by omega) x10 ?_
  refine r_callV (st := [vI a]) (kind := 0) (ci := 9) (as := [vI (gX g (i + 1).toNat), vI (gX g (i + 2).toNat), vI (gX g (i + 3).toNat), vI (gX g (i + 4).toNat)]) (q := (RX9, TX9, 41)) (mc := 0) (ms := 0) (Or.inl rfl) rfl qM hM.o kM rfl (show 1 ≤ 8 by omega) (by omega) (by omega) x11 ?_
  refine h2.mono ?_
  rintro v t1 σ2 ⟨rfl, rfl, h3⟩
  exact r_icmp_eq (st := []) (x := a) (y := a) (tgt := 1659) x12 (by omega) (fun _ => k σ2 h3) (fun z => absurd rfl z)
end LWB
