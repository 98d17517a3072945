/-! ship and row in the law -/
theorem icmp_s (x : Int) : icmp x x = 0 := by
  unfold icmp
  rw [if_neg (by omega), if_pos rfl]
theorem Inv.o {c : Nat} {t : Tau} {σ σ' : Mem} {S : AS} (h : CR S t σ) (hM : MRl c S t σ) (hP : PI c S) (hf : ∀ o, o ≠ 175 → o ≠ 199 → σ' o = σ o) (hj : ∀ j, j ≠ 8 → σ' 175 j = σ 175 j) : Inv (c + 1) t σ' :=
  ⟨S, h.fr (fun o _ b => hf o (by omega) (by omega)), hM.cg (R := aO S) (by omega) (fun o a b _ => hf o (by omega) (by omega)) (fun j a => hj j (fun z => a (by unfold scrF; omega))) (hM.m4 (hj 7 (by omega)) (hf 179 (by omega) (by omega))), hP.up⟩
abbrev lwM (i k : Int) : List (Nat × TV) := [(0, vR (-5)), (1, vR 0), (2, vR 175), (3, vR 199), (4, vI i), (5, vI k)]
abbrev lwN (i k : Int) (b : TV) : List (Nat × TV) := [(0, vR (-5)), (1, vR 0), (2, vR 175), (3, vR 199), (4, vI i), (5, vI k), (6, b)]
section LWC
variable {l : Launch} {g : GE} {d kc ks c : Nat} {t : Tau} {σ : Mem} {Q : Post} {i : Int}
theorem l_ship4 (hB : gB g = false) (hl : l.stackTraces = false) (ho : isT t 199 1 ∧ lenOf t 199 = 1) (hI : Inv c t σ) (hkc : 1 ≤ kc) (hks : 6 ≤ ks) (hi : 0 ≤ i ∧ i + 5 ≤ gL g ∧ i < 3000) (k : ∀ σ2, Inv (c + 1) t σ2 → Wp l g 292 (d + 104) (kc - 1) (ks - 6) 1659 (lwL i) [] t σ2 Q) : Wp l g 292 (d + 104) kc ks 328 (lwL i) [] t σ Q := by
  obtain ⟨S, h, hM, hP⟩ := hI
  have tM := hM.tm
  obtain ⟨v1, v2, v3, v4⟩ := h.2.1
  refine r_aload_n (i := 1) rfl (by decide +kernel) ?_
  refine l_arg (j := 1) rfl rfl hi (by omega) (by decide +kernel) ?_
  refine l_arg (j := 2) rfl rfl hi (by omega) (by decide +kernel) ?_
  refine r_aload_n (i := 3) rfl (by decide +kernel) ?_
  generalize g1 : gX g (i + 1).toNat = a1
  generalize g2 : gX g (i + 2).toNat = a2
  refine r_callSW (d := d + 103) (st := []) (idx := 42) (e' := 290) (n := 4) (mc := 1) (ms := 6) (hh := [(0, 10, 13, 13)]) (as := [vR 0, vI a1, vI a2, vR 199]) (by decide +kernel) (by decide +kernel) (by decide) (inA (by decide +kernel)) (inA (by decide +kernel)) (inA (by decide +kernel)) (inA (by decide +kernel)) rfl (by decide) hkc hks (by decide +kernel) ?_
  refine l_ship (d := d + 93) hB hl h.1 v1 ho ⟨fun hc => ?_, fun hc => ?_⟩
  · rw [v2] at hc
    rw [v3, v4]
    generalize hA : shpA (aM S) (aV S) a1 a2 = A
    have m1 : MRl c S t (up σ 199 0 A) := hM.fr (Nat.le_refl _) (fun o _ b => up_ne (by omega))
    refine r_istore (i := 5) (by decide) (by decide +kernel) ?_
    show Wp l g 292 (d + 104) (kc - 1) (ks - 6) 347 (lwM i 0) [] t (up σ 199 0 A) Q
    refine r_aload_n (i := 2) rfl (by decide +kernel) ?_
    refine l_arg (j := 1) rfl rfl hi (by omega) (by decide +kernel) ?_
    rw [g1]
    refine l_arg (j := 2) rfl rfl hi (by omega) (by decide +kernel) ?_
    rw [g2]
    refine r_callV (d := d + 103) (st := []) (kind := 0) (ci := 9) (as := [vI a1, vI a2]) (q := (RX9, TX9, 41)) (mc := 0) (ms := 0) (Or.inl rfl) rfl rfl tM.o ca_12_47 rfl (by decide) (by omega) (by omega) (by decide +kernel) ?_
    refine mo_ship (d := d + 99) m1.1.1 ?_
    rw [m1.1.2.1, m1.1.2.2.1, m1.1.2.2.2, if_pos (show (0 ≤ a1 ∧ a1 < (aN S : Int)) ∧ (0 ≤ a2 ∧ a2 ≤ 8) from hc), hA]
    refine r_istore (i := 6) (by decide) (by decide +kernel) ?_
    show Wp l g 292 (d + 104) (kc - 1 - 0) (ks - 6 - 0) 365 (lwN i 0 (vI A)) [] t (up (up σ 199 0 A) 175 8 0) Q
    refine r_aload_n (i := 2) rfl (by decide +kernel) ?_
    refine r_callV (d := d + 103) (st := []) (kind := 0) (ci := 9) (as := []) (q := (RX9, TX9, 41)) (mc := 0) (ms := 0) (Or.inl rfl) rfl rfl tM.o ca_12_48 rfl (by decide) (by omega) (by omega) (by decide +kernel) ?_
    refine mo_thrown (d := d + 97) tM ?_
    have e8 : (up (up σ 199 0 A) 175 8 0) 175 8 = 0 := by simp [up_ap]
    rw [e8]
    refine r_iload (i := 5) rfl (by decide +kernel) ?_
    refine r_icmp_eq (st := []) (x := 0) (y := 0) (off := 5) (tgt := 376) (by decide +kernel) (by decide) (fun _ => ?_) (fun z => absurd rfl z)
    refine r_iload (i := 5) rfl (by decide +kernel) ?_
    have fin : Wp l g 292 (d + 104) (kc - 1 - 0 - 0) (ks - 6 - 0 - 0) 393 (lwN i 0 (vI A)) [] t (up (up σ 199 0 A) 175 8 0) Q := by
      refine r_goto (off := 1266) (tgt := 1659) (by decide +kernel) (by decide) ?_
      refine r_keep (ks' := [0, 1, 2, 3, 4]) ?_
      exact k _ (Inv.o h hM hP (fun o a b => by simp only [up_ne a, up_ne b]) (fun j a => by simp [up_ap, a]))
    refine r_if_ne (st := []) (x := 0) (off := 15) (tgt := 393) (by decide +kernel) (by decide) (fun z => absurd rfl z) (fun _ => ?_)
    refine r_aload_n (i := 3) rfl (by decide +kernel) ?_
    refine r_iconst (n := 0) (by unfold b32; omega) (by decide +kernel) ?_
    refine r_lald ho.1 (by omega) (by rw [ho.2]; omega) (by decide +kernel) ?_
    refine r_iload (i := 6) rfl (by decide +kernel) ?_
    refine r_i2l (by decide +kernel) ?_
    refine r_lcmp (by decide +kernel) ?_
    have e9 : (up (up σ 199 0 A) 175 8 0) 199 0 = A := by simp [up_ap]
    rw [e9, icmp_s]
    exact r_if_eq (st := []) (x := 0) (off := 5) (tgt := 393) (by decide +kernel) (by decide) (fun _ => fin) (fun z => absurd rfl z)
  · rw [v2] at hc
    have m1 := hM
    refine r_istore (i := 5) (by decide) (by decide +kernel) ?_
    show Wp l g 292 (d + 104) (kc - 1) (ks - 6) 347 (lwM i 1) [] t (σ) Q
    refine r_aload_n (i := 2) rfl (by decide +kernel) ?_
    refine l_arg (j := 1) rfl rfl hi (by omega) (by decide +kernel) ?_
    rw [g1]
    refine l_arg (j := 2) rfl rfl hi (by omega) (by decide +kernel) ?_
    rw [g2]
    refine r_callV (d := d + 103) (st := []) (kind := 0) (ci := 9) (as := [vI a1, vI a2]) (q := (RX9, TX9, 41)) (mc := 0) (ms := 0) (Or.inl rfl) rfl rfl tM.o ca_12_47 rfl (by decide) (by omega) (by omega) (by decide +kernel) ?_
    refine mo_ship (d := d + 99) m1.1.1 ?_
    rw [m1.1.2.1, m1.1.2.2.1, m1.1.2.2.2, if_neg (show ¬ ((0 ≤ a1 ∧ a1 < (aN S : Int)) ∧ (0 ≤ a2 ∧ a2 ≤ 8)) from hc)]
    refine r_istore (i := 6) (by decide) (by decide +kernel) ?_
    show Wp l g 292 (d + 104) (kc - 1 - 0) (ks - 6 - 0) 365 (lwN i 1 (vI 0)) [] t (up (up σ 175 8 0) 175 8 1) Q
    refine r_aload_n (i := 2) rfl (by decide +kernel) ?_
    refine r_callV (d := d + 103) (st := []) (kind := 0) (ci := 9) (as := []) (q := (RX9, TX9, 41)) (mc := 0) (ms := 0) (Or.inl rfl) rfl rfl tM.o ca_12_48 rfl (by decide) (by omega) (by omega) (by decide +kernel) ?_
    refine mo_thrown (d := d + 97) tM ?_
    have e8 : (up (up σ 175 8 0) 175 8 1) 175 8 = 1 := by simp [up_ap]
    rw [e8]
    refine r_iload (i := 5) rfl (by decide +kernel) ?_
    refine r_icmp_eq (st := []) (x := 1) (y := 1) (off := 5) (tgt := 376) (by decide +kernel) (by decide) (fun _ => ?_) (fun z => absurd rfl z)
    refine r_iload (i := 5) rfl (by decide +kernel) ?_
    have fin : Wp l g 292 (d + 104) (kc - 1 - 0 - 0) (ks - 6 - 0 - 0) 393 (lwN i 1 (vI 0)) [] t (up (up σ 175 8 0) 175 8 1) Q := by
      refine r_goto (off := 1266) (tgt := 1659) (by decide +kernel) (by decide) ?_
      refine r_keep (ks' := [0, 1, 2, 3, 4]) ?_
      exact k _ (Inv.o h hM hP (fun o a b => by simp only [up_ne a, up_ne b]) (fun j a => by simp [up_ap, a]))
    exact r_if_ne (st := []) (x := 1) (off := 15) (tgt := 393) (by decide +kernel) (by decide) (fun _ => fin) (fun z => absurd (by omega) z)
theorem l_row49 (hB : gB g = false) (hl : l.stackTraces = false) (ho : isT t 199 1 ∧ lenOf t 199 = 1) (hI : Inv c t σ) (hkc : 1 ≤ kc) (hks : 6 ≤ ks) (hi : 0 ≤ i ∧ i + 5 ≤ gL g ∧ i < 3000) (k : ∀ σ2, Inv (c + 1) t σ2 → Wp l g 292 (d + 104) (kc - 1) (ks - 6) 1659 (lwL i) [] t σ2 Q) : Wp l g 292 (d + 104) kc ks 1604 (lwL i) [] t σ Q := by
  obtain ⟨S, h, hM, hP⟩ := hI
  have tM := hM.tm
  obtain ⟨v1, v2, v3, v4⟩ := h.2.1
  refine r_aload_n (i := 1) rfl (by decide +kernel) ?_
  refine l_arg (j := 1) rfl rfl hi (by omega) (by decide +kernel) ?_
  refine r_aload_n (i := 3) rfl (by decide +kernel) ?_
  generalize g1 : gX g (i + 1).toNat = a1
  refine r_callSW (d := d + 103) (st := []) (idx := 229) (e' := 291) (n := 3) (mc := 1) (ms := 6) (hh := [(0, 8, 11, 13)]) (as := [vR 0, vI a1, vR 199]) (by decide +kernel) (by decide +kernel) (by decide) (inA (by decide +kernel)) (inA (by decide +kernel)) (inA (by decide +kernel)) (inA (by decide +kernel)) rfl (by decide) hkc hks (by decide +kernel) ?_
  obtain ⟨u1, u2, u3⟩ := h.2.2.2.2.1
  obtain ⟨w1, w2, w3⟩ := hM.2.2.2.1
  refine l_row (d := d + 93) hB hl h.1 ho ⟨fun hc => ?_, fun hc => ?_⟩
  · rw [u1] at hc
    obtain ⟨q1, q2, q3⟩ := hc
    have eA : σ 4 a1 = σ 179 a1 := by
      have x1 := u3 a1.toNat (by omega)
      have x2 := w3 a1.toNat (by omega)
      rw [Int.toNat_of_nonneg q1] at x1 x2
      rw [x1, x2]
    generalize hA : σ 4 a1 = A
    rw [hA] at eA
    have r7 : 0 ≤ up σ 199 0 A 175 7 ∧ up σ 199 0 A 175 7 ≤ 16 := by rw [up_ne (by omega), w1]; omega
    refine r_istore (i := 5) (by decide) (by decide +kernel) ?_
    show Wp l g 292 (d + 104) (kc - 1) (ks - 6) 1617 (lwM i 0) [] t (up σ 199 0 A) Q
    refine r_aload_n (i := 2) rfl (by decide +kernel) ?_
    refine l_arg (j := 1) rfl rfl hi (by omega) (by decide +kernel) ?_
    rw [g1]
    refine r_callV (d := d + 103) (st := []) (kind := 0) (ci := 9) (as := [vI a1]) (q := (RX9, TX9, 41)) (mc := 0) (ms := 0) (Or.inl rfl) rfl rfl tM.o ca_12_232 rfl (by decide) (by omega) (by omega) (by decide +kernel) ?_
    refine mo_row (d := d + 99) tM r7 ?_
    rw [up_ne (show (175 : Int) ≠ 199 by omega), w1, if_pos ⟨q1, q2⟩, up_ne (show (179 : Int) ≠ 199 by omega), ← eA]
    refine r_lstore (i := 6) (by decide) (by decide +kernel) ?_
    show Wp l g 292 (d + 104) (kc - 1 - 0) (ks - 6 - 0) 1629 (lwN i 0 (vL A)) [] t (up (up σ 199 0 A) 175 8 0) Q
    refine r_aload_n (i := 2) rfl (by decide +kernel) ?_
    refine r_callV (d := d + 103) (st := []) (kind := 0) (ci := 9) (as := []) (q := (RX9, TX9, 41)) (mc := 0) (ms := 0) (Or.inl rfl) rfl rfl tM.o ca_12_48 rfl (by decide) (by omega) (by omega) (by decide +kernel) ?_
    refine mo_thrown (d := d + 97) tM ?_
    have e8 : (up (up σ 199 0 A) 175 8 0) 175 8 = 0 := by simp [up_ap]
    rw [e8]
    refine r_iload (i := 5) rfl (by decide +kernel) ?_
    refine r_icmp_eq (st := []) (x := 0) (y := 0) (off := 5) (tgt := 1640) (by decide +kernel) (by decide) (fun _ => ?_) (fun z => absurd rfl z)
    refine r_iload (i := 5) rfl (by decide +kernel) ?_
    have fin : Wp l g 292 (d + 104) (kc - 1 - 0 - 0) (ks - 6 - 0 - 0) 1656 (lwN i 0 (vL A)) [] t (up (up σ 199 0 A) 175 8 0) Q := by
      refine r_goto (off := 3) (tgt := 1659) (by decide +kernel) (by decide) ?_
      refine r_keep (ks' := [0, 1, 2, 3, 4]) ?_
      exact k _ (Inv.o h hM hP (fun o a b => by simp only [up_ne a, up_ne b]) (fun j a => by simp [up_ap, a]))
    refine r_if_ne (st := []) (x := 0) (off := 14) (tgt := 1656) (by decide +kernel) (by decide) (fun z => absurd rfl z) (fun _ => ?_)
    refine r_aload_n (i := 3) rfl (by decide +kernel) ?_
    refine r_iconst (n := 0) (by unfold b32; omega) (by decide +kernel) ?_
    refine r_lald ho.1 (by omega) (by rw [ho.2]; omega) (by decide +kernel) ?_
    refine r_lload (i := 6) rfl (by decide +kernel) ?_
    refine r_lcmp (by decide +kernel) ?_
    have e9 : (up (up σ 199 0 A) 175 8 0) 199 0 = A := by simp [up_ap]
    rw [e9, icmp_s]
    exact r_if_eq (st := []) (x := 0) (off := 5) (tgt := 1656) (by decide +kernel) (by decide) (fun _ => fin) (fun z => absurd rfl z)
  · rw [u1] at hc
    have r7 : 0 ≤ σ 175 7 ∧ σ 175 7 ≤ 16 := by rw [w1]; omega
    refine r_istore (i := 5) (by decide) (by decide +kernel) ?_
    show Wp l g 292 (d + 104) (kc - 1) (ks - 6) 1617 (lwM i 1) [] t (σ) Q
    refine r_aload_n (i := 2) rfl (by decide +kernel) ?_
    refine l_arg (j := 1) rfl rfl hi (by omega) (by decide +kernel) ?_
    rw [g1]
    refine r_callV (d := d + 103) (st := []) (kind := 0) (ci := 9) (as := [vI a1]) (q := (RX9, TX9, 41)) (mc := 0) (ms := 0) (Or.inl rfl) rfl rfl tM.o ca_12_232 rfl (by decide) (by omega) (by omega) (by decide +kernel) ?_
    refine mo_row (d := d + 99) tM r7 ?_
    rw [w1, if_neg (fun z => hc ⟨z.1, z.2, by have := z.2; omega⟩)]
    refine r_lstore (i := 6) (by decide) (by decide +kernel) ?_
    show Wp l g 292 (d + 104) (kc - 1 - 0) (ks - 6 - 0) 1629 (lwN i 1 (vL 0)) [] t (up (up σ 175 8 0) 175 8 1) Q
    refine r_aload_n (i := 2) rfl (by decide +kernel) ?_
    refine r_callV (d := d + 103) (st := []) (kind := 0) (ci := 9) (as := []) (q := (RX9, TX9, 41)) (mc := 0) (ms := 0) (Or.inl rfl) rfl rfl tM.o ca_12_48 rfl (by decide) (by omega) (by omega) (by decide +kernel) ?_
    refine mo_thrown (d := d + 97) tM ?_
    have e8 : (up (up σ 175 8 0) 175 8 1) 175 8 = 1 := by simp [up_ap]
    rw [e8]
    refine r_iload (i := 5) rfl (by decide +kernel) ?_
    refine r_icmp_eq (st := []) (x := 1) (y := 1) (off := 5) (tgt := 1640) (by decide +kernel) (by decide) (fun _ => ?_) (fun z => absurd rfl z)
    refine r_iload (i := 5) rfl (by decide +kernel) ?_
    have fin : Wp l g 292 (d + 104) (kc - 1 - 0 - 0) (ks - 6 - 0 - 0) 1656 (lwN i 1 (vL 0)) [] t (up (up σ 175 8 0) 175 8 1) Q := by
      refine r_goto (off := 3) (tgt := 1659) (by decide +kernel) (by decide) ?_
      refine r_keep (ks' := [0, 1, 2, 3, 4]) ?_
      exact k _ (Inv.o h hM hP (fun o a b => by simp only [up_ne a, up_ne b]) (fun j a => by simp [up_ap, a]))
    exact r_if_ne (st := []) (x := 1) (off := 14) (tgt := 1656) (by decide +kernel) (by decide) (fun _ => fin) (fun z => absurd (by omega) z)
end LWC
