/-! ship and row of the class -/
def shC (n : Nat) (i w : Int) : Prop := (0 ≤ i ∧ i < n) ∧ (0 ≤ w ∧ w ≤ 8)
theorem t_ship {l : Launch} {g : GE} {d : Nat} {t : Tau} {σ : Mem} {i w : Int} (hB : gB g = false) (hl : l.stackTraces = false) (hC : TC t) (hk : SeaOk t σ 5) : vx_Met l (mN 89) (wsM 89) (rmD (d + 9) 1 6) (PcM g [vR 0, vI i, vI w] t σ) (QcM g 1 (fun v t' σ' => shC (nS σ 5) i w ∧ v = some (vI (shpA (mS σ 5) (vwS σ 5) i w)) ∧ t' = t ∧ σ' = σ)) (XCs g t σ (¬ shC (nS σ 5) i w)) 1 6 (Ag g) := by
  refine vx_in (by decide +kernel) (show 3 ≤ mL 89 by decide) ?_
  have e1 : gval t σ 0 2 3 = vR 5 := by
    unfold gval
    rw [if_neg (by omega), if_neg (by omega), hC.f0_2]
  have fin : shC (nS σ 5) i w → Wp l g 89 (d + 9) 1 6 31 [(0, vR 0), (1, vI i), (2, vI w)] [] t σ (fun v t' σ' => shC (nS σ 5) i w ∧ v = some (vI (shpA (mS σ 5) (vwS σ 5) i w)) ∧ t' = t ∧ σ' = σ) := by
    intro hc
    obtain ⟨hi, w0, w1⟩ := id hc
    refine r_iload_n (i := 2) rfl (by decide +kernel) ?_
    rcases (show w = 0 ∨ w = 1 ∨ w = 2 ∨ w = 3 ∨ w = 4 ∨ w = 5 ∨ w = 6 ∨ w = 7 ∨ w = 8 by omega) with rfl | rfl | rfl | rfl | rfl | rfl | rfl | rfl | rfl
    · refine r_tableIn (dflt := 97) (lo := 0) (hi := 8) (offs := #[52, 61, 70, 97, 97, 97, 97, 79, 88]) (len := 52) (off := 52) (tgt := 84) (by decide +kernel) (by decide) (by decide) rfl (by decide) ?_
      refine r_aload_n (i := 0) rfl (by decide +kernel) ?_
      refine r_get (ci := 8) (k := 2) (kd := 3) hC.o0 (by decide +kernel) fl_8_26 (by decide +kernel) ?_
      rw [e1]
      refine r_iload_n (i := 1) rfl (by decide +kernel) ?_
      refine r_callV (kind := 1) (ci := 5) (as := [vI i]) (q := (RX5, TX5, 9)) (mc := 0) (ms := 0) (Or.inr rfl) rfl rfl hk.1.1 ca_8_138 rfl (by decide) (by omega) (by omega) (by decide +kernel) ?_
      refine a_mightOf ?_
      unfold apMight
      rw [aRI_c, if_pos hi]
      refine ⟨hk, r_ret (i := .ireturn) (v := some (vI _)) rfl (by decide +kernel) rfl (Or.inr hB) ⟨hc, ?_, rfl, rfl⟩⟩
      simp [shpA]
    · refine r_tableIn (dflt := 97) (lo := 0) (hi := 8) (offs := #[52, 61, 70, 97, 97, 97, 97, 79, 88]) (len := 52) (off := 61) (tgt := 93) (by decide +kernel) (by decide) (by decide) rfl (by decide) ?_
      refine r_aload_n (i := 0) rfl (by decide +kernel) ?_
      refine r_get (ci := 8) (k := 2) (kd := 3) hC.o0 (by decide +kernel) fl_8_26 (by decide +kernel) ?_
      rw [e1]
      refine r_iload_n (i := 1) rfl (by decide +kernel) ?_
      refine r_callV (kind := 1) (ci := 5) (as := [vI i]) (q := (RX5, TX5, 9)) (mc := 0) (ms := 0) (Or.inr rfl) rfl rfl hk.1.1 ca_8_141 rfl (by decide) (by omega) (by omega) (by decide +kernel) ?_
      refine a_strengthOf ?_
      unfold apOf
      rw [aRI_c, if_pos hi]
      refine ⟨hk, r_ret (i := .ireturn) (v := some (vI _)) rfl (by decide +kernel) rfl (Or.inr hB) ⟨hc, ?_, rfl, rfl⟩⟩
      simp [shpA]
    · refine r_tableIn (dflt := 97) (lo := 0) (hi := 8) (offs := #[52, 61, 70, 97, 97, 97, 97, 79, 88]) (len := 52) (off := 70) (tgt := 102) (by decide +kernel) (by decide) (by decide) rfl (by decide) ?_
      refine r_aload_n (i := 0) rfl (by decide +kernel) ?_
      refine r_get (ci := 8) (k := 2) (kd := 3) hC.o0 (by decide +kernel) fl_8_26 (by decide +kernel) ?_
      rw [e1]
      refine r_iload_n (i := 1) rfl (by decide +kernel) ?_
      refine r_callV (kind := 1) (ci := 5) (as := [vI i]) (q := (RX5, TX5, 9)) (mc := 0) (ms := 0) (Or.inr rfl) rfl rfl hk.1.1 ca_8_144 rfl (by decide) (by omega) (by omega) (by decide +kernel) ?_
      refine a_sideOf ?_
      unfold apOf
      rw [aRI_c, if_pos hi]
      refine ⟨hk, r_ret (i := .ireturn) (v := some (vI _)) rfl (by decide +kernel) rfl (Or.inr hB) ⟨hc, ?_, rfl, rfl⟩⟩
      simp [shpA]
    · refine r_tableIn (dflt := 97) (lo := 0) (hi := 8) (offs := #[52, 61, 70, 97, 97, 97, 97, 79, 88]) (len := 52) (off := 97) (tgt := 129) (by decide +kernel) (by decide) (by decide) rfl (by decide) ?_
      refine r_aload_n (i := 0) rfl (by decide +kernel) ?_
      refine r_get (ci := 8) (k := 2) (kd := 3) hC.o0 (by decide +kernel) fl_8_26 (by decide +kernel) ?_
      rw [e1]
      refine r_iload_n (i := 1) rfl (by decide +kernel) ?_
      refine r_iload_n (i := 2) rfl (by decide +kernel) ?_
      refine r_iconst (n := 3) (by unfold b32; omega) (by decide +kernel) ?_
      refine r_isub (by decide +kernel) ?_
      rw [w32_id (by omega) (by omega)]
      refine r_callV (kind := 1) (ci := 5) (as := [vI i, vI (3 - 3)]) (q := (RX5, TX5, 9)) (mc := 0) (ms := 0) (Or.inr rfl) rfl rfl hk.1.1 ca_8_153 rfl (by decide) (by omega) (by omega) (by decide +kernel) ?_
      refine a_parts ?_
      unfold apParts
      rw [aRII_c, if_pos ⟨hi, by omega, by omega⟩]
      refine ⟨hk, r_ret (i := .ireturn) (v := some (vI _)) rfl (by decide +kernel) rfl (Or.inr hB) ⟨hc, ?_, rfl, rfl⟩⟩
      simp [shpA]
    · refine r_tableIn (dflt := 97) (lo := 0) (hi := 8) (offs := #[52, 61, 70, 97, 97, 97, 97, 79, 88]) (len := 52) (off := 97) (tgt := 129) (by decide +kernel) (by decide) (by decide) rfl (by decide) ?_
      refine r_aload_n (i := 0) rfl (by decide +kernel) ?_
      refine r_get (ci := 8) (k := 2) (kd := 3) hC.o0 (by decide +kernel) fl_8_26 (by decide +kernel) ?_
      rw [e1]
      refine r_iload_n (i := 1) rfl (by decide +kernel) ?_
      refine r_iload_n (i := 2) rfl (by decide +kernel) ?_
      refine r_iconst (n := 3) (by unfold b32; omega) (by decide +kernel) ?_
      refine r_isub (by decide +kernel) ?_
      rw [w32_id (by omega) (by omega)]
      refine r_callV (kind := 1) (ci := 5) (as := [vI i, vI (4 - 3)]) (q := (RX5, TX5, 9)) (mc := 0) (ms := 0) (Or.inr rfl) rfl rfl hk.1.1 ca_8_153 rfl (by decide) (by omega) (by omega) (by decide +kernel) ?_
      refine a_parts ?_
      unfold apParts
      rw [aRII_c, if_pos ⟨hi, by omega, by omega⟩]
      refine ⟨hk, r_ret (i := .ireturn) (v := some (vI _)) rfl (by decide +kernel) rfl (Or.inr hB) ⟨hc, ?_, rfl, rfl⟩⟩
      simp [shpA]
    · refine r_tableIn (dflt := 97) (lo := 0) (hi := 8) (offs := #[52, 61, 70, 97, 97, 97, 97, 79, 88]) (len := 52) (off := 97) (tgt := 129) (by decide +kernel) (by decide) (by decide) rfl (by decide) ?_
      refine r_aload_n (i := 0) rfl (by decide +kernel) ?_
      refine r_get (ci := 8) (k := 2) (kd := 3) hC.o0 (by decide +kernel) fl_8_26 (by decide +kernel) ?_
      rw [e1]
      refine r_iload_n (i := 1) rfl (by decide +kernel) ?_
      refine r_iload_n (i := 2) rfl (by decide +kernel) ?_
      refine r_iconst (n := 3) (by unfold b32; omega) (by decide +kernel) ?_
      refine r_isub (by decide +kernel) ?_
      rw [w32_id (by omega) (by omega)]
      refine r_callV (kind := 1) (ci := 5) (as := [vI i, vI (5 - 3)]) (q := (RX5, TX5, 9)) (mc := 0) (ms := 0) (Or.inr rfl) rfl rfl hk.1.1 ca_8_153 rfl (by decide) (by omega) (by omega) (by decide +kernel) ?_
      refine a_parts ?_
      unfold apParts
      rw [aRII_c, if_pos ⟨hi, by omega, by omega⟩]
      refine ⟨hk, r_ret (i := .ireturn) (v := some (vI _)) rfl (by decide +kernel) rfl (Or.inr hB) ⟨hc, ?_, rfl, rfl⟩⟩
      simp [shpA]
    · refine r_tableIn (dflt := 97) (lo := 0) (hi := 8) (offs := #[52, 61, 70, 97, 97, 97, 97, 79, 88]) (len := 52) (off := 97) (tgt := 129) (by decide +kernel) (by decide) (by decide) rfl (by decide) ?_
      refine r_aload_n (i := 0) rfl (by decide +kernel) ?_
      refine r_get (ci := 8) (k := 2) (kd := 3) hC.o0 (by decide +kernel) fl_8_26 (by decide +kernel) ?_
      rw [e1]
      refine r_iload_n (i := 1) rfl (by decide +kernel) ?_
      refine r_iload_n (i := 2) rfl (by decide +kernel) ?_
      refine r_iconst (n := 3) (by unfold b32; omega) (by decide +kernel) ?_
      refine r_isub (by decide +kernel) ?_
      rw [w32_id (by omega) (by omega)]
      refine r_callV (kind := 1) (ci := 5) (as := [vI i, vI (6 - 3)]) (q := (RX5, TX5, 9)) (mc := 0) (ms := 0) (Or.inr rfl) rfl rfl hk.1.1 ca_8_153 rfl (by decide) (by omega) (by omega) (by decide +kernel) ?_
      refine a_parts ?_
      unfold apParts
      rw [aRII_c, if_pos ⟨hi, by omega, by omega⟩]
      refine ⟨hk, r_ret (i := .ireturn) (v := some (vI _)) rfl (by decide +kernel) rfl (Or.inr hB) ⟨hc, ?_, rfl, rfl⟩⟩
      simp [shpA]
    · refine r_tableIn (dflt := 97) (lo := 0) (hi := 8) (offs := #[52, 61, 70, 97, 97, 97, 97, 79, 88]) (len := 52) (off := 79) (tgt := 111) (by decide +kernel) (by decide) (by decide) rfl (by decide) ?_
      refine r_aload_n (i := 0) rfl (by decide +kernel) ?_
      refine r_get (ci := 8) (k := 2) (kd := 3) hC.o0 (by decide +kernel) fl_8_26 (by decide +kernel) ?_
      rw [e1]
      refine r_iload_n (i := 1) rfl (by decide +kernel) ?_
      refine r_callV (kind := 1) (ci := 5) (as := [vI i]) (q := (RX5, TX5, 9)) (mc := 0) (ms := 0) (Or.inr rfl) rfl rfl hk.1.1 ca_8_147 rfl (by decide) (by omega) (by omega) (by decide +kernel) ?_
      refine a_wonOf ?_
      unfold apOf
      rw [aRI_c, if_pos hi]
      refine ⟨hk, r_ret (i := .ireturn) (v := some (vI _)) rfl (by decide +kernel) rfl (Or.inr hB) ⟨hc, ?_, rfl, rfl⟩⟩
      simp [shpA]
    · refine r_tableIn (dflt := 97) (lo := 0) (hi := 8) (offs := #[52, 61, 70, 97, 97, 97, 97, 79, 88]) (len := 52) (off := 88) (tgt := 120) (by decide +kernel) (by decide) (by decide) rfl (by decide) ?_
      refine r_aload_n (i := 0) rfl (by decide +kernel) ?_
      refine r_get (ci := 8) (k := 2) (kd := 3) hC.o0 (by decide +kernel) fl_8_26 (by decide +kernel) ?_
      rw [e1]
      refine r_iload_n (i := 1) rfl (by decide +kernel) ?_
      refine r_callV (kind := 1) (ci := 5) (as := [vI i]) (q := (RX5, TX5, 9)) (mc := 0) (ms := 0) (Or.inr rfl) rfl rfl hk.1.1 ca_8_150 rfl (by decide) (by omega) (by omega) (by decide +kernel) ?_
      refine a_lostOf ?_
      unfold apOf
      rw [aRI_c, if_pos hi]
      refine ⟨hk, r_ret (i := .ireturn) (v := some (vI _)) rfl (by decide +kernel) rfl (Or.inr hB) ⟨hc, ?_, rfl, rfl⟩⟩
      simp [shpA]
  refine wx_aload_n (i := 0) rfl (by decide +kernel) ?_
  refine wx_get (ci := 8) (k := 2) (kd := 3) hC.o0 (by decide +kernel) fl_8_26 (by decide +kernel) ?_
  rw [e1]
  refine wx_iload_n (i := 1) rfl (by decide +kernel) ?_
  refine wx_callV (d := d + 8) (kind := 1) (ci := 5) (as := [vI i]) (q := (RX5, TX5, 9)) (mc := 0) (ms := 0) (Or.inr rfl) rfl rfl hk.1.1 ca_8_127 rfl (by decide) (by omega) (by omega) (by decide +kernel) ?_
  refine a_has (d := d + 7) ?_
  unfold apHas
  rw [aRI_c]
  refine ⟨hk, ?_⟩
  refine wx_if_eq (st := []) (off := 13) (tgt := 21) (by decide +kernel) (by decide) (fun z => ?_) (fun z => ?_)
  · refine x_throw1 (d := d + 3) hl (fun hc => ?_) (by omega) (by omega)
    rw [if_pos hc.1] at z
    omega
  · have hi : 0 ≤ i ∧ i < nS σ 5 := by
      by_cases hi : 0 ≤ i ∧ i < nS σ 5
      · exact hi
      · rw [if_neg hi] at z; omega
    refine wx_iload_n (i := 2) rfl (by decide +kernel) ?_
    refine wx_if_lt (st := []) (off := 9) (tgt := 21) (by decide +kernel) (by decide) (fun z => x_throw1 (d := d + 3) hl (fun hc => by have := hc.2.1; omega) (by omega) (by omega)) (fun z1 => ?_)
    refine wx_iload_n (i := 2) rfl (by decide +kernel) ?_
    refine wx_bipush (n := 8) (v := 8) (by unfold b32; omega) (by decide +kernel) (by decide +kernel) ?_
    refine wx_icmp_le (st := []) (off := 13) (tgt := 31) (by decide +kernel) (by decide) (fun z2 => ?_) (fun z2 => x_throw1 (d := d + 3) hl (fun hc => by have := hc.2.2; omega) (by omega) (by omega))
    exact x_of (fin ⟨hi, by omega, z2⟩) (KTh_ret hB)
def roC (m : Int) (i : Int) : Prop := 0 ≤ i ∧ i < m ∧ i < 8
theorem t_row {l : Launch} {g : GE} {d : Nat} {t : Tau} {σ : Mem} {i : Int} (hB : gB g = false) (hl : l.stackTraces = false) (hC : TC t) : vx_Met l (mN 134) (wsM 134) (rmD (d + 9) 1 6) (PcM g [vR 0, vI i] t σ) (QcM g 1 (fun v t' σ' => roC (σ 3 1) i ∧ v = some (vL (σ 4 i)) ∧ t' = t ∧ σ' = σ)) (XCs g t σ (¬ roC (σ 3 1) i)) 1 6 (Ag g) := by
  refine vx_in (by decide +kernel) (show 2 ≤ mL 134 by decide) ?_
  have e1 : gval t σ 0 1 3 = vR 3 := by
    unfold gval
    rw [if_neg (by omega), if_neg (by omega), hC.f0_1]
  refine wx_aload_n (i := 0) rfl (by decide +kernel) ?_
  refine wx_get (ci := 8) (k := 1) (kd := 3) hC.o0 (by decide +kernel) fl_8_19 (by decide +kernel) ?_
  rw [e1]
  refine wx_iload_n (i := 1) rfl (by decide +kernel) ?_
  refine wx_callV (d := d + 8) (kind := 1) (ci := 3) (as := [vI i]) (q := (RX3, TX3, 2)) (mc := 0) (ms := 0) (Or.inr rfl) rfl rfl hC.o3 ca_8_347 rfl (by decide) (by omega) (by omega) (by decide +kernel) ?_
  refine r_has (d := d + 7) ?_
  unfold rpHas
  rw [aRI_c]
  refine ⟨rfl, hC, ?_⟩
  refine wx_if_ne (st := []) (off := 14) (tgt := 22) (by decide +kernel) (by decide) (fun z => ?_) (fun z => x_throw2 (d := d + 3) hl (fun hc => z (by rw [if_pos (show 0 ≤ i ∧ i < σ 3 1 ∧ i < 8 from hc)]; omega)) (by omega) (by omega))
  have hc : roC (σ 3 1) i := by
    by_cases hi : 0 ≤ i ∧ i < σ 3 1 ∧ i < 8
    · exact hi
    · rw [if_neg hi] at z; exact absurd rfl z
  refine x_of ?_ (KTh_ret hB)
  refine r_aload_n (i := 0) rfl (by decide +kernel) ?_
  refine r_get (ci := 8) (k := 1) (kd := 3) hC.o0 (by decide +kernel) fl_8_19 (by decide +kernel) ?_
  rw [e1]
  refine r_iload_n (i := 1) rfl (by decide +kernel) ?_
  refine r_callV (d := d + 8) (kind := 1) (ci := 3) (as := [vI i]) (q := (RX3, TX3, 2)) (mc := 0) (ms := 0) (Or.inr rfl) rfl rfl hC.o3 ca_8_350 rfl (by decide) (by omega) (by omega) (by decide +kernel) ?_
  refine r_at (d := d + 6) ?_
  unfold rpAt
  rw [aRI_c, if_pos (show 0 ≤ i ∧ i < σ 3 1 ∧ i < 8 from hc)]
  exact ⟨rfl, hC, r_ret (i := .lreturn) (v := some (vL _)) rfl (by decide +kernel) rfl (Or.inr hB) ⟨hc, rfl, rfl, rfl⟩⟩
