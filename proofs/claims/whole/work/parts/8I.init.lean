/-! a new object of each: both hold the same -/
theorem cM_z {σ : Mem} {o i : Int} (h : (1 ≤ o ∧ o ≤ 25) ∨ (28 ≤ o ∧ o ≤ 125) ∨ (157 ≤ o ∧ o ≤ 174)) : cM14 σ o i = 0 := by
  unfold cM14 cM13 cM12 cM11 cM10 cM9 cM8 cM7 cM6 cM5 cM4 cM3 cM2 cM1 zs pz zr up
  dsimp only
  (repeat' split) <;> first | rfl | omega
theorem cM_0 {σ : Mem} {j : Int} : cM14 σ 0 j = if j = 13 then 171 else if j = 12 then 167 else σ 0 j := by
  unfold cM14 cM13 cM12 cM11 cM10 cM9 cM8 cM7 cM6 cM5 cM4 cM3 cM2 cM1 zs pz zr up
  by_cases h1 : j = 13
  · simp [h1]
  · by_cases h2 : j = 12
    · simp [h2]
    · simp [h1, h2]
theorem cM_26 {σ : Mem} {j : Int} : cM14 σ 26 j = nf 2 j := by
  unfold cM14 cM13 cM12 cM11 cM10 cM9 cM8 cM7 cM6 cM5 cM4 cM3 cM2 cM1 zs pz zr up
  simp
theorem cM_27 {σ : Mem} {k : Int} (h0 : 0 ≤ k) (h1 : k < 12) : cM14 σ 27 k = 28 + 7 * k := by
  unfold cM14 cM13 cM12 cM11 cM10 cM9 cM8 cM7 cM6 cM5 cM4 cM3 cM2 cM1 zs pz zr up
  simp [h0, h1]
theorem cM_127 {σ : Mem} {k : Int} (h0 : 0 ≤ k) (h1 : k < 4) : cM14 σ 127 k = 129 + 7 * k := by
  unfold cM14 cM13 cM12 cM11 cM10 cM9 cM8 cM7 cM6 cM5 cM4 cM3 cM2 cM1 zs pz zr up
  simp [h0, h1]
def zf : Int → Int := fun _ => 0
theorem wf_z {M : Int → Int} : WFV 0 M zf := ⟨by omega, fun i a b => absurd b (by omega), by unfold zf; omega, by unfold b32 zf; omega, fun _ _ => rfl⟩
def S00 : AS := (0, zf, zf, 3, (0, zf), [], plE, (0, fun _ => zf), (fun _ => false, fun _ => zf), (0, zf, zf), (0, zf, zf, zf))
theorem nf_at {ci : Nat} {j : Nat} (h : (fkL.getD ci [])[j]? ≠ some 2) : nf ci (j : Int) = 0 := by
  unfold nf
  rw [Int.toNat_natCast, if_neg h]
theorem cr_0 {σ σ' τ : Mem} (h1 : RsF (up (cM14 (zr σ 0 (nf 8))) 0 14 3) σ' 167) (h2 : RuleIs cTau σ' 167 (fun E => evE E plE)) (h3 : ∀ o, 0 ≤ o → o < 175 → τ o = σ' o) : CR S00 mTau τ := by
  have f : ∀ o, 0 ≤ o → o < 175 → (o < 167 ∨ 169 < o) → τ o = up (cM14 (zr σ 0 (nf 8))) 0 14 3 o := fun o a b c => (h3 o a b).trans (h1 o (by omega) (by omega) (by omega))
  have z : ∀ o i, (1 ≤ o ∧ o ≤ 25) ∨ (28 ≤ o ∧ o ≤ 125) ∨ (157 ≤ o ∧ o ≤ 166) → τ o i = 0 := fun o i h => by
    rw [f o (by omega) (by omega) (by omega), up_ne (by omega)]
    exact cM_z (by omega)
  have zo : ∀ o, (1 ≤ o ∧ o ≤ 25) ∨ (28 ≤ o ∧ o ≤ 125) ∨ (157 ≤ o ∧ o ≤ 166) → τ o = zf := fun o h => by
    funext i
    exact z o i h
  have f0 : ∀ j, τ 0 j = if j = 14 then 3 else if j = 13 then 171 else if j = 12 then 167 else nf 8 j := fun j => by
    rw [f 0 (by omega) (by omega) (by omega)]
    by_cases h14 : j = 14
    · simp [up_ap, h14]
    · simp only [up_ap, h14, and_false, if_false]
      rw [cM_0]
      simp [zr]
  have n5 : nS τ 5 = 0 := by unfold nS; rw [z 5 0 (by omega)]; rfl
  have m5 : mS τ 5 = zf := by
    funext i
    unfold mS
    split
    · exact z _ _ (by omega)
    · rfl
  have v5 : vwS τ 5 = zf := by
    funext j
    unfold vwS
    rw [zo (5 + 2) (by omega), zo (5 + 3) (by omega), zo (5 + 6) (by omega), zo (5 + 4) (by omega), zo (5 + 5) (by omega), zo 5 (by omega)]
    unfold zf
    (repeat' split) <;> rfl
  have n8 : nf 8 15 = 0 := nf_at (ci := 8) (j := 15) (by decide)
  have r27 : RuleIs mTau τ 167 (fun E => evE E plE) := by
    have q := h2.cg (σ' := τ) (h3 167 (by omega) (by omega)) (h3 168 (by omega) (by omega))
    exact ⟨mT_C.r167, q.2⟩
  refine ⟨mT_C, ⟨⟨mT_C.s5, by rw [n5]; exact z 5 0 (by omega), by rw [n5, v5]; exact wf_z⟩, n5, m5, v5⟩, by rw [f0]; rfl, ⟨z 1 1 (by omega), zo 2 (by omega)⟩, ⟨z 3 1 (by omega), by show 0 ≤ 8; omega, fun k hk => absurd hk (Nat.not_lt_zero k)⟩, ⟨Or.inl ⟨by rw [f0]; simp, by rw [f0]; simp⟩, ?_⟩, ⟨⟨?_, by show 0 ≤ 12; omega⟩, ?_, ?_, fun k hk => absurd hk (Nat.not_lt_zero k)⟩, ⟨by rw [f0]; simp [n8, kBt, S00], fun i _ hb => (by cases hb)⟩, ⟨z 157 3 (by omega), zo 158 (by omega), zo 159 (by omega)⟩, ⟨z 161 3 (by omega), zo 162 (by omega), zo 163 (by omega), zo 164 (by omega)⟩, ?_⟩
  · rw [show τ 0 12 = 167 by rw [f0]; simp]
    exact r27
  · rw [f 26 (by omega) (by omega) (by omega), up_ne (by omega), cM_26]
    exact nf_at (ci := 2) (j := 2) (by decide)
  · rw [f 26 (by omega) (by omega) (by omega), up_ne (by omega), cM_26, show nf 2 1 = 0 from nf_at (ci := 2) (j := 1) (by decide)]
    omega
  · intro k a b
    rw [f 27 (by omega) (by omega) (by omega), up_ne (by omega)]
    exact cM_27 a b
  · intro k a b
    rw [f 127 (by omega) (by omega) (by omega), up_ne (by omega)]
    exact cM_127 a b
theorem mr_0 {τ : Mem} (hz : ∀ o, 175 < o → o < 199 → τ o = zf) (hf : ∀ j, τ 175 j = if j = 16 then 182 else if j = 15 then 181 else if j = 2 then 3 else nf 9 j) : MRl 0 S00 mTau τ := by
  have g : ∀ j : Nat, (fkL.getD 9 [])[j]? ≠ some 2 → j ≠ 2 → j ≠ 15 → j ≠ 16 → τ 175 (j : Int) = 0 := fun j h a b c => by
    rw [hf, if_neg (by omega), if_neg (by omega), if_neg (by omega)]
    exact nf_at h
  have g1 : τ 175 1 = 0 := g 1 (by decide) (by omega) (by omega) (by omega)
  have g5 : τ 175 5 = 0 := g 5 (by decide) (by omega) (by omega) (by omega)
  have g7 : τ 175 7 = 0 := g 7 (by decide) (by omega) (by omega) (by omega)
  have g17 : τ 175 17 = 0 := g 17 (by decide) (by omega) (by omega) (by omega)
  have g21 : τ 175 21 = 0 := g 21 (by decide) (by omega) (by omega) (by omega)
  have g30 : τ 175 30 = 0 := g 30 (by decide) (by omega) (by omega) (by omega)
  have g33 : τ 175 33 = 0 := g 33 (by decide) (by omega) (by omega) (by omega)
  have g34 : τ 175 34 = 0 := g 34 (by decide) (by omega) (by omega) (by omega)
  have g37 : τ 175 37 = 0 := g 37 (by decide) (by omega) (by omega) (by omega)
  have e15 : τ 175 15 = 181 := by rw [hf]; simp
  have e16 : τ 175 16 = 182 := by rw [hf]; simp
  have en : nM τ = 0 := by unfold nM; rw [g1]; rfl
  have em : mM τ = zf := by
    funext i
    unfold mM
    rw [hz 177 (by omega) (by omega)]
    unfold zf
    split <;> rfl
  have ev : vA τ 176 = zf := by
    funext i
    show clp (τ 176) i = _
    unfold clp
    rw [hz 176 (by omega) (by omega)]
    unfold zf
    split <;> rfl
  have ei : iand 0 255 = 0 := by rw [iand_eq]; decide +kernel
  refine ⟨⟨⟨⟨mT_M, by rw [en]; exact g1, by rw [en]; omega⟩, by rw [en, ev]; exact wf_z⟩, en, em, ev⟩, by rw [hf]; rfl, ⟨⟨g5, ?_⟩, by rw [g5]; omega, fun k => by rw [hz 178 (by omega) (by omega)]; unfold zf; omega⟩, ⟨g7, by show 0 ≤ 16; omega, fun k hk => absurd hk (Nat.not_lt_zero k)⟩, ⟨Or.inl ⟨e15, e16⟩, Or.inl e15, fun k => by rw [hz 181 (by omega) (by omega), hz 182 (by omega) (by omega)]; unfold zf; omega, 0, g17, by omega, rlE_0.1⟩, ⟨⟨g21, by show 0 ≤ 12; omega⟩, fun k hk => absurd hk (Nat.not_lt_zero k)⟩, ⟨by rw [g37]; omega, fun i hi => ?_⟩, ⟨g30, hz 191 (by omega) (by omega), hz 192 (by omega) (by omega)⟩, ⟨g34, hz 193 (by omega) (by omega), hz 194 (by omega) (by omega), 0, by omega, g33, fun k hk => absurd hk (Nat.not_lt_zero k)⟩⟩
  · funext p
    show iand (τ 178 p) 255 = 0
    rw [hz 178 (by omega) (by omega)]
    exact ei
  · rw [hz 198 (by omega) (by omega), hz 197 (by omega) (by omega), g37]
    exact ⟨by unfold zf; omega, ⟨fun z => (by cases z), fun z => absurd rfl z.1⟩, fun z => (by cases z)⟩
theorem pi_0 : PI 0 S00 := by
  refine ⟨by show (1 : Int) ≤ 3 ∧ (3 : Int) ≤ 6; omega, ⟨by show 0 ≤ 80; omega, fun k _ _ => by show (0 : Int) ≤ 0 ∧ (0 : Int) < 256; omega⟩, ⟨by show 0 ≤ 12; omega, fun k a b => absurd b (by show ¬ k < ((0 : Nat) : Int); omega)⟩, ⟨by show 0 ≤ 12; omega, fun k a b => absurd b (by show ¬ k < ((0 : Nat) : Int); omega)⟩, by show (0 : Int) ≤ _; omega, 0, by show (0 : Int) ≤ 0; omega, fun k hk => absurd hk (Nat.not_lt_zero k), fun i hi => (by cases hi), by show (0 : Int) + ((0 : Nat) : Int) ≤ _; omega⟩
theorem inv_0 {σ σ' : Mem} (h1 : RsF (up (cM14 (zr σ 0 (nf 8))) 0 14 3) σ' 167) (h2 : RuleIs cTau σ' 167 (fun E => evE E plE)) : Inv 0 mTau (zr (fZM (zr σ' 175 (nf 9)) 175) 199 zf) := by
  have e : fZM (zr σ' 175 (nf 9)) 175 = _ := fZM_eq (σ := σ') (a := 175)
  rw [e]
  refine ⟨S00, cr_0 h1 h2 (fun o a b => ?_), mr_0 (fun o a b => ?_) (fun j => ?_), pi_0⟩
  · funext i
    unfold zr mz
    rw [if_neg (by omega), if_neg (by omega), if_neg (by omega)]
  · funext i
    unfold zr mz
    rw [if_neg (by omega), if_pos (by omega)]
    rfl
  · unfold zr mz
    rw [if_neg (by omega), if_neg (by omega), if_pos (show (175 : Int) = ((175 : Nat) : Int) from rfl)]
    rfl
/-! the law's body up to its loop -/
theorem df8 : ∀ j, j < 17 → (parseFieldDescriptor (TX8 j).2.2.1).map defaultValue = some (vp_V ((fkL.getD 8 []).map dfv) j) := by decide +kernel
theorem df9 : ∀ j, j < 41 → (parseFieldDescriptor (TX9 j).2.2.1).map defaultValue = some (vp_V ((fkL.getD 9 []).map dfv) j) := by decide +kernel
theorem cT_len : cTau.length = 175 := by decide +kernel
theorem l_pre {l : Launch} {g : GE} {d : Nat} {σ : Mem} {Q : KT} (hB : gB g = true) (k : ∀ σ', Inv 0 mTau σ' → Wx l g 292 (d + 104) 600000 7000000 23 (lwL 0) [] mTau σ' Q) : Wx l g 292 (d + 104) 600200 7004653 0 [(0, vR (-5))] [] [] σ Q := by
  refine wx_newX (d := d + 103) (idx := 8) (idx2 := 19) (ci := 8) (ei := 84) (nc := 174) (ns := 1955) (kind := 4) (q := (RX8, TX8, 17)) rfl df8 (by decide +kernel) hB (by omega) (by show 17 + 1955 ≤ 7004653; omega) (by decide +kernel) (by decide +kernel) (by decide +kernel) (Or.inl rfl) ca_12_19 (by decide) ?_
  refine n_C (d := d + 97) hB (fun σ' h1 h2 => ?_)
  show Wx l g 292 (d + 104) (600200 - 1 - 174) (7004653 - 17 - 1955) 7 [(0, vR (-5))] [vR 0] cTau σ' Q
  refine wx_astore_n (i := 1) (by decide) (by decide +kernel) ?_
  show Wx l g 292 (d + 104) 600025 7002681 8 [(0, vR (-5)), (1, vR 0)] [] cTau σ' Q
  refine wx_newX (d := d + 103) (idx := 20) (idx2 := 22) (ci := 9) (ei := 165) (nc := 23) (ns := 2639) (kind := 4) (q := (RX9, TX9, 41)) rfl df9 (by decide +kernel) hB (by omega) (by show 41 + 2639 ≤ 7002681; omega) (by decide +kernel) (by decide +kernel) (by decide +kernel) (Or.inl rfl) ca_12_22 (by decide) ?_
  refine n_M (d := d + 102) hB ?_
  rw [cT_len]
  show Wx l g 292 (d + 104) (600025 - 1 - 23) (7002681 - 41 - 2639) 15 [(0, vR (-5)), (1, vR 0)] [vR 175] (cTau ++ fSM 175) (fZM (zr σ' 175 (nf 9)) 175) Q
  refine wx_astore_n (i := 2) (by decide) (by decide +kernel) ?_
  refine wx_iconst (n := 1) (by unfold b32; omega) (by decide +kernel) ?_
  refine wx_newa (atype := .long) (ty := 1) (n := 1) rfl (by decide) (inA (by decide +kernel)) hB (by omega) (by omega) (by omega) (by decide +kernel) ?_
  have e1 : (cTau ++ fSM 175).length = 199 := by rw [List.length_append, cT_len]; rfl
  rw [e1]
  refine wx_astore_n (i := 3) (by decide) (by decide +kernel) ?_
  refine wx_iconst (n := 0) (by unfold b32; omega) (by decide +kernel) ?_
  refine wx_istore (i := 4) (by decide) (by decide +kernel) ?_
  exact k _ (inv_0 h1 h2)
