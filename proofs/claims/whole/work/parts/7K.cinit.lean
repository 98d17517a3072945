/-! StruckColours' constructor -/
theorem df7 : ∀ j, j < 2 → (parseFieldDescriptor (TX7 j).2.2.1).map defaultValue = some (vp_V ((fkL.getD 7 []).map dfv) j) := by decide +kernel
theorem df3 : ∀ j, j < 2 → (parseFieldDescriptor (TX3 j).2.2.1).map defaultValue = some (vp_V ((fkL.getD 3 []).map dfv) j) := by decide +kernel
theorem df2 : ∀ j, j < 3 → (parseFieldDescriptor (TX2 j).2.2.1).map defaultValue = some (vp_V ((fkL.getD 2 []).map dfv) j) := by decide +kernel
theorem df6 : ∀ j, j < 6 → (parseFieldDescriptor (TX6 j).2.2.1).map defaultValue = some (vp_V ((fkL.getD 6 []).map dfv) j) := by decide +kernel
theorem df1 : ∀ j, j < 4 → (parseFieldDescriptor (TX1 j).2.2.1).map defaultValue = some (vp_V ((fkL.getD 1 []).map dfv) j) := by decide +kernel
theorem df0 : ∀ j, j < 2 → (parseFieldDescriptor (TX0 j).2.2.1).map defaultValue = some (vp_V ((fkL.getD 0 []).map dfv) j) := by decide +kernel
theorem df4 : ∀ j, j < 9 → (parseFieldDescriptor (TX4 j).2.2.1).map defaultValue = some (vp_V ((fkL.getD 4 []).map dfv) j) := by decide +kernel
section NEW
variable {l : Launch} {g : GE} {d kc ks pc : Nat} {ls : List (Nat × TV)} {st : List TV} {σ : Mem} {Q : Post}
/-- a final field of the class gets its new object -/
theorem r_cf {idx idx2 idxf ci ei nc ns kind k : Nat} {q : vw_C} {fin : Nat → Int} {L S : Tau} {Z : Mem} {nm : String} (hq : vwCl[ci]? = some q) (hdf : ∀ j, j < q.2.2 → (parseFieldDescriptor (q.2.1 j).2.2.1).map defaultValue = some (vp_V ((fkL.getD ci []).map dfv) j)) (hw : inALL [Cond.classLink (mN 84).cls idx q.1, Cond.instantiable q.1 q.2.2, Cond.initialized q.1] = true) (hB : gB g = true) (hkc : 1 + nc ≤ kc) (hks : q.2.2 + ns ≤ ks) (hd : decode (mC 84) pc = .ok (.new idx, 3)) (hd1 : decode (mC 84) (pc + 3) = .ok (.dup, 1)) (hd2 : decode (mC 84) (pc + 4) = .ok (.invokespecial idx2, 3)) (hkd : kind = 4 ∨ kind = 5) (hk : callOk kind (mN 84).cls idx2 ei 0 = true)
    (hN : ∀ Q', Q' none ((.inl (8, fin) :: L) ++ S) Z → WPc l g ei d nc ns [vR ((Sum.inl (8, fin) :: L : Tau).length)] ((.inl (8, fin) :: L) ++ [.inl (ci, fun _ => -1)]) (zr σ ((Sum.inl (8, fin) :: L : Tau).length) (nf ci)) Q')
    (hkf : k < 17) (hf3 : (fkL.getD 8 [])[k]? = some 3) (hl : Cond.fieldLink (mN 84).cls idxf (TX8 k).1 (TX8 k).2.1 (TX8 k).2.2.1 ∈ ALL) (hfin : (TX8 k).2.2.2 = true) (hdecl : (TX8 k).1 = (mN 84).cls) (hpd : parseFieldDescriptor (TX8 k).2.2.1 = some (.object nm)) (hd3 : decode (mC 84) (pc + 7) = .ok (.putfield idxf, 3))
    (kk : Wp l g 84 (d + 1) (kc - 1 - nc) (ks - q.2.2 - ns) (pc + 10) ls [] (.inl (8, fset fin k ((L.length + 1 : Nat) : Int)) :: (L ++ S)) Z Q) : Wp l g 84 (d + 1) kc ks pc ls [vR 0] (.inl (8, fin) :: L) σ Q := by
  refine r_newX hq hdf hw hB hkc hks hd hd1 hd2 hkd hk (by show 1 + 1 ≤ 8; omega) ?_
  refine hN _ ?_
  refine r_putF (x := 0) (ci := 8) (k := k) (q := (RX8, TX8, 17)) (fin := fin) (Int.le_refl _) rfl rfl hkf hf3 rfl hl hfin (by decide +kernel) hdecl hpd (Or.inl ⟨_, rfl⟩) hd3 ?_
  exact kk
end NEW
def cFin (k : Nat) : Nat → Int := fun j => if j < k then [1, 3, 5, 12, 19, 26, 112, 119, 126, 157, 161, 165].getD j 0 else -1
def cL1 : Tau := [] ++ fSText 1
def cM1 (σ : Mem) : Mem := zs (σ) 1 2
def cL2 : Tau := cL1 ++ fSRow 3
def cM2 (σ : Mem) : Mem := zs (cM1 σ) 3 2
def cL3 : Tau := cL2 ++ fSSea 5
def cM3 (σ : Mem) : Mem := zs (cM2 σ) 5 7
def cL4 : Tau := cL3 ++ fSSea 12
def cM4 (σ : Mem) : Mem := zs (cM3 σ) 12 7
def cL5 : Tau := cL4 ++ fSSea 19
def cM5 (σ : Mem) : Mem := zs (cM4 σ) 19 7
def cL6 : Tau := cL5 ++ fSPast 26 12
def cM6 (σ : Mem) : Mem := pz (zr (cM5 σ) 26 (nf 2)) 27 28 12
def cL7 : Tau := cL6 ++ fSSea 112
def cM7 (σ : Mem) : Mem := zs (cM6 σ) 112 7
def cL8 : Tau := cL7 ++ fSSea 119
def cM8 (σ : Mem) : Mem := zs (cM7 σ) 119 7
def cL9 : Tau := cL8 ++ fSSrch 126 4
def cM9 (σ : Mem) : Mem := pz (zr (zr (cM8 σ) 126 (nf 6)) 128 (fun _ => 0)) 127 129 4
def cL10 : Tau := cL9 ++ fSNotes 157
def cM10 (σ : Mem) : Mem := zs (cM9 σ) 157 4
def cL11 : Tau := cL10 ++ fSNotes 161
def cM11 (σ : Mem) : Mem := zs (cM10 σ) 161 4
def cL12 : Tau := cL11 ++ fSLaws 165
def cM12 (σ : Mem) : Mem := zs (cM11 σ) 165 2
def cL13 : Tau := cL12 ++ fSRule 167
def cM13 (σ : Mem) : Mem := up (zs (cM12 σ) 167 4) 0 12 167
def cL14 : Tau := cL13 ++ fSRule 171
def cM14 (σ : Mem) : Mem := up (zs (cM13 σ) 171 4) 0 13 171
theorem fset_c {k : Nat} {v : Int} (h : v = [1, 3, 5, 12, 19, 26, 112, 119, 126, 157, 161, 165].getD k 0) : fset (cFin k) k v = cFin (k + 1) := by
  funext j
  unfold fset cFin
  by_cases h1 : j = k
  · subst h1
    rw [if_pos rfl, if_pos (by omega), h]
  · rw [if_neg h1]
    by_cases h2 : j < k
    · rw [if_pos h2, if_pos (by omega)]
    · rw [if_neg h2, if_neg (by omega)]
theorem s_C1 {l : Launch} {g : GE} {d : Nat} {σ : Mem} {Q : Post} (hB : gB g = true) (h : Wp l g 84 (d + 3) 172 1873 15 [(0, vR 0)] [] (.inl (8, cFin 1) :: cL1) (cM1 σ) Q) : Wp l g 84 (d + 3) 174 1955 4 [(0, vR 0)] [] (.inl (8, cFin 0) :: []) σ Q := by
  refine r_aload_n (i := 0) rfl (by decide +kernel) ?_
  refine r_cf (idx := 7) (idxf := 10) (ci := 7) (k := 0) (nc := 1) (ns := 80) (q := (RX7, TX7, 2)) (Z := cM1 σ) rfl df7 (by decide +kernel) hB (by decide) (by show 2 + 80 ≤ _; decide) (by decide +kernel) (by decide +kernel) (by decide +kernel) (Or.inr rfl) ca_8_9 (fun Q' z => n_Text hB (by rw [zs_Text]; exact z)) (by decide) rfl (inA (by decide +kernel)) (by decide +kernel) (by decide +kernel) (nm := RX7) (by decide +kernel) (by decide +kernel) ?_
  rw [fset_c (by rfl)]
  exact h
theorem s_C2 {l : Launch} {g : GE} {d : Nat} {σ : Mem} {Q : Post} (hB : gB g = true) (h : Wp l g 84 (d + 3) 170 1863 26 [(0, vR 0)] [] (.inl (8, cFin 2) :: cL2) (cM2 σ) Q) : Wp l g 84 (d + 3) 172 1873 15 [(0, vR 0)] [] (.inl (8, cFin 1) :: cL1) (cM1 σ) Q := by
  refine r_aload_n (i := 0) rfl (by decide +kernel) ?_
  refine r_cf (idx := 16) (idxf := 19) (ci := 3) (k := 1) (nc := 1) (ns := 8) (q := (RX3, TX3, 2)) (Z := cM2 σ) rfl df3 (by decide +kernel) hB (by decide) (by show 2 + 8 ≤ _; decide) (by decide +kernel) (by decide +kernel) (by decide +kernel) (Or.inr rfl) ca_8_18 (fun Q' z => n_Row hB (by rw [zs_Row]; exact z)) (by decide) rfl (inA (by decide +kernel)) (by decide +kernel) (by decide +kernel) (nm := RX3) (by decide +kernel) (by decide +kernel) ?_
  rw [fset_c (by rfl)]
  exact h
theorem s_C3 {l : Launch} {g : GE} {d : Nat} {σ : Mem} {Q : Post} (hB : gB g = true) (h : Wp l g 84 (d + 3) 163 1800 37 [(0, vR 0)] [] (.inl (8, cFin 3) :: cL3) (cM3 σ) Q) : Wp l g 84 (d + 3) 170 1863 26 [(0, vR 0)] [] (.inl (8, cFin 2) :: cL2) (cM2 σ) Q := by
  refine r_aload_n (i := 0) rfl (by decide +kernel) ?_
  refine r_cf (idx := 23) (idxf := 26) (ci := 5) (k := 2) (nc := 6) (ns := 54) (q := (RX5, TX5, 9)) (Z := cM3 σ) rfl df5 (by decide +kernel) hB (by decide) (by show 9 + 54 ≤ _; decide) (by decide +kernel) (by decide +kernel) (by decide +kernel) (Or.inr rfl) ca_8_25 (fun Q' z => n_Sea hB (by rw [zs_Sea]; exact z)) (by decide) rfl (inA (by decide +kernel)) (by decide +kernel) (by decide +kernel) (nm := RX5) (by decide +kernel) (by decide +kernel) ?_
  rw [fset_c (by rfl)]
  exact h
theorem s_C4 {l : Launch} {g : GE} {d : Nat} {σ : Mem} {Q : Post} (hB : gB g = true) (h : Wp l g 84 (d + 3) 156 1737 48 [(0, vR 0)] [] (.inl (8, cFin 4) :: cL4) (cM4 σ) Q) : Wp l g 84 (d + 3) 163 1800 37 [(0, vR 0)] [] (.inl (8, cFin 3) :: cL3) (cM3 σ) Q := by
  refine r_aload_n (i := 0) rfl (by decide +kernel) ?_
  refine r_cf (idx := 23) (idxf := 30) (ci := 5) (k := 3) (nc := 6) (ns := 54) (q := (RX5, TX5, 9)) (Z := cM4 σ) rfl df5 (by decide +kernel) hB (by decide) (by show 9 + 54 ≤ _; decide) (by decide +kernel) (by decide +kernel) (by decide +kernel) (Or.inr rfl) ca_8_25 (fun Q' z => n_Sea hB (by rw [zs_Sea]; exact z)) (by decide) rfl (inA (by decide +kernel)) (by decide +kernel) (by decide +kernel) (nm := RX5) (by decide +kernel) (by decide +kernel) ?_
  rw [fset_c (by rfl)]
  exact h
theorem s_C5 {l : Launch} {g : GE} {d : Nat} {σ : Mem} {Q : Post} (hB : gB g = true) (h : Wp l g 84 (d + 3) 149 1674 59 [(0, vR 0)] [] (.inl (8, cFin 5) :: cL5) (cM5 σ) Q) : Wp l g 84 (d + 3) 156 1737 48 [(0, vR 0)] [] (.inl (8, cFin 4) :: cL4) (cM4 σ) Q := by
  refine r_aload_n (i := 0) rfl (by decide +kernel) ?_
  refine r_cf (idx := 23) (idxf := 33) (ci := 5) (k := 4) (nc := 6) (ns := 54) (q := (RX5, TX5, 9)) (Z := cM5 σ) rfl df5 (by decide +kernel) hB (by decide) (by show 9 + 54 ≤ _; decide) (by decide +kernel) (by decide +kernel) (by decide +kernel) (Or.inr rfl) ca_8_25 (fun Q' z => n_Sea hB (by rw [zs_Sea]; exact z)) (by decide) rfl (inA (by decide +kernel)) (by decide +kernel) (by decide +kernel) (nm := RX5) (by decide +kernel) (by decide +kernel) ?_
  rw [fset_c (by rfl)]
  exact h
theorem s_C6 {l : Launch} {g : GE} {d : Nat} {σ : Mem} {Q : Post} (hB : gB g = true) (h : Wp l g 84 (d + 3) 63 903 70 [(0, vR 0)] [] (.inl (8, cFin 6) :: cL6) (cM6 σ) Q) : Wp l g 84 (d + 3) 149 1674 59 [(0, vR 0)] [] (.inl (8, cFin 5) :: cL5) (cM5 σ) Q := by
  refine r_aload_n (i := 0) rfl (by decide +kernel) ?_
  refine r_cf (idx := 36) (idxf := 39) (ci := 2) (k := 5) (nc := 85) (ns := 768) (q := (RX2, TX2, 3)) (Z := cM6 σ) rfl df2 (by decide +kernel) hB (by decide) (by show 3 + 768 ≤ _; decide) (by decide +kernel) (by decide +kernel) (by decide +kernel) (Or.inr rfl) ca_8_38 (fun Q' z => n_Past hB z) (by decide) rfl (inA (by decide +kernel)) (by decide +kernel) (by decide +kernel) (nm := RX2) (by decide +kernel) (by decide +kernel) ?_
  rw [fset_c (by rfl)]
  exact h
theorem s_C7 {l : Launch} {g : GE} {d : Nat} {σ : Mem} {Q : Post} (hB : gB g = true) (h : Wp l g 84 (d + 3) 56 840 81 [(0, vR 0)] [] (.inl (8, cFin 7) :: cL7) (cM7 σ) Q) : Wp l g 84 (d + 3) 63 903 70 [(0, vR 0)] [] (.inl (8, cFin 6) :: cL6) (cM6 σ) Q := by
  refine r_aload_n (i := 0) rfl (by decide +kernel) ?_
  refine r_cf (idx := 23) (idxf := 43) (ci := 5) (k := 6) (nc := 6) (ns := 54) (q := (RX5, TX5, 9)) (Z := cM7 σ) rfl df5 (by decide +kernel) hB (by decide) (by show 9 + 54 ≤ _; decide) (by decide +kernel) (by decide +kernel) (by decide +kernel) (Or.inr rfl) ca_8_25 (fun Q' z => n_Sea hB (by rw [zs_Sea]; exact z)) (by decide) rfl (inA (by decide +kernel)) (by decide +kernel) (by decide +kernel) (nm := RX5) (by decide +kernel) (by decide +kernel) ?_
  rw [fset_c (by rfl)]
  exact h
theorem s_C8 {l : Launch} {g : GE} {d : Nat} {σ : Mem} {Q : Post} (hB : gB g = true) (h : Wp l g 84 (d + 3) 49 777 92 [(0, vR 0)] [] (.inl (8, cFin 8) :: cL8) (cM8 σ) Q) : Wp l g 84 (d + 3) 56 840 81 [(0, vR 0)] [] (.inl (8, cFin 7) :: cL7) (cM7 σ) Q := by
  refine r_aload_n (i := 0) rfl (by decide +kernel) ?_
  refine r_cf (idx := 23) (idxf := 46) (ci := 5) (k := 7) (nc := 6) (ns := 54) (q := (RX5, TX5, 9)) (Z := cM8 σ) rfl df5 (by decide +kernel) hB (by decide) (by show 9 + 54 ≤ _; decide) (by decide +kernel) (by decide +kernel) (by decide +kernel) (Or.inr rfl) ca_8_25 (fun Q' z => n_Sea hB (by rw [zs_Sea]; exact z)) (by decide) rfl (inA (by decide +kernel)) (by decide +kernel) (by decide +kernel) (nm := RX5) (by decide +kernel) (by decide +kernel) ?_
  rw [fset_c (by rfl)]
  exact h
theorem s_C9 {l : Launch} {g : GE} {d : Nat} {σ : Mem} {Q : Post} (hB : gB g = true) (h : Wp l g 84 (d + 3) 18 509 103 [(0, vR 0)] [] (.inl (8, cFin 9) :: cL9) (cM9 σ) Q) : Wp l g 84 (d + 3) 49 777 92 [(0, vR 0)] [] (.inl (8, cFin 8) :: cL8) (cM8 σ) Q := by
  refine r_aload_n (i := 0) rfl (by decide +kernel) ?_
  refine r_cf (idx := 49) (idxf := 52) (ci := 6) (k := 8) (nc := 30) (ns := 262) (q := (RX6, TX6, 6)) (Z := cM9 σ) rfl df6 (by decide +kernel) hB (by decide) (by show 6 + 262 ≤ _; decide) (by decide +kernel) (by decide +kernel) (by decide +kernel) (Or.inr rfl) ca_8_51 (fun Q' z => n_Srch hB z) (by decide) rfl (inA (by decide +kernel)) (by decide +kernel) (by decide +kernel) (nm := RX6) (by decide +kernel) (by decide +kernel) ?_
  rw [fset_c (by rfl)]
  exact h
theorem s_C10 {l : Launch} {g : GE} {d : Nat} {σ : Mem} {Q : Post} (hB : gB g = true) (h : Wp l g 84 (d + 3) 14 469 114 [(0, vR 0)] [] (.inl (8, cFin 10) :: cL10) (cM10 σ) Q) : Wp l g 84 (d + 3) 18 509 103 [(0, vR 0)] [] (.inl (8, cFin 9) :: cL9) (cM9 σ) Q := by
  refine r_aload_n (i := 0) rfl (by decide +kernel) ?_
  refine r_cf (idx := 56) (idxf := 59) (ci := 1) (k := 9) (nc := 3) (ns := 36) (q := (RX1, TX1, 4)) (Z := cM10 σ) rfl df1 (by decide +kernel) hB (by decide) (by show 4 + 36 ≤ _; decide) (by decide +kernel) (by decide +kernel) (by decide +kernel) (Or.inr rfl) ca_8_58 (fun Q' z => n_Notes hB (by rw [zs_Notes]; exact z)) (by decide) rfl (inA (by decide +kernel)) (by decide +kernel) (by decide +kernel) (nm := RX1) (by decide +kernel) (by decide +kernel) ?_
  rw [fset_c (by rfl)]
  exact h
theorem s_C11 {l : Launch} {g : GE} {d : Nat} {σ : Mem} {Q : Post} (hB : gB g = true) (h : Wp l g 84 (d + 3) 10 429 125 [(0, vR 0)] [] (.inl (8, cFin 11) :: cL11) (cM11 σ) Q) : Wp l g 84 (d + 3) 14 469 114 [(0, vR 0)] [] (.inl (8, cFin 10) :: cL10) (cM10 σ) Q := by
  refine r_aload_n (i := 0) rfl (by decide +kernel) ?_
  refine r_cf (idx := 56) (idxf := 63) (ci := 1) (k := 10) (nc := 3) (ns := 36) (q := (RX1, TX1, 4)) (Z := cM11 σ) rfl df1 (by decide +kernel) hB (by decide) (by show 4 + 36 ≤ _; decide) (by decide +kernel) (by decide +kernel) (by decide +kernel) (Or.inr rfl) ca_8_58 (fun Q' z => n_Notes hB (by rw [zs_Notes]; exact z)) (by decide) rfl (inA (by decide +kernel)) (by decide +kernel) (by decide +kernel) (nm := RX1) (by decide +kernel) (by decide +kernel) ?_
  rw [fset_c (by rfl)]
  exact h
theorem s_C12 {l : Launch} {g : GE} {d : Nat} {σ : Mem} {Q : Post} (hB : gB g = true) (h : Wp l g 84 (d + 3) 8 258 136 [(0, vR 0)] [] (.inl (8, cFin 12) :: cL12) (cM12 σ) Q) : Wp l g 84 (d + 3) 10 429 125 [(0, vR 0)] [] (.inl (8, cFin 11) :: cL11) (cM11 σ) Q := by
  refine r_aload_n (i := 0) rfl (by decide +kernel) ?_
  refine r_cf (idx := 66) (idxf := 69) (ci := 0) (k := 11) (nc := 1) (ns := 169) (q := (RX0, TX0, 2)) (Z := cM12 σ) rfl df0 (by decide +kernel) hB (by decide) (by show 2 + 169 ≤ _; decide) (by decide +kernel) (by decide +kernel) (by decide +kernel) (Or.inr rfl) ca_8_68 (fun Q' z => n_Laws hB (by rw [zs_Laws]; exact z)) (by decide) rfl (inA (by decide +kernel)) (by decide +kernel) (by decide +kernel) (nm := RX0) (by decide +kernel) (by decide +kernel) ?_
  rw [fset_c (by rfl)]
  exact h
theorem s_C13 {l : Launch} {g : GE} {d : Nat} {σ : Mem} {Q : Post} (hB : gB g = true) (h : Wp l g 84 (d + 3) 4 129 147 [(0, vR 0)] [] (.inl (8, cFin 12) :: cL13) (cM13 σ) Q) : Wp l g 84 (d + 3) 8 258 136 [(0, vR 0)] [] (.inl (8, cFin 12) :: cL12) (cM12 σ) Q := by
  refine r_aload_n (i := 0) rfl (by decide +kernel) ?_
  refine r_newX (idx := 73) (ci := 4) (nc := 3) (ns := 120) (q := (RX4, TX4, 9)) rfl df4 (by decide +kernel) hB (by decide) (by show 9 + 120 ≤ _; decide) (by decide +kernel) (by decide +kernel) (by decide +kernel) (Or.inr rfl) ca_8_75 (by decide) ?_
  refine n_Rule hB ?_
  rw [zs_Rule]
  refine r_put (ci := 8) (k := 12) (kd := 2) ⟨Int.le_refl _, _, rfl⟩ ?_ (by decide +kernel) fl_8_76 (by decide +kernel) ?_
  · simp [putOk]
  · exact h
theorem s_C14 {l : Launch} {g : GE} {d : Nat} {σ : Mem} {Q : Post} (hB : gB g = true) (h : Wp l g 84 (d + 3) 0 0 158 [(0, vR 0)] [] (.inl (8, cFin 12) :: cL14) (cM14 σ) Q) : Wp l g 84 (d + 3) 4 129 147 [(0, vR 0)] [] (.inl (8, cFin 12) :: cL13) (cM13 σ) Q := by
  refine r_aload_n (i := 0) rfl (by decide +kernel) ?_
  refine r_newX (idx := 73) (ci := 4) (nc := 3) (ns := 120) (q := (RX4, TX4, 9)) rfl df4 (by decide +kernel) hB (by decide) (by show 9 + 120 ≤ _; decide) (by decide +kernel) (by decide +kernel) (by decide +kernel) (Or.inr rfl) ca_8_75 (by decide) ?_
  refine n_Rule hB ?_
  rw [zs_Rule]
  refine r_put (ci := 8) (k := 13) (kd := 2) ⟨Int.le_refl _, _, rfl⟩ ?_ (by decide +kernel) fl_8_80 (by decide +kernel) ?_
  · simp [putOk]
  · exact h
