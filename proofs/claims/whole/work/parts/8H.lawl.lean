/-! the law's loop -/
section LWL
variable {l : Launch} {g : GE} {d kc ks c : Nat} {t : Tau} {σ : Mem} {Q : Post} {i : Int}
theorem l_head (hB : gB g = false) (hL : gL g ≤ 2560) (hi : 0 ≤ i ∧ i < 3000) (hQ : Q (some (vI 1)) t σ) (k : i + 5 ≤ gL g → ∀ v, Wp l g 292 d kc ks 39 (lwL i) [vI v] t σ Q) : Wp l g 292 d kc ks 23 (lwL i) [] t σ Q := by
  refine r_iload (i := 4) rfl (by decide +kernel) ?_
  refine r_aload_n (i := 0) rfl (by decide +kernel) ?_
  refine r_slen (i := 5) (by omega) (by omega) (by decide +kernel) ?_
  refine r_iconst (n := 5) (by unfold b32; omega) (by decide +kernel) ?_
  refine r_isub (by decide +kernel) ?_
  rw [show (sLen g 5 : Nat) = gL g from rfl, w32_id (by omega) (by omega)]
  refine r_icmp_gt (st := []) (off := 1636) (tgt := 1665) (by decide +kernel) (by decide) (fun z => ?_) (fun z => ?_)
  · refine r_iconst (n := 1) (by unfold b32; omega) (by decide +kernel) ?_
    exact l_fin hB (Or.inr rfl) (by decide +kernel) hQ
  · refine r_aload_n (i := 0) rfl (by decide +kernel) ?_
    refine r_iload (i := 4) rfl (by decide +kernel) ?_
    refine r_sald (i := 5) (j := i) (by omega) (by omega) (by omega) (by show i < ((gL g : Nat) : Int); omega) (by decide +kernel) ?_
    refine r_bipush (n := 63) (v := 63) (by unfold b32; omega) (by decide +kernel) (by decide +kernel) ?_
    refine r_iand (by decide +kernel) ?_
    exact k (by omega) _
theorem l_sw {v : Int} (k : ∀ m : Nat, m < 50 → Wp l g 292 d kc ks (lwT.getD m 0) (lwL i) [] t σ Q) (k2 : Wp l g 292 d kc ks 1659 (lwL i) [] t σ Q) : Wp l g 292 d kc ks 39 (lwL i) [vI v] t σ Q := by
  by_cases hv : v < 0 ∨ 49 < v
  · exact r_tableOut (tgt := 1659) lsO_d hv (by decide) k2
  · obtain ⟨m, rfl⟩ := Int.eq_ofNat_of_zero_le (show 0 ≤ v by omega)
    have hm : m < 50 := by omega
    exact r_tableIn (off := (lwT.getD m 0 : Int) - 39) (tgt := lwT.getD m 0) lsO_d (by omega) (by omega) (by rw [show ((m : Int) - 0).toNat = m by omega]; exact lsO_t ⟨m, hm⟩) (by omega) (k m hm)
theorem l_next {n : Nat} (hi : 0 ≤ i ∧ i < 3000) (ih : Wp l g 292 d kc ks 23 (lwL (i + 5)) [] t σ Q) : Wp l g 292 d kc ks 1659 (lwL i) [] t σ Q := by
  refine r_iinc (i := 4) (n := 5) rfl (by decide) (by decide +kernel) ?_
  rw [w32_id (by omega) (by omega)]
  exact r_goto (off := -1639) (tgt := 23) (by decide +kernel) (by decide) ih
theorem l_loop (hB : gB g = false) (hl : l.stackTraces = false) (hL : gL g ≤ 2560) (hC : TC t) (hM : TM t) (ho : isT t 199 1 ∧ lenOf t 199 = 1) (hs : ∀ j, b32 (gX g j)) (hQ : ∀ σ', Q (some (vI 1)) t σ') : ∀ (n c kc ks : Nat) (σ : Mem), gL g ≤ 5 * (c + n) → 5 * c ≤ 2600 → n ≤ kc → 6 * n ≤ ks → Inv c t σ → Wp l g 292 (d + 104) kc ks 23 (lwL (5 * c : Nat)) [] t σ Q
  | 0, c, kc, ks, σ, h1, h2, _, _, _ => l_head hB hL (by omega) (hQ σ) (fun z => absurd z (by omega))
  | n + 1, c, kc, ks, σ, h1, h2, h3, h4, hI => by
    refine l_head hB hL (by omega) (hQ σ) (fun hz v => ?_)
    have hi : 0 ≤ ((5 * c : Nat) : Int) ∧ ((5 * c : Nat) : Int) + 5 ≤ gL g ∧ ((5 * c : Nat) : Int) < 3000 := by omega
    have hc : c ≤ 512 := by omega
    have nx : ∀ (kc' ks' : Nat) (σ2 : Mem), n ≤ kc' → 6 * n ≤ ks' → Inv (c + 1) t σ2 → Wp l g 292 (d + 104) kc' ks' 1659 (lwL (5 * c : Nat)) [] t σ2 Q := by
      intro kc' ks' σ2 a b q
      refine l_next (n := n) (by omega) ?_
      have := l_loop hB hl hL hC hM ho hs hQ n (c + 1) kc' ks' σ2 (by omega) (by omega) a b q
      rw [show (((5 * (c + 1) : Nat)) : Int) = ((5 * c : Nat) : Int) + 5 by omega] at this
      exact this
    have ny : ∀ σ2, Inv (c + 1) t σ2 → Wp l g 292 (d + 104) kc ks 1659 (lwL (5 * c : Nat)) [] t σ2 Q := fun σ2 q => nx kc ks σ2 (by omega) (by omega) q
    obtain ⟨S, h, hR, hP⟩ := id hI
    refine l_sw (fun m hm => ?_) (ny σ ⟨S, h, hR.fr (by omega) (fun o _ _ => rfl), hP.up⟩)
    match m, hm with
    | 0, _ => exact l_case1 (d := d + 103) (pc := 252) (eC := 85) (eM := 177) hC hM dk_0 rfl rfl ca_12_23 ca_12_27 hi (j_sign h hR hP) ny
    | 1, _ => exact l_case1 (d := d + 103) (pc := 277) (eC := 86) (eM := 178) hC hM dk_1 rfl rfl ca_12_28 ca_12_32 hi (j_end h hR hP) ny
    | 2, _ => exact l_case0 (d := d + 103) (pc := 302) (eC := 87) (eM := 189) hC hM dk_2 rfl rfl ca_12_33 ca_12_37 hi (j_ships hc h hR hP) ny
    | 3, _ => exact l_case0 (d := d + 103) (pc := 315) (eC := 88) (eM := 196) hC hM dk_3 rfl rfl ca_12_38 ca_12_41 hi (j_rule h hR hP) ny
    | 4, _ => exact l_ship4 hB hl ho hI (by omega) (by omega) hi (fun σ2 q => nx (kc - 1) (ks - 6) σ2 (by omega) (by omega) q)
    | 5, _ => exact l_case2 (d := d + 103) (pc := 396) (eC := 90) (eM := 199) hC hM dk_5 rfl rfl ca_12_51 ca_12_54 hi (j_force hc h hR hP) ny
    | 6, _ => exact l_case1 (d := d + 103) (pc := 433) (eC := 91) (eM := 200) hC hM dk_6 rfl rfl ca_12_55 ca_12_58 hi (j_take h hR hP) ny
    | 7, _ => exact l_case4 (d := d + 103) (pc := 458) (eC := 92) (eM := 202) hC hM dk_7 rfl rfl ca_12_59 ca_12_63 hi (j_sheet (hs _) h hR hP) ny
    | 8, _ => exact l_case2 (d := d + 103) (pc := 519) (eC := 93) (eM := 208) hC hM dk_8 rfl rfl ca_12_64 ca_12_67 hi (j_fight hc h hR hP) ny
    | 9, _ => exact l_case1 (d := d + 103) (pc := 556) (eC := 94) (eM := 213) hC hM dk_9 rfl rfl ca_12_68 ca_12_71 hi (j_days h hR hP) ny
    | 10, _ => exact l_case3 (d := d + 103) (pc := 581) (eC := 95) (eM := 216) hC hM dk_10 rfl rfl ca_12_72 ca_12_76 hi (j_sews hc h hR hP) ny
    | 11, _ => exact l_case2 (d := d + 103) (pc := 630) (eC := 96) (eM := 219) hC hM dk_11 rfl rfl ca_12_77 ca_12_80 hi (j_yields h hR hP) ny
    | 12, _ => exact l_case0 (d := d + 103) (pc := 667) (eC := 97) (eM := 220) hC hM dk_12 rfl rfl ca_12_81 ca_12_84 hi (j_war hc h hR hP) ny
    | 13, _ => exact l_case0 (d := d + 103) (pc := 680) (eC := 98) (eM := 223) hC hM dk_13 rfl rfl ca_12_85 ca_12_88 hi (j_undo h hR hP) ny
    | 14, _ => exact l_case1 (d := d + 103) (pc := 693) (eC := 99) (eM := 224) hC hM dk_14 rfl rfl ca_12_89 ca_12_92 hi (j_fleet h hR hP) ny
    | 15, _ => exact l_case1 (d := d + 103) (pc := 718) (eC := 100) (eM := 227) hC hM dk_15 rfl rfl ca_12_93 ca_12_96 hi (j_share h hR hP) ny
    | 16, _ => exact l_case2 (d := d + 103) (pc := 743) (eC := 101) (eM := 228) hC hM dk_16 rfl rfl ca_12_97 ca_12_100 hi (j_later h hR hP) ny
    | 17, _ => exact l_case1 (d := d + 103) (pc := 780) (eC := 102) (eM := 230) hC hM dk_17 rfl rfl ca_12_101 ca_12_104 hi (j_whole h hR hP) ny
    | 18, _ => exact l_case0 (d := d + 103) (pc := 805) (eC := 103) (eM := 231) hC hM dk_18 rfl rfl ca_12_105 ca_12_108 hi (j_sisters h hR hP) ny
    | 19, _ => exact l_case0 (d := d + 103) (pc := 818) (eC := 104) (eM := 232) hC hM dk_19 rfl rfl ca_12_109 ca_12_112 hi (j_motley h hR hP) ny
    | 20, _ => exact l_case1 (d := d + 103) (pc := 831) (eC := 105) (eM := 233) hC hM dk_20 rfl rfl ca_12_113 ca_12_116 hi (j_order h hR hP) ny
    | 21, _ => exact l_case1 (d := d + 103) (pc := 856) (eC := 106) (eM := 234) hC hM dk_21 rfl rfl ca_12_117 ca_12_120 hi (j_rivals hc h hR hP) ny
    | 22, _ => exact l_case3 (d := d + 103) (pc := 881) (eC := 107) (eM := 235) hC hM dk_22 rfl rfl ca_12_121 ca_12_124 hi (j_duel hc h hR hP) ny
    | 23, _ => exact l_case1 (d := d + 103) (pc := 930) (eC := 108) (eM := 236) hC hM dk_23 rfl rfl ca_12_125 ca_12_128 hi (j_tempts h hR hP) ny
    | 24, _ => exact l_case2 (d := d + 103) (pc := 955) (eC := 109) (eM := 237) hC hM dk_24 rfl rfl ca_12_129 ca_12_132 hi (j_wins hc h hR hP) ny
    | 25, _ => exact l_case2 (d := d + 103) (pc := 992) (eC := 110) (eM := 238) hC hM dk_25 rfl rfl ca_12_133 ca_12_136 hi (j_suits hc h hR hP) ny
    | 26, _ => exact l_case2 (d := d + 103) (pc := 1029) (eC := 111) (eM := 243) hC hM dk_26 rfl rfl ca_12_137 ca_12_140 hi (j_goesOver hc h hR hP) ny
    | 27, _ => exact l_case0 (d := d + 103) (pc := 1066) (eC := 112) (eM := 244) hC hM dk_27 rfl rfl ca_12_141 ca_12_144 hi (j_peace hc h hR hP) ny
    | 28, _ => exact l_case1 (d := d + 103) (pc := 1079) (eC := 113) (eM := 246) hC hM dk_28 rfl rfl ca_12_145 ca_12_148 hi (j_campaign hc h hR hP) ny
    | 29, _ => exact l_case1 (d := d + 103) (pc := 1104) (eC := 114) (eM := 247) hC hM dk_29 rfl rfl ca_12_149 ca_12_152 hi (j_halves h hR hP) ny
    | 30, _ => exact l_case0 (d := d + 103) (pc := 1129) (eC := 115) (eM := 249) hC hM dk_30 rfl rfl ca_12_153 ca_12_156 hi (j_evens h hR hP) ny
    | 31, _ => exact l_case1 (d := d + 103) (pc := 1142) (eC := 116) (eM := 251) hC hM dk_31 rfl rfl ca_12_157 ca_12_160 hi (j_worth h hR hP) ny
    | 32, _ => exact l_case2 (d := d + 103) (pc := 1167) (eC := 117) (eM := 252) hC hM dk_32 rfl rfl ca_12_161 ca_12_164 hi (j_patched h hR hP) ny
    | 33, _ => exact l_case2 (d := d + 103) (pc := 1204) (eC := 118) (eM := 253) hC hM dk_33 rfl rfl ca_12_165 ca_12_168 hi (j_seen h hR hP) ny
    | 34, _ => exact l_case0 (d := d + 103) (pc := 1241) (eC := 119) (eM := 254) hC hM dk_34 rfl rfl ca_12_169 ca_12_172 hi (j_forget h hR hP) ny
    | 35, _ => exact l_case0 (d := d + 103) (pc := 1254) (eC := 120) (eM := 257) hC hM dk_35 rfl rfl ca_12_173 ca_12_176 hi (j_fits h hR hP) ny
    | 36, _ => exact l_case0 (d := d + 103) (pc := 1267) (eC := 121) (eM := 258) hC hM dk_36 rfl rfl ca_12_177 ca_12_180 hi (j_looks h hR hP) ny
    | 37, _ => exact l_case3 (d := d + 103) (pc := 1280) (eC := 122) (eM := 259) hC hM dk_37 rfl rfl ca_12_181 ca_12_184 hi (j_told h hR hP) ny
    | 38, _ => exact l_case0 (d := d + 103) (pc := 1329) (eC := 123) (eM := 260) hC hM dk_38 rfl rfl ca_12_185 ca_12_188 hi (j_deny h hR hP) ny
    | 39, _ => exact l_case0 (d := d + 103) (pc := 1342) (eC := 124) (eM := 263) hC hM dk_39 rfl rfl ca_12_189 ca_12_192 hi (j_laws h hR hP) ny
    | 40, _ => exact l_case0 (d := d + 103) (pc := 1355) (eC := 125) (eM := 265) hC hM dk_40 rfl rfl ca_12_193 ca_12_196 hi (j_asks h hR hP) ny
    | 41, _ => exact l_case2 (d := d + 103) (pc := 1368) (eC := 126) (eM := 268) hC hM dk_41 rfl rfl ca_12_197 ca_12_200 hi (j_treaty h hR hP) ny
    | 42, _ => exact l_case3 (d := d + 103) (pc := 1405) (eC := 127) (eM := 270) hC hM dk_42 rfl rfl ca_12_201 ca_12_204 hi (j_series h hR hP) ny
    | 43, _ => exact l_case1 (d := d + 103) (pc := 1454) (eC := 128) (eM := 273) hC hM dk_43 rfl rfl ca_12_205 ca_12_208 hi (j_rests h hR hP) ny
    | 44, _ => exact l_case0 (d := d + 103) (pc := 1479) (eC := 129) (eM := 275) hC hM dk_44 rfl rfl ca_12_209 ca_12_212 hi (j_law h hR hP) ny
    | 45, _ => exact l_case2 (d := d + 103) (pc := 1492) (eC := 130) (eM := 277) hC hM dk_45 rfl rfl ca_12_213 ca_12_216 hi (j_years hc h hR hP) ny
    | 46, _ => exact l_case1 (d := d + 103) (pc := 1529) (eC := 131) (eM := 278) hC hM dk_46 rfl rfl ca_12_217 ca_12_220 hi (j_keep h hR hP) ny
    | 47, _ => exact l_case1 (d := d + 103) (pc := 1554) (eC := 132) (eM := 279) hC hM dk_47 rfl rfl ca_12_221 ca_12_224 hi (j_again h hR hP) ny
    | 48, _ => exact l_case1 (d := d + 103) (pc := 1579) (eC := 133) (eM := 282) hC hM dk_48 rfl rfl ca_12_225 ca_12_228 hi (j_count h hR hP) ny
    | 49, _ => exact l_row49 hB hl ho hI (by omega) (by omega) hi (fun σ2 q => nx (kc - 1) (ks - 6) σ2 (by omega) (by omega) q)
    | (m + 50), z => exact absurd z (by omega)
end LWL
