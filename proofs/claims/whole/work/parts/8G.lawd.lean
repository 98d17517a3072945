/-! the law: where its cases stand -/
theorem dk_0 : dC1 252 23 27 = true := by decide +kernel
theorem dk_1 : dC1 277 28 32 = true := by decide +kernel
theorem dk_2 : dC0 302 33 37 = true := by decide +kernel
theorem dk_3 : dC0 315 38 41 = true := by decide +kernel
theorem dk_5 : dC2 396 51 54 = true := by decide +kernel
theorem dk_6 : dC1 433 55 58 = true := by decide +kernel
theorem dk_7 : dC4 458 59 63 = true := by decide +kernel
theorem dk_8 : dC2 519 64 67 = true := by decide +kernel
theorem dk_9 : dC1 556 68 71 = true := by decide +kernel
theorem dk_10 : dC3 581 72 76 = true := by decide +kernel
theorem dk_11 : dC2 630 77 80 = true := by decide +kernel
theorem dk_12 : dC0 667 81 84 = true := by decide +kernel
theorem dk_13 : dC0 680 85 88 = true := by decide +kernel
theorem dk_14 : dC1 693 89 92 = true := by decide +kernel
theorem dk_15 : dC1 718 93 96 = true := by decide +kernel
theorem dk_16 : dC2 743 97 100 = true := by decide +kernel
theorem dk_17 : dC1 780 101 104 = true := by decide +kernel
theorem dk_18 : dC0 805 105 108 = true := by decide +kernel
theorem dk_19 : dC0 818 109 112 = true := by decide +kernel
theorem dk_20 : dC1 831 113 116 = true := by decide +kernel
theorem dk_21 : dC1 856 117 120 = true := by decide +kernel
theorem dk_22 : dC3 881 121 124 = true := by decide +kernel
theorem dk_23 : dC1 930 125 128 = true := by decide +kernel
theorem dk_24 : dC2 955 129 132 = true := by decide +kernel
theorem dk_25 : dC2 992 133 136 = true := by decide +kernel
theorem dk_26 : dC2 1029 137 140 = true := by decide +kernel
theorem dk_27 : dC0 1066 141 144 = true := by decide +kernel
theorem dk_28 : dC1 1079 145 148 = true := by decide +kernel
theorem dk_29 : dC1 1104 149 152 = true := by decide +kernel
theorem dk_30 : dC0 1129 153 156 = true := by decide +kernel
theorem dk_31 : dC1 1142 157 160 = true := by decide +kernel
theorem dk_32 : dC2 1167 161 164 = true := by decide +kernel
theorem dk_33 : dC2 1204 165 168 = true := by decide +kernel
theorem dk_34 : dC0 1241 169 172 = true := by decide +kernel
theorem dk_35 : dC0 1254 173 176 = true := by decide +kernel
theorem dk_36 : dC0 1267 177 180 = true := by decide +kernel
theorem dk_37 : dC3 1280 181 184 = true := by decide +kernel
theorem dk_38 : dC0 1329 185 188 = true := by decide +kernel
theorem dk_39 : dC0 1342 189 192 = true := by decide +kernel
theorem dk_40 : dC0 1355 193 196 = true := by decide +kernel
theorem dk_41 : dC2 1368 197 200 = true := by decide +kernel
theorem dk_42 : dC3 1405 201 204 = true := by decide +kernel
theorem dk_43 : dC1 1454 205 208 = true := by decide +kernel
theorem dk_44 : dC0 1479 209 212 = true := by decide +kernel
theorem dk_45 : dC2 1492 213 216 = true := by decide +kernel
theorem dk_46 : dC1 1529 217 220 = true := by decide +kernel
theorem dk_47 : dC1 1554 221 224 = true := by decide +kernel
theorem dk_48 : dC1 1579 225 228 = true := by decide +kernel
def lwT : List Nat := [252, 277, 302, 315, 328, 396, 433, 458, 519, 556, 581, 630, 667, 680, 693, 718, 743, 780, 805, 818, 831, 856, 881, 930, 955, 992, 1029, 1066, 1079, 1104, 1129, 1142, 1167, 1204, 1241, 1254, 1267, 1280, 1329, 1342, 1355, 1368, 1405, 1454, 1479, 1492, 1529, 1554, 1579, 1604]
def lsO : Array Int := #[213, 238, 263, 276, 289, 357, 394, 419, 480, 517, 542, 591, 628, 641, 654, 679, 704, 741, 766, 779, 792, 817, 842, 891, 916, 953, 990, 1027, 1040, 1065, 1090, 1103, 1128, 1165, 1202, 1215, 1228, 1241, 1290, 1303, 1316, 1329, 1366, 1415, 1440, 1453, 1490, 1515, 1540, 1565]
theorem lsO_d : decode (mC 292) 39 = .ok (.tableswitch 1620 0 49 lsO, 213) := by decide +kernel
theorem lsO_t : ∀ m : Fin 50, lsO[m.val]? = some ((lwT.getD m.val 0 : Int) - 39) := by decide +kernel
