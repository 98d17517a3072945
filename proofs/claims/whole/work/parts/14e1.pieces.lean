/-! code lists in pieces, cut behind calls that change memory -/
/-- C.tempts -/
def sg_108_19_3 : List Instr := .iload 2 :: .ireturn :: []
def sg_108_19_2 : List Instr := .aload 0 :: .getfield 2055 :: .iload 3 :: .i2l :: .invokevirtual 2323 :: sg_108_19_3
def sg_108_19_1 : List Instr := .ifCond .eq 58 :: .aload 0 :: .getfield 2055 :: .invokevirtual 2179 :: sg_108_19_2
def bs_108 : Tb := [
  (0, none, .iload 1 :: .invokestatic 18448 :: .ifCond .ne 9 :: .iconst (-1) :: .ireturn :: []),
  (9, none, .iconst 1 :: .istore 2 :: .goto_w 11 :: []),
  (11, some [0, 1, 2], .iload 2 :: .iconst 12 :: .if_icmp .gt 70 :: .iconst 0 :: .istore 3 :: .goto_w 19 :: []),
  (19, some [0, 1, 2, 3], .iload 3 :: .aload 0 :: .getfield 2059 :: .getfield 1280 :: .if_icmp .ge 64 :: .aload 0 :: .iload 3 :: .iload 1 :: .iload 2 :: .invokevirtual 18872 :: sg_108_19_1),
  (58, none, .iinc 3 1 :: .goto 19 :: []),
  (64, none, .iinc 2 1 :: .goto 11 :: []),
  (70, none, .iconst (-2) :: .ireturn :: [])]
theorem ts_108 : bs_108.all (fun q => chk 108 q.1 q.2.2) = true := by decide +kernel
/-- C.wins -/
def sg_109_0_5 : List Instr := .iload 3 :: .ireturn :: []
def sg_109_0_4 : List Instr := .aload 0 :: .getfield 2055 :: .aload 0 :: .getfield 2067 :: .iload 2 :: .invokevirtual 5781 :: .i2l :: .invokevirtual 2323 :: sg_109_0_5
def sg_109_0_3 : List Instr := .aload 0 :: .getfield 2055 :: .aload 0 :: .getfield 2067 :: .iload 1 :: .invokevirtual 5781 :: .i2l :: .invokevirtual 2323 :: sg_109_0_4
def sg_109_0_2 : List Instr := .istore 3 :: .iload 3 :: .ifCond .lt 72 :: .aload 0 :: .getfield 2055 :: .invokevirtual 2179 :: sg_109_0_3
def sg_109_0_1 : List Instr := .aload 0 :: .getfield 2067 :: .aload 0 :: .getfield 2098 :: .aload 0 :: .getfield 2104 :: .iload 1 :: .iload 2 :: .invokevirtual 8133 :: sg_109_0_2
def bs_109 : Tb := [
  (0, none, .aload 0 :: .getfield 2067 :: .aload 0 :: .getfield 2059 :: .invokevirtual 5141 :: sg_109_0_1),
  (72, none, .iload 3 :: .ireturn :: [])]
theorem ts_109 : bs_109.all (fun q => chk 109 q.1 q.2.2) = true := by decide +kernel
/-- C.suits -/
def sg_110_29_2 : List Instr := .ifCond .lt 101 :: .aload 0 :: .getfield 2067 :: .iload 1 :: .iload 2 :: .invokevirtual 6181 :: .iload 4 :: .if_icmp .le 101 :: .iload 5 :: .istore 3 :: .aload 0 :: .getfield 2067 :: .iload 1 :: .iload 2 :: .invokevirtual 6181 :: .istore 4 :: .iinc 5 1 :: .goto 29 :: []
def sg_110_29_1 : List Instr := .aload 0 :: .getfield 2067 :: .aload 0 :: .getfield 2098 :: .aload 0 :: .getfield 2104 :: .iload 1 :: .iload 5 :: .invokevirtual 8133 :: sg_110_29_2
def sg_110_107_2 : List Instr := .iload 3 :: .ireturn :: []
def sg_110_107_1 : List Instr := .aload 0 :: .getfield 2055 :: .iload 4 :: .i2l :: .invokevirtual 2323 :: sg_110_107_2
def bs_110 : Tb := [
  (0, none, .aload 0 :: .getfield 2059 :: .iload 1 :: .invokevirtual 5269 :: .ifCond .eq 18 :: .iload 2 :: .invokestatic 18448 :: .ifCond .ne 20 :: .iconst (-1) :: .ireturn :: []),
  (18, none, .iconst (-1) :: .ireturn :: []),
  (20, none, .iconst (-2) :: .istore 3 :: .iconst (-1) :: .istore 4 :: .iconst 0 :: .istore 5 :: .goto_w 29 :: []),
  (29, some [0, 1, 2, 3, 4, 5], .iload 5 :: .aload 0 :: .getfield 2059 :: .getfield 1280 :: .if_icmp .ge 107 :: .aload 0 :: .getfield 2067 :: .aload 0 :: .getfield 2059 :: .invokevirtual 5141 :: sg_110_29_1),
  (101, none, .iinc 5 1 :: .goto 29 :: []),
  (107, none, .iload 3 :: .ifCond .lt 128 :: .aload 0 :: .getfield 2055 :: .invokevirtual 2179 :: sg_110_107_1),
  (128, none, .iload 3 :: .ireturn :: [])]
theorem ts_110 : bs_110.all (fun q => chk 110 q.1 q.2.2) = true := by decide +kernel
/-- C.goesOver -/
def sg_111_20_3 : List Instr := .ireturn :: []
def sg_111_20_2 : List Instr := .invokevirtual 18968 :: sg_111_20_3
def sg_111_20_1 : List Instr := .aload 0 :: .aload 0 :: .getfield 2083 :: .aload 0 :: .getfield 2059 :: .invokevirtual 9366 :: sg_111_20_2
def bs_111 : Tb := [
  (0, none, .aload 0 :: .getfield 2059 :: .iload 1 :: .invokevirtual 5269 :: .ifCond .eq 18 :: .iload 2 :: .invokestatic 18448 :: .ifCond .ne 20 :: .iconst (-1) :: .ireturn :: []),
  (18, none, .iconst (-1) :: .ireturn :: []),
  (20, none, .aload 0 :: .getfield 2083 :: .aload 0 :: .getfield 2098 :: .aload 0 :: .getfield 2104 :: .iload 1 :: .iload 2 :: .invokevirtual 9030 :: sg_111_20_1)]
theorem ts_111 : bs_111.all (fun q => chk 111 q.1 q.2.2) = true := by decide +kernel
/-- C.peace -/
def sg_112_0_3 : List Instr := .ireturn :: []
def sg_112_0_2 : List Instr := .invokevirtual 18968 :: sg_112_0_3
def sg_112_0_1 : List Instr := .aload 0 :: .aload 0 :: .getfield 2083 :: .aload 0 :: .getfield 2059 :: .invokevirtual 9366 :: sg_112_0_2
def bs_112 : Tb := [
  (0, none, .aload 0 :: .getfield 2083 :: .aload 0 :: .getfield 2098 :: .aload 0 :: .getfield 2104 :: .iconst (-1) :: .iconst (-1) :: .invokevirtual 9030 :: sg_112_0_1)]
theorem ts_112 : bs_112.all (fun q => chk 112 q.1 q.2.2) = true := by decide +kernel
/-- C.campaign -/
def sg_113_12_1 : List Instr := .iconst 0 :: .istore 2 :: .goto_w 25 :: []
def sg_113_25_2 : List Instr := .iinc 2 1 :: .goto 25 :: []
def sg_113_25_1 : List Instr := .aload 0 :: .getfield 2067 :: .iconst 1 :: .invokevirtual 8341 :: sg_113_25_2
def sg_113_48_1 : List Instr := .iconst 0 :: .istore 2 :: .goto_w 57 :: []
def sg_113_57_1 : List Instr := .iinc 2 1 :: .goto 57 :: []
def bs_113 : Tb := [
  (0, none, .iload 1 :: .ifCond .lt 10 :: .iload 1 :: .iconst 40 :: .if_icmp .le 12 :: .iconst (-1) :: .ireturn :: []),
  (10, none, .iconst (-1) :: .ireturn :: []),
  (12, none, .aload 0 :: .getfield 2067 :: .aload 0 :: .getfield 2059 :: .invokevirtual 5141 :: sg_113_12_1),
  (25, some [0, 1, 2], .iload 2 :: .iload 1 :: .if_icmp .ge 48 :: .aload 0 :: .invokevirtual 19080 :: sg_113_25_1),
  (48, none, .aload 0 :: .getfield 2055 :: .invokevirtual 2179 :: sg_113_48_1),
  (57, some [0, 2], .iload 2 :: .aload 0 :: .getfield 2067 :: .getfield 1280 :: .if_icmp .ge 90 :: .aload 0 :: .getfield 2055 :: .aload 0 :: .getfield 2067 :: .iload 2 :: .invokevirtual 5781 :: .i2l :: .invokevirtual 2323 :: sg_113_57_1),
  (90, none, .aload 0 :: .getfield 2067 :: .getfield 1288 :: .aload 0 :: .getfield 2059 :: .getfield 1288 :: .isub :: .ireturn :: [])]
theorem ts_113 : bs_113.all (fun q => chk 113 q.1 q.2.2) = true := by decide +kernel
/-- C.halves -/
def sg_114_49_2 : List Instr := .iinc 3 1 :: .goto 14 :: []
def sg_114_49_1 : List Instr := .aload 0 :: .getfield 2055 :: .iload 3 :: .i2l :: .invokevirtual 2323 :: sg_114_49_2
def sg_114_50_2 : List Instr := .iinc 3 1 :: .goto 14 :: []
def sg_114_50_1 : List Instr := .aload 0 :: .getfield 2055 :: .iload 3 :: .i2l :: .invokevirtual 2323 :: sg_114_50_2
def bs_114 : Tb := [
  (0, none, .iload 1 :: .invokestatic 18448 :: .ifCond .ne 9 :: .iconst (-1) :: .ireturn :: []),
  (9, none, .iconst (-2) :: .istore 2 :: .iconst 1 :: .istore 3 :: .goto_w 14 :: []),
  (14, some [0, 1, 2, 3], .iload 3 :: .iconst 1 :: .aload 0 :: .getfield 2059 :: .getfield 1280 :: .ishl :: .if_icmp .ge 101 :: .iload 3 :: .invokestatic 36496 :: .istore 4 :: .iload 2 :: .iconst (-2) :: .if_icmp .eq 45 :: .iload 4 :: .iload 2 :: .if_icmp .ge 49 :: .iconst 1 :: .goto 50 :: []),
  (45, none, .iconst 1 :: .goto 50 :: []),
  (49, none, .iconst 0 :: .istore 5 :: .iload 5 :: .ifCond .eq 95 :: .iconst 2 :: .aload 0 :: .getfield 2059 :: .iload 3 :: .iload 1 :: .invokevirtual 6821 :: .imul :: .iconst 12 :: .iload 4 :: .imul :: .if_icmp .ne 95 :: .iload 4 :: .istore 2 :: .aload 0 :: .getfield 2055 :: .invokevirtual 2179 :: sg_114_49_1),
  (50, none, .istore 5 :: .iload 5 :: .ifCond .eq 95 :: .iconst 2 :: .aload 0 :: .getfield 2059 :: .iload 3 :: .iload 1 :: .invokevirtual 6821 :: .imul :: .iconst 12 :: .iload 4 :: .imul :: .if_icmp .ne 95 :: .iload 4 :: .istore 2 :: .aload 0 :: .getfield 2055 :: .invokevirtual 2179 :: sg_114_50_1),
  (95, none, .iinc 3 1 :: .goto 14 :: []),
  (101, none, .iload 2 :: .ireturn :: [])]
theorem ts_114 : bs_114.all (fun q => chk 114 q.1 q.2.2) = true := by decide +kernel
/-- C.evens -/
def sg_115_65_2 : List Instr := .iload 3 :: .ireturn :: []
def sg_115_65_1 : List Instr := .aload 0 :: .getfield 2055 :: .iload 2 :: .i2l :: .invokevirtual 2323 :: sg_115_65_2
def bs_115 : Tb := [
  (0, none, .aload 0 :: .getfield 2059 :: .invokevirtual 6405 :: .istore 1 :: .iconst 0 :: .istore 2 :: .iload 1 :: .istore 3 :: .iconst 0 :: .istore 4 :: .goto_w 15 :: []),
  (15, some [0, 1, 2, 3, 4], .iload 4 :: .iconst 1 :: .aload 0 :: .getfield 2059 :: .getfield 1280 :: .ishl :: .if_icmp .ge 65 :: .iload 1 :: .iconst 2 :: .aload 0 :: .getfield 2059 :: .iload 4 :: .invokevirtual 6549 :: .imul :: .isub :: .invokestatic 36752 :: .istore 5 :: .iload 5 :: .iload 3 :: .if_icmp .ge 59 :: .iload 5 :: .istore 3 :: .iload 4 :: .istore 2 :: .iinc 4 2 :: .goto 15 :: []),
  (59, none, .iinc 4 2 :: .goto 15 :: []),
  (65, none, .aload 0 :: .getfield 2055 :: .invokevirtual 2179 :: sg_115_65_1)]
theorem ts_115 : bs_115.all (fun q => chk 115 q.1 q.2.2) = true := by decide +kernel
/-- C.worth -/
def sg_116_125_2 : List Instr := .iconst 0 :: .ireturn :: []
def sg_116_125_1 : List Instr := .aload 0 :: .getfield 2055 :: .iload 3 :: .i2l :: .aload 0 :: .getfield 2059 :: .getfield 1280 :: .invokestatic 20880 :: .i2l :: .invokevirtual 2467 :: sg_116_125_2
def bs_116 : Tb := [
  (0, none, .aload 0 :: .getfield 2059 :: .iload 1 :: .invokevirtual 5269 :: .ifCond .ne 13 :: .iconst (-1) :: .ireturn :: []),
  (13, none, .aload 0 :: .getfield 2059 :: .invokevirtual 6405 :: .istore 2 :: .iconst 0 :: .istore 3 :: .iconst 0 :: .istore 4 :: .goto_w 26 :: []),
  (26, some [0, 1, 2, 3, 4], .iload 4 :: .iconst 1 :: .aload 0 :: .getfield 2059 :: .getfield 1280 :: .ishl :: .if_icmp .ge 125 :: .iload 4 :: .iconst 1 :: .iload 1 :: .ishl :: .iand :: .ifCond .eq 52 :: .goto 119 :: []),
  (52, none, .aload 0 :: .getfield 2059 :: .iload 4 :: .invokevirtual 6549 :: .istore 5 :: .iconst 2 :: .iload 5 :: .imul :: .iload 2 :: .if_icmp .gt 119 :: .iconst 2 :: .iload 5 :: .aload 0 :: .getfield 2059 :: .iload 1 :: .invokevirtual 5653 :: .iadd :: .imul :: .iload 2 :: .if_icmp .le 119 :: .iload 4 :: .invokestatic 36496 :: .istore 6 :: .iload 3 :: .iload 6 :: .invokestatic 20880 :: .aload 0 :: .getfield 2059 :: .getfield 1280 :: .iconst 1 :: .isub :: .iload 6 :: .isub :: .invokestatic 20880 :: .imul :: .iadd :: .istore 3 :: .iinc 4 1 :: .goto 26 :: []),
  (119, none, .iinc 4 1 :: .goto 26 :: []),
  (125, none, .aload 0 :: .getfield 2055 :: .invokevirtual 2179 :: sg_116_125_1)]
theorem ts_116 : bs_116.all (fun q => chk 116 q.1 q.2.2) = true := by decide +kernel
/-- C.patched -/
def sg_117_83_3 : List Instr := .iload 3 :: .ireturn :: []
def sg_117_83_2 : List Instr := .aload 0 :: .getfield 2055 :: .iload 4 :: .i2l :: .invokevirtual 2323 :: sg_117_83_3
def sg_117_83_1 : List Instr := .aload 0 :: .getfield 2055 :: .iload 3 :: .invokestatic 36496 :: .i2l :: .invokevirtual 2323 :: sg_117_83_2
def bs_117 : Tb := [
  (0, none, .iload 1 :: .invokestatic 18448 :: .ifCond .eq 17 :: .iload 2 :: .ifCond .lt 17 :: .iload 2 :: .iconst 12 :: .if_icmp .le 19 :: .iconst (-1) :: .ireturn :: []),
  (17, none, .iconst (-1) :: .ireturn :: []),
  (19, none, .iconst 0 :: .istore 3 :: .iconst 0 :: .istore 4 :: .iconst 0 :: .istore 5 :: .goto_w 27 :: []),
  (27, some [0, 1, 2, 3, 4, 5], .iload 5 :: .aload 0 :: .getfield 2059 :: .getfield 1280 :: .if_icmp .ge 83 :: .aload 0 :: .getfield 2059 :: .iload 5 :: .iload 1 :: .invokevirtual 6181 :: .istore 6 :: .iload 3 :: .iload 6 :: .iload 2 :: .if_icmp .lt 65 :: .iconst 1 :: .iload 5 :: .ishl :: .goto 66 :: []),
  (65, none, .iconst 0 :: .ior :: .istore 3 :: .iload 4 :: .iload 6 :: .invokestatic 36896 :: .istore 4 :: .iinc 5 1 :: .goto 27 :: []),
  (66, none, .ior :: .istore 3 :: .iload 4 :: .iload 6 :: .invokestatic 36896 :: .istore 4 :: .iinc 5 1 :: .goto 27 :: []),
  (83, none, .aload 0 :: .getfield 2055 :: .invokevirtual 2179 :: sg_117_83_1)]
theorem ts_117 : bs_117.all (fun q => chk 117 q.1 q.2.2) = true := by decide +kernel
/-- C.seen -/
def sg_118_14_1 : List Instr := .ifCond .eq 37 :: .aload 0 :: .getfield 2087 :: .getfield 268 :: .goto 38 :: []
def bs_118 : Tb := [
  (0, none, .iload 2 :: .ifCond .lt 12 :: .iload 2 :: .iload 1 :: .invokestatic 19984 :: .if_icmp .le 14 :: .iconst (-1) :: .ireturn :: []),
  (12, none, .iconst (-1) :: .ireturn :: []),
  (14, none, .aload 0 :: .getfield 2087 :: .iload 1 :: .iload 2 :: .iconst 0 :: .invokevirtual 817 :: sg_118_14_1),
  (37, none, .iconst (-1) :: .ireturn :: []),
  (38, none, .ireturn :: [])]
theorem ts_118 : bs_118.all (fun q => chk 118 q.1 q.2.2) = true := by decide +kernel
/-- C.forget -/
def sg_119_0_1 : List Instr := .ireturn :: []
def bs_119 : Tb := [
  (0, none, .aload 0 :: .getfield 2087 :: .invokevirtual 897 :: sg_119_0_1)]
theorem ts_119 : bs_119.all (fun q => chk 119 q.1 q.2.2) = true := by decide +kernel
/-- C.fits -/
def sg_120_0_2 : List Instr := .iload 1 :: .ireturn :: []
def sg_120_0_1 : List Instr := .aload 0 :: .getfield 2055 :: .iload 1 :: .invokestatic 36496 :: .i2l :: .invokevirtual 2323 :: sg_120_0_2
def bs_120 : Tb := [
  (0, none, .aload 0 :: .invokevirtual 20104 :: .istore 1 :: .aload 0 :: .getfield 2055 :: .invokevirtual 2179 :: sg_120_0_1)]
theorem ts_120 : bs_120.all (fun q => chk 120 q.1 q.2.2) = true := by decide +kernel
/-- C.looks -/
def sg_121_76_2 : List Instr := .iload 3 :: .ireturn :: []
def sg_121_76_1 : List Instr := .aload 0 :: .getfield 2055 :: .iload 4 :: .i2l :: .invokevirtual 2323 :: sg_121_76_2
def bs_121 : Tb := [
  (0, none, .aload 0 :: .invokevirtual 20104 :: .istore 1 :: .iload 1 :: .ifCond .ne 12 :: .iconst (-2) :: .ireturn :: []),
  (12, none, .iload 1 :: .invokestatic 36496 :: .istore 2 :: .iconst 0 :: .istore 3 :: .iconst 7 :: .istore 4 :: .iconst 0 :: .istore 5 :: .goto_w 26 :: []),
  (26, some [0, 1, 2, 3, 4, 5], .iload 5 :: .iconst 4 :: .if_icmp .ge 76 :: .iload 1 :: .aload 0 :: .iload 5 :: .invokevirtual 19864 :: .iand :: .invokestatic 36496 :: .istore 6 :: .iload 6 :: .iload 2 :: .iload 6 :: .isub :: .invokestatic 36896 :: .istore 7 :: .iload 7 :: .iload 4 :: .if_icmp .ge 70 :: .iload 7 :: .istore 4 :: .iload 5 :: .istore 3 :: .iinc 5 1 :: .goto 26 :: []),
  (70, none, .iinc 5 1 :: .goto 26 :: []),
  (76, none, .aload 0 :: .getfield 2055 :: .invokevirtual 2179 :: sg_121_76_1)]
theorem ts_121 : bs_121.all (fun q => chk 121 q.1 q.2.2) = true := by decide +kernel
/-- C.told -/
def sg_122_33_1 : List Instr := .ifCond .eq 56 :: .aload 0 :: .getfield 2091 :: .getfield 268 :: .goto 57 :: []
def bs_122 : Tb := [
  (0, none, .iload 1 :: .ifCond .lt 31 :: .iload 1 :: .iconst 12 :: .if_icmp .gt 31 :: .iload 2 :: .ifCond .lt 31 :: .iload 2 :: .iconst 12 :: .iload 1 :: .isub :: .if_icmp .gt 31 :: .iload 3 :: .ifCond .lt 31 :: .iload 3 :: .iconst 1 :: .if_icmp .le 33 :: .iconst (-1) :: .ireturn :: []),
  (31, none, .iconst (-1) :: .ireturn :: []),
  (33, none, .aload 0 :: .getfield 2091 :: .iload 1 :: .iload 2 :: .iload 3 :: .invokevirtual 817 :: sg_122_33_1),
  (56, none, .iconst (-1) :: .ireturn :: []),
  (57, none, .ireturn :: [])]
theorem ts_122 : bs_122.all (fun q => chk 122 q.1 q.2.2) = true := by decide +kernel
/-- C.deny -/
def sg_123_0_1 : List Instr := .ireturn :: []
def bs_123 : Tb := [
  (0, none, .aload 0 :: .getfield 2091 :: .invokevirtual 897 :: sg_123_0_1)]
theorem ts_123 : bs_123.all (fun q => chk 123 q.1 q.2.2) = true := by decide +kernel
/-- C.laws -/
def sg_124_0_4 : List Instr := .iload 1 :: .ireturn :: []
def sg_124_0_3 : List Instr := .aload 0 :: .getfield 2055 :: .aload 0 :: .getfield 2095 :: .getfield 4 :: .iconst 13 :: .irem :: .i2l :: .invokevirtual 2323 :: sg_124_0_4
def sg_124_0_2 : List Instr := .iload 1 :: .ifCond .le 59 :: .aload 0 :: .getfield 2055 :: .aload 0 :: .getfield 2095 :: .getfield 4 :: .iconst 13 :: .idiv :: .i2l :: .invokevirtual 2323 :: sg_124_0_3
def sg_124_0_1 : List Instr := .istore 1 :: .aload 0 :: .getfield 2055 :: .invokevirtual 2179 :: sg_124_0_2
def bs_124 : Tb := [
  (0, none, .aload 0 :: .getfield 2095 :: .aload 0 :: .getfield 2091 :: .invokevirtual 144 :: sg_124_0_1),
  (59, none, .iload 1 :: .ireturn :: [])]
theorem ts_124 : bs_124.all (fun q => chk 124 q.1 q.2.2) = true := by decide +kernel
/-- C.asks -/
def sg_125_0_1 : List Instr := .istore 1 :: .iload 1 :: .ifCond .ne 19 :: .iconst (-2) :: .ireturn :: []
def sg_125_102_2 : List Instr := .iload 2 :: .ireturn :: []
def sg_125_102_1 : List Instr := .aload 0 :: .getfield 2055 :: .iload 3 :: .i2l :: .invokevirtual 2323 :: sg_125_102_2
def bs_125 : Tb := [
  (0, none, .aload 0 :: .getfield 2095 :: .aload 0 :: .getfield 2091 :: .invokevirtual 144 :: sg_125_0_1),
  (19, none, .iconst 0 :: .istore 2 :: .iload 1 :: .iconst 1 :: .iadd :: .istore 3 :: .iconst 0 :: .istore 4 :: .goto_w 28 :: []),
  (28, some [0, 1, 2, 3, 4], .iload 4 :: .iconst 12 :: .if_icmp .gt 102 :: .iconst 0 :: .istore 5 :: .goto_w 38 :: []),
  (38, some [0, 1, 2, 3, 4, 5], .iload 5 :: .iconst 12 :: .iload 4 :: .isub :: .if_icmp .gt 96 :: .aload 0 :: .getfield 2095 :: .iload 4 :: .iload 5 :: .invokevirtual 416 :: .istore 6 :: .iload 6 :: .iload 1 :: .iload 6 :: .isub :: .invokestatic 36896 :: .istore 7 :: .iload 7 :: .iload 3 :: .if_icmp .ge 90 :: .iload 7 :: .istore 3 :: .iconst 13 :: .iload 4 :: .imul :: .iload 5 :: .iadd :: .istore 2 :: .iinc 5 1 :: .goto 38 :: []),
  (90, none, .iinc 5 1 :: .goto 38 :: []),
  (96, none, .iinc 4 1 :: .goto 28 :: []),
  (102, none, .aload 0 :: .getfield 2055 :: .invokevirtual 2179 :: sg_125_102_1)]
theorem ts_125 : bs_125.all (fun q => chk 125 q.1 q.2.2) = true := by decide +kernel
/-- C.treaty -/
def sg_126_22_1 : List Instr := .iload 1 :: .iload 2 :: .invokestatic 20512 :: .ifCond .eq 39 :: .iconst 0 :: .ireturn :: []
def sg_126_74_2 : List Instr := .iconst 1 :: .ireturn :: []
def sg_126_74_1 : List Instr := .aload 0 :: .getfield 2055 :: .iload 4 :: .i2l :: .invokevirtual 2323 :: sg_126_74_2
def sg_126_75_2 : List Instr := .iconst 1 :: .ireturn :: []
def sg_126_75_1 : List Instr := .aload 0 :: .getfield 2055 :: .iload 4 :: .i2l :: .invokevirtual 2323 :: sg_126_75_2
def bs_126 : Tb := [
  (0, none, .iload 1 :: .ifCond .lt 20 :: .iload 1 :: .iconst 30 :: .if_icmp .gt 20 :: .iload 2 :: .ifCond .lt 20 :: .iload 2 :: .iconst 30 :: .if_icmp .le 22 :: .iconst (-1) :: .ireturn :: []),
  (20, none, .iconst (-1) :: .ireturn :: []),
  (22, none, .aload 0 :: .getfield 2055 :: .invokevirtual 2179 :: sg_126_22_1),
  (39, none, .iconst 0 :: .istore 3 :: .goto_w 41 :: []),
  (41, some [0, 1, 2, 3], .iload 3 :: .iload 1 :: .if_icmp .gt 128 :: .iconst 0 :: .istore 4 :: .goto_w 49 :: []),
  (49, some [0, 1, 2, 3, 4], .iload 4 :: .iload 2 :: .if_icmp .gt 122 :: .iload 3 :: .ifCond .eq 70 :: .iload 4 :: .ifCond .eq 70 :: .iload 3 :: .iload 4 :: .if_icmp .ne 74 :: .iconst 1 :: .goto 75 :: []),
  (70, none, .iconst 1 :: .goto 75 :: []),
  (74, none, .iconst 0 :: .istore 5 :: .iload 5 :: .ifCond .eq 116 :: .iload 1 :: .iload 3 :: .isub :: .iload 2 :: .iload 4 :: .isub :: .invokestatic 20512 :: .ifCond .eq 116 :: .aload 0 :: .getfield 2055 :: .iload 3 :: .i2l :: .invokevirtual 2323 :: sg_126_74_1),
  (75, none, .istore 5 :: .iload 5 :: .ifCond .eq 116 :: .iload 1 :: .iload 3 :: .isub :: .iload 2 :: .iload 4 :: .isub :: .invokestatic 20512 :: .ifCond .eq 116 :: .aload 0 :: .getfield 2055 :: .iload 3 :: .i2l :: .invokevirtual 2323 :: sg_126_75_1),
  (116, none, .iinc 4 1 :: .goto 49 :: []),
  (122, none, .iinc 3 1 :: .goto 41 :: []),
  (128, none, .iconst 0 :: .ireturn :: [])]
theorem ts_126 : bs_126.all (fun q => chk 126 q.1 q.2.2) = true := by decide +kernel
/-- C.series -/
def sg_127_111_2 : List Instr := .iconst 0 :: .ireturn :: []
def sg_127_111_1 : List Instr := .aload 0 :: .getfield 2055 :: .lload 6 :: .iconst 10 :: .iload 1 :: .iload 2 :: .iadd :: .iconst 1 :: .isub :: .invokestatic 21024 :: .invokevirtual 2467 :: sg_127_111_2
def bs_127 : Tb := [
  (0, none, .iload 1 :: .iconst 1 :: .if_icmp .lt 32 :: .iload 1 :: .iconst 8 :: .if_icmp .gt 32 :: .iload 2 :: .iconst 1 :: .if_icmp .lt 32 :: .iload 2 :: .iconst 8 :: .if_icmp .gt 32 :: .iload 3 :: .ifCond .lt 32 :: .iload 3 :: .iconst 10 :: .if_icmp .le 34 :: .iconst (-1) :: .ireturn :: []),
  (32, none, .iconst (-1) :: .ireturn :: []),
  (34, none, .ldc2_w 1 :: .lstore 4 :: .ldc2_w 0 :: .lstore 6 :: .iconst 0 :: .istore 8 :: .goto_w 43 :: []),
  (43, some [0, 1, 2, 3, 4, 6, 8], .iload 8 :: .iload 2 :: .if_icmp .ge 111 :: .iload 8 :: .ifCond .le 70 :: .lload 4 :: .iload 1 :: .iconst 1 :: .isub :: .iload 8 :: .iadd :: .i2l :: .lmul :: .iload 8 :: .i2l :: .ldiv :: .lstore 4 :: .lload 6 :: .lload 4 :: .iload 3 :: .iload 1 :: .invokestatic 21024 :: .lmul :: .iconst 10 :: .iload 3 :: .isub :: .iload 8 :: .invokestatic 21024 :: .lmul :: .iconst 10 :: .iload 2 :: .iconst 1 :: .isub :: .iload 8 :: .isub :: .invokestatic 21024 :: .lmul :: .ladd :: .lstore 6 :: .iinc 8 1 :: .goto 43 :: []),
  (70, none, .lload 6 :: .lload 4 :: .iload 3 :: .iload 1 :: .invokestatic 21024 :: .lmul :: .iconst 10 :: .iload 3 :: .isub :: .iload 8 :: .invokestatic 21024 :: .lmul :: .iconst 10 :: .iload 2 :: .iconst 1 :: .isub :: .iload 8 :: .isub :: .invokestatic 21024 :: .lmul :: .ladd :: .lstore 6 :: .iinc 8 1 :: .goto 43 :: []),
  (111, none, .aload 0 :: .getfield 2055 :: .invokevirtual 2179 :: sg_127_111_1)]
theorem ts_127 : bs_127.all (fun q => chk 127 q.1 q.2.2) = true := by decide +kernel
/-- C.rests -/
def sg_128_12_1 : List Instr := .iconst 0 :: .istore 2 :: .iconst 0 :: .istore 3 :: .goto_w 23 :: []
def sg_128_62_2 : List Instr := .iinc 2 1 :: .iinc 4 1 :: .goto 32 :: []
def sg_128_62_1 : List Instr := .aload 0 :: .getfield 2055 :: .iload 4 :: .i2l :: .invokevirtual 2323 :: sg_128_62_2
def bs_128 : Tb := [
  (0, none, .iload 1 :: .ifCond .lt 10 :: .iload 1 :: .iconst 20 :: .if_icmp .le 12 :: .iconst (-1) :: .ireturn :: []),
  (10, none, .iconst (-1) :: .ireturn :: []),
  (12, none, .aload 0 :: .getfield 2055 :: .invokevirtual 2179 :: sg_128_12_1),
  (23, some [0, 1, 2, 3], .iload 3 :: .iconst 9 :: .if_icmp .gt 100 :: .iconst 0 :: .istore 4 :: .goto_w 32 :: []),
  (32, some [0, 1, 2, 3, 4], .iload 4 :: .iconst 9 :: .if_icmp .gt 94 :: .iload 1 :: .iload 3 :: .iload 4 :: .invokestatic 20656 :: .ifCond .eq 88 :: .iload 1 :: .iload 4 :: .iload 3 :: .invokestatic 20656 :: .ifCond .ne 62 :: .goto 88 :: []),
  (62, none, .iload 2 :: .ifCond .ne 85 :: .aload 0 :: .getfield 2055 :: .iload 3 :: .i2l :: .invokevirtual 2323 :: sg_128_62_1),
  (85, none, .iinc 2 1 :: .iinc 4 1 :: .goto 32 :: []),
  (88, none, .iinc 4 1 :: .goto 32 :: []),
  (94, none, .iinc 3 1 :: .goto 23 :: []),
  (100, none, .iload 2 :: .ireturn :: [])]
theorem ts_128 : bs_128.all (fun q => chk 128 q.1 q.2.2) = true := by decide +kernel
/-- C.law -/
def sg_129_0_1 : List Instr := .istore 1 :: .iload 1 :: .iconst (-1) :: .if_icmp .eq 16 :: .iconst (-10000) :: .iload 1 :: .isub :: .ireturn :: []
def sg_129_16_5 : List Instr := .iload 2 :: .iload 3 :: .isub :: .ireturn :: []
def sg_129_16_4 : List Instr := .aload 0 :: .getfield 2055 :: .iload 3 :: .i2l :: .invokevirtual 2323 :: sg_129_16_5
def sg_129_16_3 : List Instr := .aload 0 :: .getfield 2055 :: .iload 2 :: .i2l :: .invokevirtual 2323 :: sg_129_16_4
def sg_129_16_2 : List Instr := .istore 3 :: .aload 0 :: .getfield 2055 :: .invokevirtual 2179 :: sg_129_16_3
def sg_129_16_1 : List Instr := .istore 2 :: .aload 0 :: .aload 0 :: .getfield 2098 :: .invokevirtual 19224 :: sg_129_16_2
def bs_129 : Tb := [
  (0, none, .aload 0 :: .invokevirtual 17544 :: sg_129_0_1),
  (16, none, .aload 0 :: .aload 0 :: .getfield 2102 :: .invokevirtual 19224 :: sg_129_16_1)]
theorem ts_129 : bs_129.all (fun q => chk 129 q.1 q.2.2) = true := by decide +kernel
/-- C.years -/
def sg_130_13_1 : List Instr := .iconst 0 :: .istore 3 :: .goto_w 31 :: []
def sg_130_31_1 : List Instr := .iinc 3 1 :: .goto 31 :: []
def sg_130_46_3 : List Instr := .aload 0 :: .getfield 2067 :: .getfield 1288 :: .aload 0 :: .getfield 2059 :: .getfield 1288 :: .isub :: .ireturn :: []
def sg_130_46_2 : List Instr := .aload 0 :: .getfield 2055 :: .aload 0 :: .getfield 2067 :: .invokevirtual 6917 :: .i2l :: .invokevirtual 2323 :: sg_130_46_3
def sg_130_46_1 : List Instr := .aload 0 :: .getfield 2055 :: .aload 0 :: .getfield 2067 :: .invokevirtual 6405 :: .i2l :: .invokevirtual 2323 :: sg_130_46_2
def bs_130 : Tb := [
  (0, none, .iload 2 :: .iconst 1 :: .if_icmp .lt 11 :: .iload 2 :: .iconst 60 :: .if_icmp .le 13 :: .iconst (-1) :: .ireturn :: []),
  (11, none, .iconst (-1) :: .ireturn :: []),
  (13, none, .aload 0 :: .iload 1 :: .putfield 2112 :: .aload 0 :: .getfield 2067 :: .aload 0 :: .getfield 2059 :: .invokevirtual 5141 :: sg_130_13_1),
  (31, some [0, 2, 3], .iload 3 :: .iload 2 :: .if_icmp .ge 46 :: .aload 0 :: .invokevirtual 19336 :: sg_130_31_1),
  (46, none, .aload 0 :: .getfield 2055 :: .invokevirtual 2179 :: sg_130_46_1)]
theorem ts_130 : bs_130.all (fun q => chk 130 q.1 q.2.2) = true := by decide +kernel
/-- C.keep -/
def sg_131_11_1 : List Instr := .aload 0 :: .dup :: .getfield 2108 :: .iconst 1 :: .iload 1 :: .ishl :: .ior :: .putfield 2108 :: .iconst 1 :: .freturn :: []
def bs_131 : Tb := [
  (0, none, .iload 1 :: .ifCond .lt 9 :: .iload 1 :: .iconst 2 :: .if_icmp .lt 11 :: .iconst 0 :: .freturn :: []),
  (9, none, .iconst 0 :: .freturn :: []),
  (11, none, .aload 0 :: .iload 1 :: .invokevirtual 18712 :: .aload 0 :: .getfield 2059 :: .invokevirtual 5141 :: sg_131_11_1)]
theorem ts_131 : bs_131.all (fun q => chk 131 q.1 q.2.2) = true := by decide +kernel
/-- C.again -/
def sg_132_22_2 : List Instr := .iconst 1 :: .freturn :: []
def sg_132_22_1 : List Instr := .aload 0 :: .getfield 2071 :: .invokevirtual 1538 :: sg_132_22_2
def bs_132 : Tb := [
  (0, none, .iload 1 :: .ifCond .lt 20 :: .iload 1 :: .iconst 2 :: .if_icmp .ge 20 :: .aload 0 :: .getfield 2108 :: .iconst 1 :: .iload 1 :: .ishl :: .iand :: .ifCond .ne 22 :: .iconst 0 :: .freturn :: []),
  (20, none, .iconst 0 :: .freturn :: []),
  (22, none, .aload 0 :: .getfield 2059 :: .aload 0 :: .iload 1 :: .invokevirtual 18712 :: .invokevirtual 5141 :: sg_132_22_1)]
theorem ts_132 : bs_132.all (fun q => chk 132 q.1 q.2.2) = true := by decide +kernel
/-- C.readsOtherRule -/
def sg_137_0_2 : List Instr := .ireturn :: []
def sg_137_0_1 : List Instr := .istore 1 :: .iload 1 :: .ifCond .ne 27 :: .aload 0 :: .getfield 2102 :: .getstatic 2 :: .getstatic 2 :: .arraylength :: .invokevirtual 3108 :: sg_137_0_2
def sg_137_27_1 : List Instr := .ireturn :: []
def bs_137 : Tb := [
  (0, none, .aload 0 :: .getfield 2051 :: .invokevirtual 10631 :: sg_137_0_1),
  (27, none, .aload 0 :: .getfield 2102 :: .aload 0 :: .getfield 2051 :: .getfield 1795 :: .iload 1 :: .invokevirtual 3108 :: sg_137_27_1)]
theorem ts_137 : bs_137.all (fun q => chk 137 q.1 q.2.2) = true := by decide +kernel
/-- C.acts -/
def sg_141_56_1 : List Instr := .istore 3 :: .iload 3 :: .ifCond .ge 96 :: .iload 3 :: .iconst (-3) :: .if_icmp .ne 100 :: .iconst 1 :: .goto 101 :: []
def sg_141_102_1 : List Instr := .iconst 1 :: .freturn :: []
def sg_141_112_1 : List Instr := .ifCond .lt 153 :: .iconst 1 :: .goto 154 :: []
def sg_141_155_1 : List Instr := .ifCond .lt 183 :: .iconst 1 :: .goto 184 :: []
def bs_141 : Tb := [
  (0, none, .aload 0 :: .getfield 2051 :: .iload 1 :: .iconst 1 :: .iadd :: .invokevirtual 10519 :: .iconst 48 :: .isub :: .istore 2 :: .aload 0 :: .getfield 2051 :: .iload 1 :: .invokevirtual 10519 :: .lookupswitch 155 #[(102, 56), (110, 102), (115, 112)] :: []),
  (56, none, .aload 0 :: .getfield 2059 :: .aload 0 :: .getfield 2098 :: .aload 0 :: .getfield 2104 :: .iload 2 :: .aload 0 :: .getfield 2051 :: .iload 1 :: .iconst 2 :: .iadd :: .invokevirtual 10519 :: .iconst 48 :: .isub :: .invokevirtual 8133 :: sg_141_56_1),
  (96, none, .iconst 1 :: .goto 101 :: []),
  (100, none, .iconst 0 :: .freturn :: []),
  (101, none, .freturn :: []),
  (102, none, .aload 0 :: .getfield 2059 :: .iload 2 :: .invokevirtual 8341 :: sg_141_102_1),
  (112, none, .aload 0 :: .getfield 2059 :: .iload 2 :: .aload 0 :: .getfield 2051 :: .iload 1 :: .iconst 2 :: .iadd :: .invokevirtual 10519 :: .iconst 97 :: .isub :: .aload 0 :: .getfield 2051 :: .iload 1 :: .iconst 3 :: .iadd :: .invokevirtual 10519 :: .iconst 48 :: .isub :: .invokevirtual 8629 :: sg_141_112_1),
  (153, none, .iconst 0 :: .freturn :: []),
  (154, none, .freturn :: []),
  (155, none, .aload 0 :: .getfield 2059 :: .iload 2 :: .aload 0 :: .getfield 2051 :: .iload 1 :: .iconst 2 :: .iadd :: .invokevirtual 10519 :: .iconst 97 :: .isub :: .invokevirtual 8741 :: sg_141_155_1),
  (183, none, .iconst 0 :: .freturn :: []),
  (184, none, .freturn :: [])]
theorem ts_141 : bs_141.all (fun q => chk 141 q.1 q.2.2) = true := by decide +kernel
/-- C.isTempted -/
def sg_147_34_2 : List Instr := .iload 2 :: .if_icmp .ne 63 :: .iconst 1 :: .goto 64 :: []
def sg_147_34_1 : List Instr := .aload 0 :: .getfield 2067 :: .iload 1 :: .iload 2 :: .iload 3 :: .invokevirtual 8629 :: sg_147_34_2
def bs_147 : Tb := [
  (0, none, .aload 0 :: .getfield 2059 :: .iload 1 :: .invokevirtual 5781 :: .iload 2 :: .if_icmp .eq 32 :: .aload 0 :: .getfield 2059 :: .iload 1 :: .aload 0 :: .getfield 2059 :: .iload 1 :: .invokevirtual 5781 :: .invokevirtual 6181 :: .iload 3 :: .if_icmp .ge 34 :: .iconst 0 :: .freturn :: []),
  (32, none, .iconst 0 :: .freturn :: []),
  (34, none, .aload 0 :: .getfield 2067 :: .aload 0 :: .getfield 2059 :: .invokevirtual 5141 :: sg_147_34_1),
  (63, none, .iconst 0 :: .freturn :: []),
  (64, none, .freturn :: [])]
theorem ts_147 : bs_147.all (fun q => chk 147 q.1 q.2.2) = true := by decide +kernel
/-- C.tellsFights -/
def sg_148_0_1 : List Instr := .iconst 0 :: .istore 2 :: .goto_w 13 :: []
def sg_148_13_1 : List Instr := .iinc 2 1 :: .goto 13 :: []
def bs_148 : Tb := [
  (0, none, .iload 1 :: .ifCond .lt 42 :: .aload 0 :: .getfield 2055 :: .invokevirtual 2179 :: sg_148_0_1),
  (13, some [0, 1, 2], .iload 2 :: .iconst 2 :: .iload 1 :: .imul :: .if_icmp .ge 42 :: .aload 0 :: .getfield 2055 :: .aload 0 :: .getfield 2083 :: .iload 2 :: .invokevirtual 9110 :: .i2l :: .invokevirtual 2323 :: sg_148_13_1),
  (42, none, .iload 1 :: .ireturn :: [])]
theorem ts_148 : bs_148.all (fun q => chk 148 q.1 q.2.2) = true := by decide +kernel
/-- C.firstPairFights -/
def sg_149_17_1 : List Instr := .ifCond .lt 49 :: .return_ :: []
def bs_149 : Tb := [
  (0, none, .iconst 0 :: .istore 1 :: .goto_w 2 :: []),
  (2, some [0, 1], .iload 1 :: .aload 0 :: .getfield 2067 :: .getfield 1280 :: .if_icmp .ge 61 :: .iload 1 :: .iconst 1 :: .iadd :: .istore 2 :: .goto_w 17 :: []),
  (17, some [0, 1, 2], .iload 2 :: .aload 0 :: .getfield 2067 :: .getfield 1280 :: .if_icmp .ge 55 :: .aload 0 :: .getfield 2067 :: .aload 0 :: .getfield 2098 :: .aload 0 :: .getfield 2104 :: .iload 1 :: .iload 2 :: .invokevirtual 8133 :: sg_149_17_1),
  (49, none, .iinc 2 1 :: .goto 17 :: []),
  (55, none, .iinc 1 1 :: .goto 2 :: []),
  (61, none, .return_ :: [])]
theorem ts_149 : bs_149.all (fun q => chk 149 q.1 q.2.2) = true := by decide +kernel
/-- C.lesserWins -/
def sg_150_20_1 : List Instr := .iload 3 :: .if_icmp .ne 52 :: .iconst 1 :: .goto 53 :: []
def bs_150 : Tb := [
  (0, none, .iconst 0 :: .istore 2 :: .iconst 0 :: .istore 3 :: .goto_w 4 :: []),
  (4, some [0, 1, 2, 3], .iload 3 :: .aload 0 :: .getfield 2059 :: .getfield 1280 :: .if_icmp .ge 67 :: .iload 3 :: .iconst 1 :: .iadd :: .istore 4 :: .goto_w 20 :: []),
  (20, some [0, 1, 2, 3, 4], .iload 4 :: .aload 0 :: .getfield 2059 :: .getfield 1280 :: .if_icmp .ge 61 :: .iload 2 :: .aload 0 :: .getfield 2059 :: .aload 1 :: .iload 3 :: .iload 4 :: .invokevirtual 7989 :: sg_150_20_1),
  (52, none, .iconst 0 :: .iadd :: .istore 2 :: .iinc 4 1 :: .goto 20 :: []),
  (53, none, .iadd :: .istore 2 :: .iinc 4 1 :: .goto 20 :: []),
  (61, none, .iinc 3 1 :: .goto 4 :: []),
  (67, none, .iload 2 :: .ireturn :: [])]
theorem ts_150 : bs_150.all (fun q => chk 150 q.1 q.2.2) = true := by decide +kernel
/-- C.yearGoesBy -/
def sg_151_0_2 : List Instr := .goto 94 :: []
def sg_151_0_1 : List Instr := .istore 1 :: .iload 1 :: .ifCond .ne 21 :: .aload 0 :: .getfield 2067 :: .iconst 1 :: .invokevirtual 8341 :: sg_151_0_2
def sg_151_21_3 : List Instr := .pop :: .goto 94 :: []
def sg_151_21_2 : List Instr := .iconst 1 :: .invokevirtual 8629 :: sg_151_21_3
def sg_151_21_1 : List Instr := .istore 2 :: .iload 1 :: .iconst 3 :: .if_icmp .ne 66 :: .aload 0 :: .getfield 2067 :: .iload 2 :: .aload 0 :: .iconst 4 :: .invokevirtual 19480 :: sg_151_21_2
def sg_151_66_2 : List Instr := .pop :: .return_ :: []
def sg_151_66_1 : List Instr := .invokevirtual 8133 :: sg_151_66_2
def bs_151 : Tb := [
  (0, none, .aload 0 :: .iconst 4 :: .invokevirtual 19480 :: sg_151_0_1),
  (21, none, .aload 0 :: .getfield 2067 :: .getfield 1280 :: .ifCond .le 94 :: .aload 0 :: .aload 0 :: .getfield 2067 :: .getfield 1280 :: .invokevirtual 19480 :: sg_151_21_1),
  (66, none, .aload 0 :: .getfield 2067 :: .aload 0 :: .getfield 2098 :: .aload 0 :: .getfield 2104 :: .iload 2 :: .aload 0 :: .aload 0 :: .getfield 2067 :: .getfield 1280 :: .invokevirtual 19480 :: sg_151_66_1),
  (94, none, .return_ :: [])]
theorem ts_151 : bs_151.all (fun q => chk 151 q.1 q.2.2) = true := by decide +kernel
/-- M.beginText -/
def sg_180_0_1 : List Instr := .aload 0 :: .iconst 0 :: .putfield 2324 :: .return_ :: []
def bs_180 : Tb := [
  (0, none, .aload 0 :: .aload 0 :: .getfield 2323 :: .aload 0 :: .getfield 2324 :: .iload 1 :: .invokevirtual 22969 :: sg_180_0_1)]
theorem ts_180 : bs_180.all (fun q => chk 180 q.1 q.2.2) = true := by decide +kernel
/-- M.need -/
def sg_185_0_2 : List Instr := .return_ :: []
def sg_185_0_1 : List Instr := .ifCond .ne 16 :: .aload 0 :: .aload 0 :: .getfield 2352 :: .invokevirtual 23449 :: sg_185_0_2
def bs_185 : Tb := [
  (0, none, .aload 0 :: .iload 1 :: .invokevirtual 23577 :: sg_185_0_1),
  (16, none, .return_ :: [])]
theorem ts_185 : bs_185.all (fun q => chk 185 q.1 q.2.2) = true := by decide +kernel
/-- M.oneOf -/
def sg_186_9_1 : List Instr := .iconst 0 :: .ireturn :: []
def bs_186 : Tb := [
  (0, none, .aload 0 :: .invokevirtual 23305 :: .ifCond .ne 9 :: .iconst 0 :: .ireturn :: []),
  (9, none, .aload 0 :: .invokevirtual 23177 :: .iload 1 :: .iload 1 :: .iload 2 :: .iadd :: .iconst 1 :: .isub :: .invokestatic 21424 :: .ifCond .ne 35 :: .aload 0 :: .aload 0 :: .getfield 2352 :: .invokevirtual 23449 :: sg_186_9_1),
  (35, none, .aload 0 :: .dup :: .getfield 2352 :: .iconst 1 :: .iadd :: .putfield 2352 :: .aload 0 :: .getfield 2342 :: .aload 0 :: .getfield 2352 :: .iconst 1 :: .isub :: .baload :: .iload 1 :: .isub :: .ireturn :: [])]
theorem ts_186 : bs_186.all (fun q => chk 186 q.1 q.2.2) = true := by decide +kernel
/-- M.number -/
def sg_187_0_1 : List Instr := .istore 2 :: .iconst 1 :: .istore 3 :: .goto_w 11 :: []
def sg_187_11_1 : List Instr := .iadd :: .istore 2 :: .iinc 3 1 :: .goto 11 :: []
def bs_187 : Tb := [
  (0, none, .aload 0 :: .iconst 48 :: .iconst 10 :: .invokevirtual 23849 :: sg_187_0_1),
  (11, some [0, 1, 2, 3], .iload 3 :: .iload 1 :: .if_icmp .ge 57 :: .aload 0 :: .invokevirtual 23305 :: .ifCond .eq 57 :: .aload 0 :: .invokevirtual 23177 :: .iconst 48 :: .iconst 57 :: .invokestatic 21424 :: .ifCond .eq 57 :: .iconst 10 :: .iload 2 :: .imul :: .aload 0 :: .iconst 48 :: .iconst 10 :: .invokevirtual 23849 :: sg_187_11_1),
  (57, none, .iload 2 :: .ireturn :: [])]
theorem ts_187 : bs_187.all (fun q => chk 187 q.1 q.2.2) = true := by decide +kernel
/-- M.wasRight -/
def sg_188_0_1 : List Instr := .aload 0 :: .invokevirtual 23305 :: .freturn :: []
def bs_188 : Tb := [
  (0, none, .aload 0 :: .getfield 2352 :: .aload 0 :: .getfield 2344 :: .if_icmp .ge 19 :: .aload 0 :: .aload 0 :: .getfield 2352 :: .invokevirtual 23449 :: sg_188_0_1),
  (19, none, .aload 0 :: .invokevirtual 23305 :: .freturn :: [])]
theorem ts_188 : bs_188.all (fun q => chk 188 q.1 q.2.2) = true := by decide +kernel
/-- M.ships -/
def sg_189_0_1 : List Instr := .aload 0 :: .getfield 2344 :: .ifCond .ne 20 :: .iconst 0 :: .ireturn :: []
def sg_189_24_1 : List Instr := .goto 92 :: []
def sg_189_57_3 : List Instr := .istore 2 :: .goto 24 :: []
def sg_189_57_2 : List Instr := .iconst 1 :: .iadd :: .iastore :: .iinc 1 1 :: .aload 0 :: .iconst 59 :: .invokevirtual 23577 :: sg_189_57_3
def sg_189_57_1 : List Instr := .iastore :: .aload 0 :: .getfield 2363 :: .iconst 2 :: .iload 1 :: .imul :: .iconst 1 :: .iadd :: .aload 0 :: .iconst 49 :: .iconst 9 :: .invokevirtual 23849 :: sg_189_57_2
def sg_189_92_1 : List Instr := .istore 2 :: .goto 24 :: []
def sg_189_105_1 : List Instr := .ifCond .ne 119 :: .iconst (-1) :: .aload 0 :: .getfield 2356 :: .isub :: .ireturn :: []
def bs_189 : Tb := [
  (0, none, .aload 0 :: .iconst 0 :: .putfield 2336 :: .aload 0 :: .iconst 17 :: .invokevirtual 23065 :: sg_189_0_1),
  (20, none, .iconst 0 :: .istore 1 :: .iconst 1 :: .istore 2 :: .goto_w 24 :: []),
  (24, some [0, 1, 2], .iload 2 :: .ifCond .eq 105 :: .aload 0 :: .invokevirtual 23305 :: .ifCond .eq 105 :: .aload 0 :: .getfield 2308 :: .iload 1 :: .iadd :: .iconst 6 :: .if_icmp .ne 57 :: .aload 0 :: .aload 0 :: .getfield 2352 :: .invokevirtual 23449 :: sg_189_24_1),
  (57, none, .aload 0 :: .getfield 2363 :: .iconst 2 :: .iload 1 :: .imul :: .aload 0 :: .iconst 97 :: .iconst 4 :: .invokevirtual 23849 :: sg_189_57_1),
  (92, none, .iinc 1 1 :: .aload 0 :: .iconst 59 :: .invokevirtual 23577 :: sg_189_92_1),
  (105, none, .aload 0 :: .invokevirtual 24073 :: sg_189_105_1),
  (119, none, .iconst 0 :: .istore 3 :: .goto_w 121 :: []),
  (121, some [0, 1, 3], .iload 3 :: .iload 1 :: .if_icmp .ge 276 :: .aload 0 :: .getfield 2319 :: .aload 0 :: .getfield 2308 :: .aload 0 :: .getfield 2363 :: .iconst 2 :: .iload 3 :: .imul :: .iconst 1 :: .iadd :: .iaload :: .iastore :: .aload 0 :: .getfield 2307 :: .aload 0 :: .getfield 2308 :: .aload 0 :: .getfield 2319 :: .aload 0 :: .getfield 2308 :: .iaload :: .iastore :: .aload 0 :: .getfield 2307 :: .iconst 6 :: .aload 0 :: .getfield 2308 :: .iadd :: .aload 0 :: .getfield 2363 :: .iconst 2 :: .iload 3 :: .imul :: .iaload :: .iastore :: .iconst 0 :: .istore 4 :: .goto_w 186 :: []),
  (186, some [0, 1, 3, 4], .iload 4 :: .iconst 4 :: .if_icmp .ge 234 :: .aload 0 :: .getfield 2307 :: .iconst 12 :: .iconst 4 :: .aload 0 :: .getfield 2308 :: .imul :: .iadd :: .iload 4 :: .iadd :: .iload 4 :: .aload 0 :: .getfield 2363 :: .iconst 2 :: .iload 3 :: .imul :: .iaload :: .if_icmp .ne 226 :: .iconst 12 :: .goto 227 :: []),
  (226, none, .iconst 0 :: .iastore :: .iinc 4 1 :: .goto 186 :: []),
  (227, none, .iastore :: .iinc 4 1 :: .goto 186 :: []),
  (234, none, .aload 0 :: .getfield 2307 :: .iconst 36 :: .aload 0 :: .getfield 2308 :: .iadd :: .iconst 0 :: .iastore :: .aload 0 :: .getfield 2307 :: .iconst 42 :: .aload 0 :: .getfield 2308 :: .iadd :: .iconst 0 :: .iastore :: .aload 0 :: .dup :: .getfield 2308 :: .iconst 1 :: .iadd :: .putfield 2308 :: .iinc 3 1 :: .goto 121 :: []),
  (276, none, .aload 0 :: .iconst 0 :: .putfield 2388 :: .aload 0 :: .dup :: .getfield 2452 :: .iconst 1 :: .iadd :: .putfield 2452 :: .iload 1 :: .ireturn :: [])]
theorem ts_189 : bs_189.all (fun q => chk 189 q.1 q.2.2) = true := by decide +kernel
/-- M.held -/
def sg_190_0_3 : List Instr := .if_icmp .ge 28 :: .iconst 1 :: .goto 29 :: []
def sg_190_0_2 : List Instr := .ifCond .eq 30 :: .iload 2 :: .aload 0 :: .iload 1 :: .invokevirtual 24473 :: sg_190_0_3
def sg_190_0_1 : List Instr := .istore 2 :: .aload 0 :: .iconst 60 :: .invokevirtual 23577 :: sg_190_0_2
def sg_190_30_2 : List Instr := .if_icmp .le 52 :: .iconst 1 :: .goto 53 :: []
def sg_190_30_1 : List Instr := .ifCond .eq 54 :: .iload 2 :: .aload 0 :: .iload 1 :: .invokevirtual 24473 :: sg_190_30_2
def sg_190_54_2 : List Instr := .if_icmp .ne 76 :: .iconst 1 :: .goto 77 :: []
def sg_190_54_1 : List Instr := .ifCond .eq 78 :: .iload 2 :: .aload 0 :: .iload 1 :: .invokevirtual 24473 :: sg_190_54_2
def bs_190 : Tb := [
  (0, none, .aload 0 :: .iload 1 :: .invokevirtual 24473 :: sg_190_0_1),
  (28, none, .iconst 0 :: .ireturn :: []),
  (29, none, .ireturn :: []),
  (30, none, .aload 0 :: .iconst 62 :: .invokevirtual 23577 :: sg_190_30_1),
  (52, none, .iconst 0 :: .ireturn :: []),
  (53, none, .ireturn :: []),
  (54, none, .aload 0 :: .iconst 61 :: .invokevirtual 23577 :: sg_190_54_1),
  (76, none, .iconst 0 :: .ireturn :: []),
  (77, none, .ireturn :: []),
  (78, none, .iload 2 :: .ireturn :: [])]
theorem ts_190 : bs_190.all (fun q => chk 190 q.1 q.2.2) = true := by decide +kernel
/-- M.sum -/
def sg_191_0_1 : List Instr := .istore 2 :: .goto_w 6 :: []
def sg_191_44_1 : List Instr := .istore 4 :: .iload 3 :: .ifCond .eq 74 :: .iload 2 :: .iload 4 :: .iadd :: .goto 78 :: []
def sg_191_45_1 : List Instr := .istore 4 :: .iload 3 :: .ifCond .eq 74 :: .iload 2 :: .iload 4 :: .iadd :: .goto 78 :: []
def bs_191 : Tb := [
  (0, none, .aload 0 :: .iload 1 :: .invokevirtual 24601 :: sg_191_0_1),
  (6, some [0, 1, 2], .aload 0 :: .invokevirtual 23305 :: .ifCond .eq 82 :: .aload 0 :: .invokevirtual 23177 :: .iconst 43 :: .if_icmp .eq 31 :: .aload 0 :: .invokevirtual 23177 :: .iconst 45 :: .if_icmp .ne 82 :: .aload 0 :: .invokevirtual 23177 :: .iconst 43 :: .if_icmp .ne 44 :: .iconst 1 :: .goto 45 :: []),
  (31, none, .aload 0 :: .invokevirtual 23177 :: .iconst 43 :: .if_icmp .ne 44 :: .iconst 1 :: .goto 45 :: []),
  (44, none, .iconst 0 :: .istore 3 :: .aload 0 :: .dup :: .getfield 2352 :: .iconst 1 :: .iadd :: .putfield 2352 :: .aload 0 :: .iload 1 :: .invokevirtual 24601 :: sg_191_44_1),
  (45, none, .istore 3 :: .aload 0 :: .dup :: .getfield 2352 :: .iconst 1 :: .iadd :: .putfield 2352 :: .aload 0 :: .iload 1 :: .invokevirtual 24601 :: sg_191_45_1),
  (74, none, .iload 2 :: .iload 4 :: .isub :: .istore 2 :: .goto 6 :: []),
  (78, none, .istore 2 :: .goto 6 :: []),
  (82, none, .iload 2 :: .ireturn :: [])]
theorem ts_191 : bs_191.all (fun q => chk 191 q.1 q.2.2) = true := by decide +kernel
