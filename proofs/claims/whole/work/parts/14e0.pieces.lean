/-! code lists in pieces, cut behind calls that change memory -/
/-- Past.adds -/
def sg_14_0_1 : List Instr := .aload 0 :: .dup :: .getfield 520 :: .iconst 1 :: .iadd :: .putfield 520 :: .return_ :: []
def sg_14_32_1 : List Instr := .aload 0 :: .dup :: .getfield 520 :: .iconst 1 :: .iadd :: .putfield 520 :: .return_ :: []
def bs_14 : Tb := [
  (0, none, .aload 0 :: .getfield 520 :: .iconst 12 :: .if_icmp .ne 32 :: .aload 0 :: .aload 0 :: .getfield 516 :: .iconst 1 :: .iadd :: .iconst 12 :: .irem :: .putfield 516 :: .aload 0 :: .dup :: .getfield 520 :: .iconst 1 :: .isub :: .putfield 520 :: .aload 0 :: .aload 0 :: .getfield 520 :: .invokevirtual 1682 :: .astore 2 :: .aload 2 :: .ifnull 60 :: .aload 2 :: .aload 1 :: .invokevirtual 5141 :: sg_14_0_1),
  (32, none, .aload 0 :: .aload 0 :: .getfield 520 :: .invokevirtual 1682 :: .astore 2 :: .aload 2 :: .ifnull 60 :: .aload 2 :: .aload 1 :: .invokevirtual 5141 :: sg_14_32_1),
  (60, none, .return_ :: [])]
theorem ts_14 : bs_14.all (fun q => chk 14 q.1 q.2.2) = true := by decide +kernel
/-- Past.returns -/
def sg_15_28_1 : List Instr := .aload 0 :: .dup :: .getfield 520 :: .iconst 1 :: .isub :: .putfield 520 :: .iconst 1 :: .freturn :: []
def bs_15 : Tb := [
  (0, none, .aload 0 :: .getfield 520 :: .ifCond .le 20 :: .aload 0 :: .aload 0 :: .getfield 520 :: .iconst 1 :: .isub :: .invokevirtual 1682 :: .goto 21 :: []),
  (20, none, .aconst_null :: .astore 2 :: .aload 2 :: .ifnonnull 28 :: .iconst 0 :: .freturn :: []),
  (21, none, .astore 2 :: .aload 2 :: .ifnonnull 28 :: .iconst 0 :: .freturn :: []),
  (28, none, .aload 1 :: .aload 2 :: .invokevirtual 5141 :: sg_15_28_1)]
theorem ts_15 : bs_15.all (fun q => chk 15 q.1 q.2.2) = true := by decide +kernel
/-- Row.addsFraction -/
def sg_19_0_2 : List Instr := .return_ :: []
def sg_19_0_1 : List Instr := .aload 0 :: .lload 3 :: .lload 5 :: .ldiv :: .invokevirtual 2323 :: sg_19_0_2
def bs_19 : Tb := [
  (0, none, .lload 1 :: .lload 3 :: .invokestatic 2592 :: .lstore 5 :: .lload 5 :: .ldc2_w 0 :: .lcmp :: .ifCond .eq 30 :: .aload 0 :: .lload 1 :: .lload 5 :: .ldiv :: .invokevirtual 2323 :: sg_19_0_1),
  (30, none, .return_ :: [])]
theorem ts_19 : bs_19.all (fun q => chk 19 q.1 q.2.2) = true := by decide +kernel
/-- Rule.reads -/
def sg_24_40_1 : List Instr := .ifCond .eq 85 :: .goto 88 :: []
def sg_24_74_1 : List Instr := .ifCond .ne 88 :: .iload 4 :: .ireturn :: []
def sg_24_119_1 : List Instr := .iconst (-1) :: .ireturn :: []
def bs_24 : Tb := [
  (0, none, .aload 0 :: .iconst 0 :: .putfield 1036 :: .aload 0 :: .iconst 0 :: .putfield 1040 :: .aload 0 :: .iconst 0 :: .putfield 1044 :: .aload 0 :: .iconst 0 :: .putfield 1048 :: .aload 0 :: .iconst 0 :: .putfield 1052 :: .aload 0 :: .iconst 1 :: .putfield 1057 :: .iload 2 :: .iconst 40 :: .invokestatic 37024 :: .istore 3 :: .iconst 0 :: .istore 4 :: .goto_w 40 :: []),
  (40, some [0, 1, 2, 3, 4], .iload 4 :: .iload 3 :: .if_icmp .ge 94 :: .iload 4 :: .aload 1 :: .arraylength :: .if_icmp .ge 94 :: .aload 0 :: .getfield 1057 :: .ifCond .eq 74 :: .aload 0 :: .aload 1 :: .iload 4 :: .daload :: .invokevirtual 3220 :: sg_24_40_1),
  (74, none, .aload 0 :: .aload 1 :: .iload 4 :: .daload :: .invokevirtual 3348 :: sg_24_74_1),
  (85, none, .iload 4 :: .ireturn :: []),
  (88, none, .iinc 4 1 :: .goto 40 :: []),
  (94, none, .aload 0 :: .getfield 1057 :: .ifCond .ne 108 :: .aload 0 :: .getfield 1044 :: .ifCond .le 110 :: .iload 3 :: .ireturn :: []),
  (108, none, .iload 3 :: .ireturn :: []),
  (110, none, .iload 2 :: .iconst 40 :: .if_icmp .le 119 :: .iconst 40 :: .ireturn :: []),
  (119, none, .aload 0 :: .iconst 1 :: .invokevirtual 4244 :: sg_24_119_1)]
theorem ts_24 : bs_24.all (fun q => chk 24 q.1 q.2.2) = true := by decide +kernel
/-- Rule.beginsThing -/
def sg_25_0_1 : List Instr := .aload 0 :: .iconst 1 :: .putfield 1052 :: .aload 0 :: .iconst 0 :: .putfield 1057 :: .iconst 1 :: .freturn :: []
def sg_25_27_1 : List Instr := .aload 0 :: .iconst 0 :: .putfield 1052 :: .aload 0 :: .iconst 0 :: .putfield 1057 :: .iconst 1 :: .freturn :: []
def sg_25_55_1 : List Instr := .iconst 1 :: .freturn :: []
def sg_25_85_1 : List Instr := .aload 0 :: .dup :: .getfield 1044 :: .iconst 1 :: .iadd :: .putfield 1044 :: .aload 0 :: .dup :: .getfield 1048 :: .iconst 1 :: .aload 0 :: .getfield 1044 :: .ishl :: .iconst (-1) :: .ixor :: .iand :: .putfield 1048 :: .iconst 1 :: .freturn :: []
def bs_25 : Tb := [
  (0, none, .iload 1 :: .invokestatic 18192 :: .ifCond .eq 27 :: .aload 0 :: .iload 1 :: .iconst 48 :: .isub :: .invokevirtual 3988 :: sg_25_0_1),
  (27, none, .iload 1 :: .invokestatic 3728 :: .ifCond .eq 55 :: .aload 0 :: .iconst 1000 :: .iload 1 :: .iadd :: .invokevirtual 3988 :: sg_25_27_1),
  (55, none, .iload 1 :: .iconst 45 :: .if_icmp .ne 69 :: .aload 0 :: .iconst 126 :: .invokevirtual 4116 :: sg_25_55_1),
  (69, none, .iload 1 :: .iconst 40 :: .if_icmp .ne 83 :: .aload 0 :: .getfield 1044 :: .iconst 4 :: .if_icmp .lt 85 :: .iconst 0 :: .freturn :: []),
  (83, none, .iconst 0 :: .freturn :: []),
  (85, none, .aload 0 :: .iload 1 :: .invokevirtual 4116 :: sg_25_85_1)]
theorem ts_25 : bs_25.all (fun q => chk 25 q.1 q.2.2) = true := by decide +kernel
/-- Rule.comesBehind -/
def sg_26_0_1 : List Instr := .freturn :: []
def sg_26_16_1 : List Instr := .freturn :: []
def sg_26_65_2 : List Instr := .aload 0 :: .iconst 1 :: .putfield 1057 :: .iconst 1 :: .freturn :: []
def sg_26_65_1 : List Instr := .aload 0 :: .iload 1 :: .invokevirtual 4116 :: sg_26_65_2
def sg_26_80_2 : List Instr := .aload 0 :: .iconst 1 :: .putfield 1057 :: .iconst 1 :: .freturn :: []
def sg_26_80_1 : List Instr := .aload 0 :: .iload 1 :: .invokevirtual 4116 :: sg_26_80_2
def bs_26 : Tb := [
  (0, none, .iload 1 :: .invokestatic 18192 :: .ifCond .eq 16 :: .aload 0 :: .iload 1 :: .iconst 48 :: .isub :: .invokevirtual 3476 :: sg_26_0_1),
  (16, none, .iload 1 :: .iconst 41 :: .if_icmp .ne 27 :: .aload 0 :: .invokevirtual 3588 :: sg_26_16_1),
  (27, none, .iload 1 :: .invokestatic 3856 :: .istore 2 :: .iload 2 :: .ifCond .eq 42 :: .iload 1 :: .iconst 126 :: .if_icmp .ne 44 :: .iconst 0 :: .freturn :: []),
  (42, none, .iconst 0 :: .freturn :: []),
  (44, none, .iload 2 :: .iconst 1 :: .if_icmp .ne 80 :: .aload 0 :: .getfield 1048 :: .iconst 1 :: .aload 0 :: .getfield 1044 :: .ishl :: .iand :: .ifCond .eq 65 :: .iconst 0 :: .freturn :: []),
  (65, none, .aload 0 :: .dup :: .getfield 1048 :: .iconst 1 :: .aload 0 :: .getfield 1044 :: .ishl :: .ior :: .putfield 1048 :: .aload 0 :: .iload 2 :: .invokevirtual 4244 :: sg_26_65_1),
  (80, none, .aload 0 :: .iload 2 :: .invokevirtual 4244 :: sg_26_80_1)]
theorem ts_26 : bs_26.all (fun q => chk 26 q.1 q.2.2) = true := by decide +kernel
/-- Rule.closes -/
def sg_28_9_1 : List Instr := .aload 0 :: .getfield 1040 :: .ifCond .le 31 :: .aload 0 :: .dup :: .getfield 1040 :: .iconst 1 :: .isub :: .putfield 1040 :: .aload 0 :: .dup :: .getfield 1044 :: .iconst 1 :: .isub :: .putfield 1044 :: .aload 0 :: .iconst 0 :: .putfield 1052 :: .iconst 1 :: .freturn :: []
def bs_28 : Tb := [
  (0, none, .aload 0 :: .getfield 1044 :: .ifCond .ne 9 :: .iconst 0 :: .freturn :: []),
  (9, none, .aload 0 :: .iconst 1 :: .invokevirtual 4244 :: sg_28_9_1),
  (31, none, .aload 0 :: .dup :: .getfield 1044 :: .iconst 1 :: .isub :: .putfield 1044 :: .aload 0 :: .iconst 0 :: .putfield 1052 :: .iconst 1 :: .freturn :: [])]
theorem ts_28 : bs_28.all (fun q => chk 28 q.1 q.2.2) = true := by decide +kernel
/-- Rule.joins -/
def sg_33_7_1 : List Instr := .aload 0 :: .iload 2 :: .putfield 1040 :: .iinc 2 (-1) :: .goto 7 :: []
def bs_33 : Tb := [
  (0, none, .aload 0 :: .getfield 1040 :: .iconst 1 :: .isub :: .istore 2 :: .goto_w 7 :: []),
  (7, some [0, 1, 2], .iload 2 :: .ifCond .lt 58 :: .iload 2 :: .aload 0 :: .getfield 1031 :: .arraylength :: .if_icmp .ge 58 :: .aload 0 :: .getfield 1031 :: .iload 2 :: .caload :: .invokestatic 3856 :: .iload 1 :: .if_icmp .lt 58 :: .aload 0 :: .iconst 1000 :: .aload 0 :: .getfield 1031 :: .iload 2 :: .caload :: .iadd :: .invokevirtual 3988 :: sg_33_7_1),
  (58, none, .return_ :: [])]
theorem ts_33 : bs_33.all (fun q => chk 33 q.1 q.2.2) = true := by decide +kernel
/-- Rule.measures -/
def sg_34_6_1 : List Instr := .istore 4 :: .goto 105 :: []
def sg_34_55_1 : List Instr := .istore 4 :: .goto 105 :: []
def sg_34_91_1 : List Instr := .istore 4 :: .iinc 5 1 :: .goto 6 :: []
def bs_34 : Tb := [
  (0, none, .iconst 0 :: .istore 4 :: .iconst 0 :: .istore 5 :: .goto_w 6 :: []),
  (6, some [0, 1, 2, 3, 4, 5], .iload 5 :: .aload 0 :: .getfield 1036 :: .if_icmp .ge 111 :: .iload 5 :: .aload 0 :: .getfield 1027 :: .arraylength :: .if_icmp .ge 111 :: .aload 0 :: .getfield 1027 :: .iload 5 :: .iaload :: .istore 6 :: .iload 6 :: .iconst 1000 :: .if_icmp .ge 55 :: .aload 0 :: .iload 4 :: .iload 6 :: .invokevirtual 4516 :: sg_34_6_1),
  (55, none, .iload 6 :: .iconst 1000 :: .isub :: .i2c :: .invokestatic 3728 :: .ifCond .eq 91 :: .aload 0 :: .iload 4 :: .iload 6 :: .iconst 1000 :: .isub :: .aload 1 :: .iload 2 :: .iload 3 :: .invokestatic 4928 :: .invokevirtual 4516 :: sg_34_55_1),
  (91, none, .aload 0 :: .iload 4 :: .iload 6 :: .iconst 1000 :: .isub :: .invokevirtual 4644 :: sg_34_91_1),
  (105, none, .iinc 5 1 :: .goto 6 :: []),
  (111, none, .aload 0 :: .getfield 1035 :: .iconst 0 :: .iaload :: .ireturn :: [])]
theorem ts_34 : bs_34.all (fun q => chk 34 q.1 q.2.2) = true := by decide +kernel
/-- Sea.joins -/
def sg_57_23_1 : List Instr := .return_ :: []
def bs_57 : Tb := [
  (0, none, .aload 0 :: .getfield 1280 :: .istore 3 :: .iload 3 :: .ifCond .lt 22 :: .iload 3 :: .iconst 6 :: .if_icmp .ge 22 :: .iload 1 :: .invokestatic 18448 :: .ifCond .ne 23 :: .return_ :: []),
  (22, none, .return_ :: []),
  (23, none, .aload 0 :: .dup :: .getfield 1280 :: .iconst 1 :: .iadd :: .putfield 1280 :: .aload 0 :: .getfield 1295 :: .iload 3 :: .iload 2 :: .iastore :: .aload 0 :: .getfield 1299 :: .iload 3 :: .iload 2 :: .iastore :: .aload 0 :: .getfield 1307 :: .iload 3 :: .iconst 0 :: .iastore :: .aload 0 :: .getfield 1311 :: .iload 3 :: .iconst 0 :: .iastore :: .aload 0 :: .iload 3 :: .iload 1 :: .invokevirtual 7461 :: sg_57_23_1)]
theorem ts_57 : bs_57.all (fun q => chk 57 q.1 q.2.2) = true := by decide +kernel
/-- Sea.winner -/
def sg_62_27_2 : List Instr := .istore 5 :: .iload 4 :: .iload 5 :: .if_icmp .ne 57 :: .iconst (-3) :: .goto 69 :: []
def sg_62_27_1 : List Instr := .istore 4 :: .aload 1 :: .aload 0 :: .iload 3 :: .iload 2 :: .invokevirtual 4404 :: sg_62_27_2
def bs_62 : Tb := [
  (0, none, .aload 0 :: .iload 2 :: .iload 3 :: .invokevirtual 5413 :: .ifCond .ne 11 :: .iconst (-1) :: .ireturn :: []),
  (11, none, .aload 0 :: .iload 2 :: .invokevirtual 5781 :: .aload 0 :: .iload 3 :: .invokevirtual 5781 :: .if_icmp .ne 27 :: .iconst (-2) :: .ireturn :: []),
  (27, none, .aload 1 :: .aload 0 :: .iload 2 :: .iload 3 :: .invokevirtual 4404 :: sg_62_27_1),
  (57, none, .iload 4 :: .iload 5 :: .if_icmp .le 68 :: .iload 2 :: .goto 69 :: []),
  (68, none, .iload 3 :: .ireturn :: []),
  (69, none, .ireturn :: [])]
theorem ts_62 : bs_62.all (fun q => chk 62 q.1 q.2.2) = true := by decide +kernel
/-- Sea.battle -/
def sg_63_0_1 : List Instr := .istore 5 :: .iload 5 :: .ifCond .lt 34 :: .aload 0 :: .iload 5 :: .iload 5 :: .iload 3 :: .if_icmp .ne 29 :: .iload 4 :: .goto 30 :: []
def sg_63_29_1 : List Instr := .iload 5 :: .ireturn :: []
def sg_63_30_1 : List Instr := .iload 5 :: .ireturn :: []
def bs_63 : Tb := [
  (0, none, .aload 0 :: .aload 1 :: .iload 3 :: .iload 4 :: .invokevirtual 7989 :: sg_63_0_1),
  (29, none, .iload 3 :: .iload 2 :: .invokevirtual 8245 :: sg_63_29_1),
  (30, none, .iload 2 :: .invokevirtual 8245 :: sg_63_30_1),
  (34, none, .iload 5 :: .ireturn :: [])]
theorem ts_63 : bs_63.all (fun q => chk 63 q.1 q.2.2) = true := by decide +kernel
/-- Sea.strikesTo -/
def sg_64_10_3 : List Instr := .return_ :: []
def sg_64_10_2 : List Instr := .aload 0 :: .iload 2 :: .invokevirtual 7829 :: sg_64_10_3
def sg_64_10_1 : List Instr := .aload 0 :: .getfield 1307 :: .iload 1 :: .aload 0 :: .getfield 1307 :: .iload 1 :: .iaload :: .iconst 1 :: .iadd :: .iconst 99 :: .invokestatic 37024 :: .iastore :: .aload 0 :: .getfield 1299 :: .iload 2 :: .aload 0 :: .getfield 1299 :: .iload 2 :: .iaload :: .iconst 1 :: .isub :: .iconst 0 :: .invokestatic 36896 :: .iastore :: .aload 0 :: .getfield 1311 :: .iload 2 :: .aload 0 :: .getfield 1311 :: .iload 2 :: .iaload :: .iconst 1 :: .iadd :: .iconst 99 :: .invokestatic 37024 :: .iastore :: .aload 0 :: .iload 1 :: .invokevirtual 7829 :: sg_64_10_2
def bs_64 : Tb := [
  (0, none, .aload 0 :: .iload 1 :: .iload 2 :: .invokevirtual 5413 :: .ifCond .ne 10 :: .return_ :: []),
  (10, none, .aload 0 :: .iload 1 :: .invokevirtual 5781 :: .istore 4 :: .aload 0 :: .iload 1 :: .iload 4 :: .aload 0 :: .iload 2 :: .invokevirtual 5781 :: .iload 3 :: .aload 0 :: .iload 1 :: .iload 4 :: .invokevirtual 6181 :: .invokestatic 37024 :: .invokevirtual 7749 :: sg_64_10_1)]
theorem ts_64 : bs_64.all (fun q => chk 64 q.1 q.2.2) = true := by decide +kernel
/-- Sea.dawns -/
def sg_65_9_2 : List Instr := .iinc 3 1 :: .goto 9 :: []
def sg_65_9_1 : List Instr := .aload 0 :: .iload 3 :: .invokevirtual 8469 :: sg_65_9_2
def bs_65 : Tb := [
  (0, none, .iconst 0 :: .istore 2 :: .goto_w 2 :: []),
  (2, some [0, 1, 2], .iload 2 :: .iload 1 :: .if_icmp .ge 56 :: .iconst 0 :: .istore 3 :: .goto_w 9 :: []),
  (9, some [0, 1, 2, 3], .iload 3 :: .aload 0 :: .getfield 1280 :: .if_icmp .ge 40 :: .aload 0 :: .iload 3 :: .aload 0 :: .iload 3 :: .invokevirtual 5653 :: .iconst 1 :: .iadd :: .invokevirtual 7589 :: sg_65_9_1),
  (40, none, .aload 0 :: .dup :: .getfield 1284 :: .iconst 1 :: .iadd :: .putfield 1284 :: .iinc 2 1 :: .goto 2 :: []),
  (56, none, .return_ :: [])]
theorem ts_65 : bs_65.all (fun q => chk 65 q.1 q.2.2) = true := by decide +kernel
/-- Sea.mendsFlag -/
def sg_66_67_1 : List Instr := .return_ :: []
def bs_66 : Tb := [
  (0, none, .iconst (-1) :: .istore 2 :: .iconst 0 :: .istore 3 :: .goto_w 4 :: []),
  (4, some [0, 1, 2, 3], .iload 3 :: .iconst 4 :: .if_icmp .ge 67 :: .iload 3 :: .aload 0 :: .iload 1 :: .invokevirtual 5781 :: .if_icmp .eq 31 :: .aload 0 :: .iload 1 :: .iload 3 :: .invokevirtual 6181 :: .ifCond .le 31 :: .iconst 1 :: .goto 32 :: []),
  (31, none, .iconst 0 :: .istore 4 :: .iload 4 :: .ifCond .eq 61 :: .iload 2 :: .iconst (-1) :: .if_icmp .eq 59 :: .aload 0 :: .iload 1 :: .iload 3 :: .invokevirtual 6181 :: .aload 0 :: .iload 1 :: .iload 2 :: .invokevirtual 6181 :: .if_icmp .ge 61 :: .iload 3 :: .istore 2 :: .iinc 3 1 :: .goto 4 :: []),
  (32, none, .istore 4 :: .iload 4 :: .ifCond .eq 61 :: .iload 2 :: .iconst (-1) :: .if_icmp .eq 59 :: .aload 0 :: .iload 1 :: .iload 3 :: .invokevirtual 6181 :: .aload 0 :: .iload 1 :: .iload 2 :: .invokevirtual 6181 :: .if_icmp .ge 61 :: .iload 3 :: .istore 2 :: .iinc 3 1 :: .goto 4 :: []),
  (59, none, .iload 3 :: .istore 2 :: .iinc 3 1 :: .goto 4 :: []),
  (61, none, .iinc 3 1 :: .goto 4 :: []),
  (67, none, .iload 2 :: .iconst (-1) :: .if_icmp .eq 84 :: .aload 0 :: .iload 1 :: .iload 2 :: .aload 0 :: .iload 1 :: .invokevirtual 5781 :: .iconst 1 :: .invokevirtual 7749 :: sg_66_67_1),
  (84, none, .return_ :: [])]
theorem ts_66 : bs_66.all (fun q => chk 66 q.1 q.2.2) = true := by decide +kernel
/-- Sea.sewsIn -/
def sg_67_57_2 : List Instr := .aload 0 :: .iload 1 :: .invokevirtual 5781 :: .ireturn :: []
def sg_67_57_1 : List Instr := .aload 0 :: .iload 1 :: .invokevirtual 7829 :: sg_67_57_2
def bs_67 : Tb := [
  (0, none, .aload 0 :: .iload 1 :: .invokevirtual 5269 :: .ifCond .eq 26 :: .iload 2 :: .invokestatic 18448 :: .ifCond .eq 26 :: .iload 3 :: .iconst 1 :: .if_icmp .lt 26 :: .iload 3 :: .iconst 12 :: .if_icmp .le 28 :: .iconst (-1) :: .ireturn :: []),
  (26, none, .iconst (-1) :: .ireturn :: []),
  (28, none, .aload 0 :: .iload 1 :: .aload 0 :: .iload 1 :: .invokevirtual 5781 :: .invokevirtual 6181 :: .iload 3 :: .if_icmp .ge 45 :: .iconst (-2) :: .ireturn :: []),
  (45, none, .aload 0 :: .iload 1 :: .invokevirtual 5781 :: .iload 2 :: .if_icmp .ne 57 :: .iconst (-3) :: .ireturn :: []),
  (57, none, .aload 0 :: .iload 1 :: .aload 0 :: .iload 1 :: .invokevirtual 5781 :: .iload 2 :: .iload 3 :: .invokevirtual 7749 :: sg_67_57_1)]
theorem ts_67 : bs_67.all (fun q => chk 67 q.1 q.2.2) = true := by decide +kernel
/-- Sea.strikesAll -/
def sg_68_34_1 : List Instr := .iload 3 :: .ireturn :: []
def bs_68 : Tb := [
  (0, none, .aload 0 :: .iload 1 :: .invokevirtual 5269 :: .ifCond .eq 15 :: .iload 2 :: .invokestatic 18448 :: .ifCond .ne 17 :: .iconst (-1) :: .ireturn :: []),
  (15, none, .iconst (-1) :: .ireturn :: []),
  (17, none, .iconst 12 :: .aload 0 :: .iload 1 :: .iload 2 :: .invokevirtual 6181 :: .isub :: .istore 3 :: .iload 3 :: .ifCond .ne 34 :: .iconst (-2) :: .ireturn :: []),
  (34, none, .aload 0 :: .iload 1 :: .iload 2 :: .invokevirtual 7461 :: sg_68_34_1)]
theorem ts_68 : bs_68.all (fun q => chk 68 q.1 q.2.2) = true := by decide +kernel
/-- Search.fewest -/
def sg_73_20_1 : List Instr := .iconst 0 :: .istore 3 :: .goto_w 27 :: []
def sg_73_27_1 : List Instr := .ifCond .eq 43 :: .iload 3 :: .ireturn :: []
def bs_73 : Tb := [
  (0, none, .aload 0 :: .iconst 0 :: .invokevirtual 9238 :: .astore 2 :: .aload 2 :: .ifnull 17 :: .aload 0 :: .getfield 1546 :: .ifnonnull 20 :: .iconst (-2) :: .ireturn :: []),
  (17, none, .iconst (-2) :: .ireturn :: []),
  (20, none, .aload 2 :: .aload 1 :: .invokevirtual 5141 :: sg_73_20_1),
  (27, some [0, 3], .iload 3 :: .iconst 3 :: .if_icmp .gt 49 :: .aload 0 :: .iconst 0 :: .iload 3 :: .invokevirtual 9510 :: sg_73_27_1),
  (43, none, .iinc 3 1 :: .goto 27 :: []),
  (49, none, .iconst (-2) :: .ireturn :: [])]
theorem ts_73 : bs_73.all (fun q => chk 73 q.1 q.2.2) = true := by decide +kernel
/-- Search.reaches -/
def sg_74_90_1 : List Instr := .istore 6 :: .iload 6 :: .ifCond .lt 146 :: .aload 0 :: .iload 1 :: .iload 6 :: .iload 6 :: .iload 4 :: .if_icmp .ne 125 :: .iload 5 :: .goto 127 :: []
def sg_74_125_2 : List Instr := .ifCond .eq 146 :: .iconst 1 :: .freturn :: []
def sg_74_125_1 : List Instr := .ifCond .eq 146 :: .aload 0 :: .iload 1 :: .iconst 1 :: .iadd :: .iload 2 :: .invokevirtual 9510 :: sg_74_125_2
def sg_74_127_2 : List Instr := .ifCond .eq 146 :: .iconst 1 :: .freturn :: []
def sg_74_127_1 : List Instr := .ifCond .eq 146 :: .aload 0 :: .iload 1 :: .iconst 1 :: .iadd :: .iload 2 :: .invokevirtual 9510 :: sg_74_127_2
def bs_74 : Tb := [
  (0, none, .aload 0 :: .iload 1 :: .invokevirtual 9238 :: .astore 3 :: .aload 3 :: .ifnull 15 :: .iload 1 :: .iload 2 :: .if_icmp .lt 33 :: .aload 3 :: .ifnull 31 :: .aload 0 :: .aload 3 :: .invokevirtual 9622 :: .ifCond .eq 31 :: .iconst 1 :: .goto 32 :: []),
  (15, none, .aload 3 :: .ifnull 31 :: .aload 0 :: .aload 3 :: .invokevirtual 9622 :: .ifCond .eq 31 :: .iconst 1 :: .goto 32 :: []),
  (31, none, .iconst 0 :: .freturn :: []),
  (32, none, .freturn :: []),
  (33, none, .aload 0 :: .aload 3 :: .iload 2 :: .iload 1 :: .isub :: .invokevirtual 9766 :: .ifCond .eq 46 :: .iconst 0 :: .freturn :: []),
  (46, none, .iconst 0 :: .istore 4 :: .goto_w 49 :: []),
  (49, some [0, 1, 2, 3, 4], .iload 4 :: .aload 3 :: .getfield 1280 :: .if_icmp .ge 158 :: .iload 4 :: .iconst 1 :: .iadd :: .istore 5 :: .goto_w 64 :: []),
  (64, some [0, 1, 2, 3, 4, 5], .iload 5 :: .aload 3 :: .getfield 1280 :: .if_icmp .ge 152 :: .aload 0 :: .iload 4 :: .iload 5 :: .iload 2 :: .iload 1 :: .isub :: .invokevirtual 9910 :: .ifCond .ne 90 :: .goto 146 :: []),
  (90, none, .aload 3 :: .aload 0 :: .getfield 1546 :: .iload 4 :: .iload 5 :: .invokevirtual 7989 :: sg_74_90_1),
  (125, none, .iload 4 :: .invokevirtual 10038 :: sg_74_125_1),
  (127, none, .invokevirtual 10038 :: sg_74_127_1),
  (146, none, .iinc 5 1 :: .goto 64 :: []),
  (152, none, .iinc 4 1 :: .goto 49 :: []),
  (158, none, .iconst 0 :: .freturn :: [])]
theorem ts_74 : bs_74.all (fun q => chk 74 q.1 q.2.2) = true := by decide +kernel
/-- Search.goes -/
def sg_78_45_2 : List Instr := .aload 0 :: .getfield 1543 :: .iconst 2 :: .iload 1 :: .imul :: .iload 2 :: .iload 3 :: .invokestatic 37024 :: .iastore :: .aload 0 :: .getfield 1543 :: .iconst 2 :: .iload 1 :: .imul :: .iconst 1 :: .iadd :: .iload 2 :: .iload 3 :: .invokestatic 36896 :: .iastore :: .iconst 1 :: .freturn :: []
def sg_78_45_1 : List Instr := .aload 5 :: .iload 2 :: .iload 3 :: .aload 0 :: .getfield 1548 :: .invokevirtual 8245 :: sg_78_45_2
def bs_78 : Tb := [
  (0, none, .aload 0 :: .iload 1 :: .invokevirtual 9238 :: .astore 4 :: .aload 0 :: .iload 1 :: .iconst 1 :: .iadd :: .invokevirtual 9238 :: .astore 5 :: .aload 4 :: .ifnull 43 :: .aload 5 :: .ifnull 43 :: .iload 1 :: .ifCond .lt 43 :: .iconst 2 :: .iload 1 :: .imul :: .iconst 1 :: .iadd :: .aload 0 :: .getfield 1543 :: .arraylength :: .if_icmp .lt 45 :: .iconst 0 :: .freturn :: []),
  (43, none, .iconst 0 :: .freturn :: []),
  (45, none, .aload 5 :: .aload 4 :: .invokevirtual 5141 :: sg_78_45_1)]
theorem ts_78 : bs_78.all (fun q => chk 78 q.1 q.2.2) = true := by decide +kernel
/-- C.sign -/
def sg_85_17_1 : List Instr := .iinc 2 (-8) :: .goto 17 :: []
def bs_85 : Tb := [
  (0, none, .aload 0 :: .getfield 2051 :: .getfield 1796 :: .iconst 76 :: .if_icmp .le 14 :: .iconst (-1) :: .ireturn :: []),
  (14, none, .iconst 24 :: .istore 2 :: .goto_w 17 :: []),
  (17, some [0, 1, 2], .iload 2 :: .ifCond .lt 42 :: .aload 0 :: .getfield 2051 :: .iload 1 :: .iload 2 :: .iushr :: .iconst 255 :: .iand :: .i2c :: .invokevirtual 10391 :: sg_85_17_1),
  (42, none, .aload 0 :: .getfield 2051 :: .getfield 1796 :: .ireturn :: [])]
theorem ts_85 : bs_85.all (fun q => chk 85 q.1 q.2.2) = true := by decide +kernel
/-- C.ships -/
def sg_87_0_1 : List Instr := .istore 1 :: .aload 0 :: .iload 1 :: .invokevirtual 17304 :: .istore 2 :: .iload 2 :: .iconst (-1) :: .if_icmp .eq 23 :: .iconst (-1) :: .iload 2 :: .isub :: .ireturn :: []
def sg_87_32_1 : List Instr := .iinc 4 1 :: .goto 32 :: []
def sg_87_81_1 : List Instr := .aload 0 :: .iconst 0 :: .putfield 2108 :: .iload 3 :: .ireturn :: []
def bs_87 : Tb := [
  (0, none, .aload 0 :: .getfield 2051 :: .invokevirtual 10631 :: sg_87_0_1),
  (23, none, .iload 1 :: .iconst 1 :: .iadd :: .iconst 3 :: .idiv :: .istore 3 :: .iconst 0 :: .istore 4 :: .goto_w 32 :: []),
  (32, some [0, 3, 4], .iload 4 :: .iload 3 :: .if_icmp .ge 81 :: .aload 0 :: .getfield 2059 :: .aload 0 :: .getfield 2051 :: .iconst 3 :: .iload 4 :: .imul :: .invokevirtual 10519 :: .iconst 97 :: .isub :: .aload 0 :: .getfield 2051 :: .iconst 3 :: .iload 4 :: .imul :: .iconst 1 :: .iadd :: .invokevirtual 10519 :: .iconst 48 :: .isub :: .invokevirtual 7333 :: sg_87_32_1),
  (81, none, .iload 3 :: .ifCond .le 97 :: .aload 0 :: .getfield 2071 :: .invokevirtual 1538 :: sg_87_81_1),
  (97, none, .iload 3 :: .ireturn :: [])]
theorem ts_87 : bs_87.all (fun q => chk 87 q.1 q.2.2) = true := by decide +kernel
/-- C.rule -/
def sg_88_0_1 : List Instr := .istore 1 :: .iload 1 :: .iconst (-1) :: .if_icmp .eq 14 :: .iconst (-1) :: .iload 1 :: .isub :: .ireturn :: []
def bs_88 : Tb := [
  (0, none, .aload 0 :: .invokevirtual 17544 :: sg_88_0_1),
  (14, none, .aload 0 :: .getfield 2098 :: .astore 2 :: .aload 0 :: .aload 0 :: .getfield 2102 :: .putfield 2098 :: .aload 0 :: .aload 2 :: .putfield 2102 :: .iconst 0 :: .ireturn :: [])]
theorem ts_88 : bs_88.all (fun q => chk 88 q.1 q.2.2) = true := by decide +kernel
/-- C.force -/
def sg_90_14_1 : List Instr := .invokestatic 37024 :: .invokestatic 36896 :: .iadd :: .ireturn :: []
def bs_90 : Tb := [
  (0, none, .aload 0 :: .getfield 2059 :: .iload 1 :: .iload 2 :: .invokevirtual 5413 :: .ifCond .ne 14 :: .iconst (-1) :: .ireturn :: []),
  (14, none, .iconst 1000 :: .iconst (-999) :: .iconst 999 :: .aload 0 :: .getfield 2098 :: .aload 0 :: .getfield 2059 :: .iload 1 :: .iload 2 :: .invokevirtual 4404 :: sg_90_14_1)]
theorem ts_90 : bs_90.all (fun q => chk 90 q.1 q.2.2) = true := by decide +kernel
/-- C.sheet -/
def sg_92_83_1 : List Instr := .iinc 6 1 :: .goto 44 :: []
def sg_92_84_1 : List Instr := .iinc 6 1 :: .goto 44 :: []
def bs_92 : Tb := [
  (0, none, .iload 1 :: .ifCond .lt 15 :: .iload 1 :: .iconst 3 :: .if_icmp .gt 15 :: .iload 2 :: .iconst 6 :: .if_icmp .le 17 :: .iconst (-1) :: .ireturn :: []),
  (15, none, .iconst (-1) :: .ireturn :: []),
  (17, none, .iload 1 :: .iconst 3 :: .if_icmp .ge 29 :: .iload 2 :: .ifCond .ge 29 :: .iconst (-2) :: .ireturn :: []),
  (29, none, .iload 1 :: .iconst 3 :: .if_icmp .ne 38 :: .iconst 0 :: .goto 39 :: []),
  (38, none, .iload 2 :: .istore 5 :: .iconst 0 :: .istore 6 :: .goto_w 44 :: []),
  (39, none, .istore 5 :: .iconst 0 :: .istore 6 :: .goto_w 44 :: []),
  (44, some [0, 1, 3, 4, 5, 6], .iload 6 :: .aload 0 :: .getfield 2059 :: .getfield 1280 :: .if_icmp .ge 93 :: .aload 0 :: .getfield 2059 :: .iload 6 :: .iload 6 :: .iload 5 :: .if_icmp .ge 83 :: .iload 1 :: .iload 3 :: .iload 6 :: .iload 4 :: .imul :: .iadd :: .invokestatic 18592 :: .goto 84 :: []),
  (83, none, .iconst 0 :: .invokevirtual 7589 :: sg_92_83_1),
  (84, none, .invokevirtual 7589 :: sg_92_84_1),
  (93, none, .iload 1 :: .iconst 3 :: .if_icmp .ne 103 :: .iconst (-3) :: .goto 110 :: []),
  (103, none, .aload 0 :: .getfield 2059 :: .invokevirtual 6405 :: .ireturn :: []),
  (110, none, .ireturn :: [])]
theorem ts_92 : bs_92.all (fun q => chk 92 q.1 q.2.2) = true := by decide +kernel
/-- C.fight -/
def sg_93_0_3 : List Instr := .iload 3 :: .ireturn :: []
def sg_93_0_2 : List Instr := .istore 3 :: .iload 3 :: .ifCond .lt 44 :: .aload 0 :: .getfield 2071 :: .aload 0 :: .getfield 2063 :: .invokevirtual 1810 :: sg_93_0_3
def sg_93_0_1 : List Instr := .aload 0 :: .getfield 2059 :: .aload 0 :: .getfield 2098 :: .aload 0 :: .getfield 2104 :: .iload 1 :: .iload 2 :: .invokevirtual 8133 :: sg_93_0_2
def bs_93 : Tb := [
  (0, none, .aload 0 :: .getfield 2063 :: .aload 0 :: .getfield 2059 :: .invokevirtual 5141 :: sg_93_0_1),
  (44, none, .iload 3 :: .ireturn :: [])]
theorem ts_93 : bs_93.all (fun q => chk 93 q.1 q.2.2) = true := by decide +kernel
/-- C.days -/
def sg_94_12_3 : List Instr := .iconst 0 :: .istore 2 :: .goto_w 44 :: []
def sg_94_12_2 : List Instr := .aload 0 :: .getfield 2055 :: .invokevirtual 2179 :: sg_94_12_3
def sg_94_12_1 : List Instr := .aload 0 :: .getfield 2059 :: .iload 1 :: .invokevirtual 8341 :: sg_94_12_2
def sg_94_27_2 : List Instr := .iconst 0 :: .istore 2 :: .goto_w 44 :: []
def sg_94_27_1 : List Instr := .aload 0 :: .getfield 2055 :: .invokevirtual 2179 :: sg_94_27_2
def sg_94_44_1 : List Instr := .iinc 2 1 :: .goto 44 :: []
def bs_94 : Tb := [
  (0, none, .iload 1 :: .ifCond .lt 10 :: .iload 1 :: .iconst 60 :: .if_icmp .le 12 :: .iconst (-1) :: .ireturn :: []),
  (10, none, .iconst (-1) :: .ireturn :: []),
  (12, none, .iload 1 :: .ifCond .le 27 :: .aload 0 :: .getfield 2071 :: .aload 0 :: .getfield 2059 :: .invokevirtual 1810 :: sg_94_12_1),
  (27, none, .aload 0 :: .getfield 2059 :: .iload 1 :: .invokevirtual 8341 :: sg_94_27_1),
  (44, some [0, 2], .iload 2 :: .iconst 4 :: .if_icmp .ge 71 :: .aload 0 :: .getfield 2055 :: .aload 0 :: .getfield 2059 :: .iload 2 :: .invokevirtual 6677 :: .i2l :: .invokevirtual 2323 :: sg_94_44_1),
  (71, none, .aload 0 :: .getfield 2059 :: .invokevirtual 6405 :: .ireturn :: [])]
theorem ts_94 : bs_94.all (fun q => chk 94 q.1 q.2.2) = true := by decide +kernel
/-- C.sews -/
def sg_95_0_3 : List Instr := .iload 4 :: .ireturn :: []
def sg_95_0_2 : List Instr := .istore 4 :: .iload 4 :: .ifCond .lt 39 :: .aload 0 :: .getfield 2071 :: .aload 0 :: .getfield 2063 :: .invokevirtual 1810 :: sg_95_0_3
def sg_95_0_1 : List Instr := .aload 0 :: .getfield 2059 :: .iload 1 :: .iload 2 :: .iload 3 :: .invokevirtual 8629 :: sg_95_0_2
def bs_95 : Tb := [
  (0, none, .aload 0 :: .getfield 2063 :: .aload 0 :: .getfield 2059 :: .invokevirtual 5141 :: sg_95_0_1),
  (39, none, .iload 4 :: .ireturn :: [])]
theorem ts_95 : bs_95.all (fun q => chk 95 q.1 q.2.2) = true := by decide +kernel
/-- C.yields -/
def sg_96_0_3 : List Instr := .iload 3 :: .ireturn :: []
def sg_96_0_2 : List Instr := .istore 3 :: .iload 3 :: .ifCond .lt 36 :: .aload 0 :: .getfield 2071 :: .aload 0 :: .getfield 2063 :: .invokevirtual 1810 :: sg_96_0_3
def sg_96_0_1 : List Instr := .aload 0 :: .getfield 2059 :: .iload 1 :: .iload 2 :: .invokevirtual 8741 :: sg_96_0_2
def bs_96 : Tb := [
  (0, none, .aload 0 :: .getfield 2063 :: .aload 0 :: .getfield 2059 :: .invokevirtual 5141 :: sg_96_0_1),
  (36, none, .iload 3 :: .ireturn :: [])]
theorem ts_96 : bs_96.all (fun q => chk 96 q.1 q.2.2) = true := by decide +kernel
/-- C.war -/
def sg_97_0_1 : List Instr := .istore 1 :: .aload 0 :: .iload 1 :: .invokevirtual 17688 :: .istore 2 :: .iload 2 :: .iconst (-1) :: .if_icmp .eq 23 :: .iconst (-1) :: .iload 2 :: .isub :: .ireturn :: []
def sg_97_23_1 : List Instr := .iconst 0 :: .istore 3 :: .iconst 0 :: .istore 4 :: .iconst 0 :: .istore 5 :: .iconst 0 :: .istore 6 :: .goto_w 45 :: []
def sg_97_45_1 : List Instr := .ifCond .ne 76 :: .iconst 1 :: .goto 77 :: []
def sg_97_115_2 : List Instr := .aload 0 :: .getfield 2055 :: .iload 4 :: .ifCond .eq 150 :: .ldc2_w 1 :: .goto 151 :: []
def sg_97_115_1 : List Instr := .aload 0 :: .getfield 2055 :: .invokevirtual 2179 :: sg_97_115_2
def sg_97_130_1 : List Instr := .aload 0 :: .getfield 2055 :: .iload 4 :: .ifCond .eq 150 :: .ldc2_w 1 :: .goto 151 :: []
def sg_97_150_2 : List Instr := .iload 3 :: .ireturn :: []
def sg_97_150_1 : List Instr := .aload 0 :: .getfield 2055 :: .aload 0 :: .getfield 2059 :: .getfield 1288 :: .i2l :: .invokevirtual 2323 :: sg_97_150_2
def sg_97_151_2 : List Instr := .iload 3 :: .ireturn :: []
def sg_97_151_1 : List Instr := .aload 0 :: .getfield 2055 :: .aload 0 :: .getfield 2059 :: .getfield 1288 :: .i2l :: .invokevirtual 2323 :: sg_97_151_2
def bs_97 : Tb := [
  (0, none, .aload 0 :: .getfield 2051 :: .invokevirtual 10631 :: sg_97_0_1),
  (23, none, .aload 0 :: .getfield 2063 :: .aload 0 :: .getfield 2059 :: .invokevirtual 5141 :: sg_97_23_1),
  (45, some [0, 1, 3, 4, 5, 6], .iload 6 :: .iload 1 :: .if_icmp .ge 115 :: .iload 4 :: .ifCond .ne 115 :: .iload 6 :: .iload 5 :: .if_icmp .ne 109 :: .aload 0 :: .iload 6 :: .invokevirtual 18072 :: sg_97_45_1),
  (76, none, .iconst 0 :: .istore 4 :: .iload 3 :: .iload 4 :: .ifCond .eq 89 :: .iconst 0 :: .goto 90 :: []),
  (77, none, .istore 4 :: .iload 3 :: .iload 4 :: .ifCond .eq 89 :: .iconst 0 :: .goto 90 :: []),
  (89, none, .iconst 1 :: .iadd :: .istore 3 :: .iload 5 :: .aload 0 :: .getfield 2051 :: .iload 6 :: .invokevirtual 10519 :: .invokestatic 17936 :: .iadd :: .istore 5 :: .iinc 6 1 :: .goto 45 :: []),
  (90, none, .iadd :: .istore 3 :: .iload 5 :: .aload 0 :: .getfield 2051 :: .iload 6 :: .invokevirtual 10519 :: .invokestatic 17936 :: .iadd :: .istore 5 :: .iinc 6 1 :: .goto 45 :: []),
  (109, none, .iinc 6 1 :: .goto 45 :: []),
  (115, none, .iload 3 :: .ifCond .le 130 :: .aload 0 :: .getfield 2071 :: .aload 0 :: .getfield 2063 :: .invokevirtual 1810 :: sg_97_115_1),
  (130, none, .aload 0 :: .getfield 2055 :: .invokevirtual 2179 :: sg_97_130_1),
  (150, none, .ldc2_w 0 :: .invokevirtual 2323 :: sg_97_150_1),
  (151, none, .invokevirtual 2323 :: sg_97_151_1)]
theorem ts_97 : bs_97.all (fun q => chk 97 q.1 q.2.2) = true := by decide +kernel
/-- C.undo -/
def sg_98_0_1 : List Instr := .ifCond .eq 24 :: .aload 0 :: .getfield 2071 :: .getfield 520 :: .goto 25 :: []
def bs_98 : Tb := [
  (0, none, .aload 0 :: .getfield 2071 :: .aload 0 :: .getfield 2059 :: .invokevirtual 1938 :: sg_98_0_1),
  (24, none, .iconst (-1) :: .ireturn :: []),
  (25, none, .ireturn :: [])]
theorem ts_98 : bs_98.all (fun q => chk 98 q.1 q.2.2) = true := by decide +kernel
/-- C.fleet -/
def sg_99_66_3 : List Instr := .iload 2 :: .ireturn :: []
def sg_99_66_2 : List Instr := .aload 0 :: .getfield 2055 :: .aload 0 :: .getfield 2059 :: .iload 1 :: .invokevirtual 6677 :: .i2l :: .invokevirtual 2323 :: sg_99_66_3
def sg_99_66_1 : List Instr := .aload 0 :: .getfield 2055 :: .iload 3 :: .i2l :: .invokevirtual 2323 :: sg_99_66_2
def bs_99 : Tb := [
  (0, none, .iload 1 :: .invokestatic 18448 :: .ifCond .ne 9 :: .iconst (-1) :: .ireturn :: []),
  (9, none, .iconst 0 :: .istore 2 :: .iconst 0 :: .istore 3 :: .iconst 0 :: .istore 4 :: .goto_w 16 :: []),
  (16, some [0, 1, 2, 3, 4], .iload 4 :: .aload 0 :: .getfield 2059 :: .getfield 1280 :: .if_icmp .ge 66 :: .aload 0 :: .getfield 2059 :: .iload 4 :: .invokevirtual 5781 :: .iload 1 :: .if_icmp .ne 60 :: .iload 2 :: .iconst 1 :: .iload 4 :: .ishl :: .ior :: .istore 2 :: .iload 3 :: .aload 0 :: .getfield 2059 :: .iload 4 :: .invokevirtual 5653 :: .iadd :: .istore 3 :: .iinc 4 1 :: .goto 16 :: []),
  (60, none, .iinc 4 1 :: .goto 16 :: []),
  (66, none, .aload 0 :: .getfield 2055 :: .invokevirtual 2179 :: sg_99_66_1)]
theorem ts_99 : bs_99.all (fun q => chk 99 q.1 q.2.2) = true := by decide +kernel
/-- C.share -/
def sg_100_19_2 : List Instr := .iconst 0 :: .ireturn :: []
def sg_100_19_1 : List Instr := .aload 0 :: .getfield 2055 :: .aload 0 :: .getfield 2059 :: .iload 1 :: .invokevirtual 6677 :: .i2l :: .iconst 12 :: .aload 0 :: .getfield 2059 :: .getfield 1280 :: .imul :: .i2l :: .invokevirtual 2467 :: sg_100_19_2
def bs_100 : Tb := [
  (0, none, .iload 1 :: .invokestatic 18448 :: .ifCond .eq 17 :: .aload 0 :: .getfield 2059 :: .getfield 1280 :: .ifCond .ne 19 :: .iconst (-1) :: .ireturn :: []),
  (17, none, .iconst (-1) :: .ireturn :: []),
  (19, none, .aload 0 :: .getfield 2055 :: .invokevirtual 2179 :: sg_100_19_1)]
theorem ts_100 : bs_100.all (fun q => chk 100 q.1 q.2.2) = true := by decide +kernel
/-- C.later -/
def sg_101_23_3 : List Instr := .iconst 0 :: .istore 3 :: .goto_w 51 :: []
def sg_101_23_2 : List Instr := .aload 0 :: .getfield 2055 :: .invokevirtual 2179 :: sg_101_23_3
def sg_101_23_1 : List Instr := .aload 0 :: .getfield 2067 :: .iload 2 :: .invokevirtual 8341 :: sg_101_23_2
def sg_101_51_1 : List Instr := .iinc 3 1 :: .goto 51 :: []
def bs_101 : Tb := [
  (0, none, .aload 0 :: .getfield 2059 :: .iload 1 :: .invokevirtual 5269 :: .ifCond .eq 21 :: .iload 2 :: .ifCond .lt 21 :: .iload 2 :: .iconst 99 :: .if_icmp .le 23 :: .iconst (-1) :: .ireturn :: []),
  (21, none, .iconst (-1) :: .ireturn :: []),
  (23, none, .aload 0 :: .getfield 2067 :: .aload 0 :: .getfield 2059 :: .invokevirtual 5141 :: sg_101_23_1),
  (51, some [0, 1, 3], .iload 3 :: .iconst 4 :: .if_icmp .ge 79 :: .aload 0 :: .getfield 2055 :: .aload 0 :: .getfield 2067 :: .iload 1 :: .iload 3 :: .invokevirtual 6181 :: .i2l :: .invokevirtual 2323 :: sg_101_51_1),
  (79, none, .aload 0 :: .getfield 2067 :: .iload 1 :: .invokevirtual 5781 :: .ireturn :: [])]
theorem ts_101 : bs_101.all (fun q => chk 101 q.1 q.2.2) = true := by decide +kernel
/-- C.whole -/
def sg_102_13_2 : List Instr := .aload 0 :: .getfield 2059 :: .iload 1 :: .invokevirtual 6293 :: .ireturn :: []
def sg_102_13_1 : List Instr := .aload 0 :: .getfield 2055 :: .aload 0 :: .getfield 2059 :: .iload 1 :: .invokevirtual 5781 :: .i2l :: .invokevirtual 2323 :: sg_102_13_2
def bs_102 : Tb := [
  (0, none, .aload 0 :: .getfield 2059 :: .iload 1 :: .invokevirtual 5269 :: .ifCond .ne 13 :: .iconst (-1) :: .ireturn :: []),
  (13, none, .aload 0 :: .getfield 2055 :: .invokevirtual 2179 :: sg_102_13_1)]
theorem ts_102 : bs_102.all (fun q => chk 102 q.1 q.2.2) = true := by decide +kernel
/-- C.sisters -/
def sg_103_33_3 : List Instr := .iinc 3 1 :: .goto 33 :: []
def sg_103_33_2 : List Instr := .aload 0 :: .getfield 2055 :: .iload 3 :: .i2l :: .invokevirtual 2323 :: sg_103_33_3
def sg_103_33_1 : List Instr := .aload 0 :: .getfield 2055 :: .iload 2 :: .i2l :: .invokevirtual 2323 :: sg_103_33_2
def sg_103_66_3 : List Instr := .iinc 3 1 :: .goto 33 :: []
def sg_103_66_2 : List Instr := .aload 0 :: .getfield 2055 :: .iload 3 :: .i2l :: .invokevirtual 2323 :: sg_103_66_3
def sg_103_66_1 : List Instr := .aload 0 :: .getfield 2055 :: .iload 2 :: .i2l :: .invokevirtual 2323 :: sg_103_66_2
def bs_103 : Tb := [
  (0, none, .aload 0 :: .getfield 2059 :: .getfield 1280 :: .iconst 2 :: .if_icmp .ge 14 :: .iconst (-2) :: .ireturn :: []),
  (14, none, .iconst (-1) :: .istore 1 :: .iconst 0 :: .istore 2 :: .goto_w 18 :: []),
  (18, some [0, 1, 2], .iload 2 :: .aload 0 :: .getfield 2059 :: .getfield 1280 :: .if_icmp .ge 106 :: .iload 2 :: .iconst 1 :: .iadd :: .istore 3 :: .goto_w 33 :: []),
  (33, some [0, 1, 2, 3], .iload 3 :: .aload 0 :: .getfield 2059 :: .getfield 1280 :: .if_icmp .ge 100 :: .aload 0 :: .getfield 2059 :: .iload 2 :: .iload 3 :: .invokevirtual 7205 :: .istore 4 :: .iload 1 :: .iconst (-1) :: .if_icmp .eq 66 :: .iload 4 :: .iload 1 :: .if_icmp .ge 94 :: .iload 4 :: .istore 1 :: .aload 0 :: .getfield 2055 :: .invokevirtual 2179 :: sg_103_33_1),
  (66, none, .iload 4 :: .istore 1 :: .aload 0 :: .getfield 2055 :: .invokevirtual 2179 :: sg_103_66_1),
  (94, none, .iinc 3 1 :: .goto 33 :: []),
  (100, none, .iinc 2 1 :: .goto 18 :: []),
  (106, none, .iload 1 :: .ireturn :: [])]
theorem ts_103 : bs_103.all (fun q => chk 103 q.1 q.2.2) = true := by decide +kernel
/-- C.motley -/
def sg_104_97_3 : List Instr := .iload 1 :: .ireturn :: []
def sg_104_97_2 : List Instr := .aload 0 :: .getfield 2055 :: .iload 2 :: .i2l :: .invokevirtual 2323 :: sg_104_97_3
def sg_104_97_1 : List Instr := .aload 0 :: .getfield 2055 :: .aload 0 :: .getfield 2059 :: .iload 1 :: .invokevirtual 6293 :: .i2l :: .invokevirtual 2323 :: sg_104_97_2
def bs_104 : Tb := [
  (0, none, .aload 0 :: .getfield 2059 :: .getfield 1280 :: .ifCond .ne 13 :: .iconst (-2) :: .ireturn :: []),
  (13, none, .iconst 0 :: .istore 1 :: .iconst 1 :: .istore 2 :: .goto_w 17 :: []),
  (17, some [0, 1, 2], .iload 2 :: .aload 0 :: .getfield 2059 :: .getfield 1280 :: .if_icmp .ge 55 :: .aload 0 :: .getfield 2059 :: .iload 2 :: .invokevirtual 6293 :: .aload 0 :: .getfield 2059 :: .iload 1 :: .invokevirtual 6293 :: .if_icmp .le 49 :: .iload 2 :: .istore 1 :: .iinc 2 1 :: .goto 17 :: []),
  (49, none, .iinc 2 1 :: .goto 17 :: []),
  (55, none, .iconst 0 :: .istore 2 :: .iconst 0 :: .istore 3 :: .goto_w 59 :: []),
  (59, some [0, 1, 2, 3], .iload 3 :: .iconst 4 :: .if_icmp .ge 97 :: .iload 3 :: .aload 0 :: .getfield 2059 :: .iload 1 :: .invokevirtual 5781 :: .if_icmp .eq 91 :: .aload 0 :: .getfield 2059 :: .iload 1 :: .iload 3 :: .invokevirtual 6181 :: .ifCond .le 91 :: .iinc 2 1 :: .iinc 3 1 :: .goto 59 :: []),
  (91, none, .iinc 3 1 :: .goto 59 :: []),
  (97, none, .aload 0 :: .getfield 2055 :: .invokevirtual 2179 :: sg_104_97_1)]
theorem ts_104 : bs_104.all (fun q => chk 104 q.1 q.2.2) = true := by decide +kernel
/-- C.order -/
def sg_105_9_1 : List Instr := .iconst 0 :: .istore 2 :: .iconst 12 :: .istore 3 :: .goto_w 21 :: []
def sg_105_28_1 : List Instr := .iload 2 :: .iload 3 :: .ifCond .le 73 :: .iconst 1 :: .goto 74 :: []
def bs_105 : Tb := [
  (0, none, .iload 1 :: .invokestatic 18448 :: .ifCond .ne 9 :: .iconst (-1) :: .ireturn :: []),
  (9, none, .aload 0 :: .getfield 2055 :: .invokevirtual 2179 :: sg_105_9_1),
  (21, some [0, 1, 2, 3], .iload 3 :: .ifCond .lt 88 :: .iconst 0 :: .istore 4 :: .goto_w 28 :: []),
  (28, some [0, 1, 2, 3, 4], .iload 4 :: .aload 0 :: .getfield 2059 :: .getfield 1280 :: .if_icmp .ge 82 :: .aload 0 :: .getfield 2059 :: .iload 4 :: .iload 1 :: .invokevirtual 6181 :: .iload 3 :: .if_icmp .ne 76 :: .aload 0 :: .getfield 2055 :: .iload 4 :: .i2l :: .invokevirtual 2323 :: sg_105_28_1),
  (73, none, .iconst 0 :: .iadd :: .istore 2 :: .iinc 4 1 :: .goto 28 :: []),
  (74, none, .iadd :: .istore 2 :: .iinc 4 1 :: .goto 28 :: []),
  (76, none, .iinc 4 1 :: .goto 28 :: []),
  (82, none, .iinc 3 (-1) :: .goto 21 :: []),
  (88, none, .iload 2 :: .ireturn :: [])]
theorem ts_105 : bs_105.all (fun q => chk 105 q.1 q.2.2) = true := by decide +kernel
/-- C.rivals -/
def sg_106_23_1 : List Instr := .istore 6 :: .iload 6 :: .iload 1 :: .if_icmp .ne 67 :: .iload 2 :: .iconst 1 :: .iload 5 :: .ishl :: .ior :: .istore 2 :: .goto 100 :: []
def sg_106_106_3 : List Instr := .iload 2 :: .ireturn :: []
def sg_106_106_2 : List Instr := .aload 0 :: .getfield 2055 :: .iload 4 :: .i2l :: .invokevirtual 2323 :: sg_106_106_3
def sg_106_106_1 : List Instr := .aload 0 :: .getfield 2055 :: .iload 3 :: .i2l :: .invokevirtual 2323 :: sg_106_106_2
def bs_106 : Tb := [
  (0, none, .aload 0 :: .getfield 2059 :: .iload 1 :: .invokevirtual 5269 :: .ifCond .ne 13 :: .iconst (-1) :: .ireturn :: []),
  (13, none, .iconst 0 :: .istore 2 :: .iconst 0 :: .istore 3 :: .iconst 0 :: .istore 4 :: .iconst 0 :: .istore 5 :: .goto_w 23 :: []),
  (23, some [0, 1, 2, 3, 4, 5], .iload 5 :: .aload 0 :: .getfield 2059 :: .getfield 1280 :: .if_icmp .ge 106 :: .aload 0 :: .getfield 2059 :: .aload 0 :: .getfield 2098 :: .iload 1 :: .iload 5 :: .invokevirtual 7989 :: sg_106_23_1),
  (67, none, .iload 6 :: .iload 5 :: .if_icmp .ne 84 :: .iload 3 :: .iconst 1 :: .iload 5 :: .ishl :: .ior :: .istore 3 :: .goto 100 :: []),
  (84, none, .iload 6 :: .iconst (-3) :: .if_icmp .ne 100 :: .iload 4 :: .iconst 1 :: .iload 5 :: .ishl :: .ior :: .istore 4 :: .iinc 5 1 :: .goto 23 :: []),
  (100, none, .iinc 5 1 :: .goto 23 :: []),
  (106, none, .aload 0 :: .getfield 2055 :: .invokevirtual 2179 :: sg_106_106_1)]
theorem ts_106 : bs_106.all (fun q => chk 106 q.1 q.2.2) = true := by decide +kernel
/-- C.duel -/
def sg_107_25_1 : List Instr := .iconst 0 :: .istore 4 :: .iconst 0 :: .istore 5 :: .iconst 0 :: .istore 6 :: .goto_w 45 :: []
def sg_107_45_1 : List Instr := .istore 7 :: .iload 7 :: .ifCond .ge 78 :: .goto 111 :: []
def sg_107_93_1 : List Instr := .iinc 6 1 :: .goto 45 :: []
def sg_107_94_1 : List Instr := .iinc 6 1 :: .goto 45 :: []
def sg_107_111_4 : List Instr := .iload 4 :: .ireturn :: []
def sg_107_111_3 : List Instr := .aload 0 :: .getfield 2055 :: .aload 0 :: .getfield 2067 :: .iload 2 :: .invokevirtual 5781 :: .i2l :: .invokevirtual 2323 :: sg_107_111_4
def sg_107_111_2 : List Instr := .aload 0 :: .getfield 2055 :: .aload 0 :: .getfield 2067 :: .iload 1 :: .invokevirtual 5781 :: .i2l :: .invokevirtual 2323 :: sg_107_111_3
def sg_107_111_1 : List Instr := .aload 0 :: .getfield 2055 :: .iload 5 :: .i2l :: .invokevirtual 2323 :: sg_107_111_2
def bs_107 : Tb := [
  (0, none, .aload 0 :: .getfield 2059 :: .iload 1 :: .iload 2 :: .invokevirtual 5413 :: .ifCond .eq 23 :: .iload 3 :: .iconst 1 :: .if_icmp .lt 23 :: .iload 3 :: .iconst 20 :: .if_icmp .le 25 :: .iconst (-1) :: .ireturn :: []),
  (23, none, .iconst (-1) :: .ireturn :: []),
  (25, none, .aload 0 :: .getfield 2067 :: .aload 0 :: .getfield 2059 :: .invokevirtual 5141 :: sg_107_25_1),
  (45, some [0, 1, 2, 3, 4, 5, 6], .iload 6 :: .iload 3 :: .if_icmp .ge 111 :: .aload 0 :: .getfield 2067 :: .aload 0 :: .getfield 2098 :: .aload 0 :: .getfield 2104 :: .iload 1 :: .iload 2 :: .invokevirtual 8133 :: sg_107_45_1),
  (78, none, .iinc 4 1 :: .iload 5 :: .iload 7 :: .iload 1 :: .if_icmp .ne 93 :: .iconst 1 :: .goto 94 :: []),
  (93, none, .iconst 0 :: .iadd :: .istore 5 :: .aload 0 :: .getfield 2067 :: .iconst 1 :: .invokevirtual 8341 :: sg_107_93_1),
  (94, none, .iadd :: .istore 5 :: .aload 0 :: .getfield 2067 :: .iconst 1 :: .invokevirtual 8341 :: sg_107_94_1),
  (111, none, .aload 0 :: .getfield 2055 :: .invokevirtual 2179 :: sg_107_111_1)]
theorem ts_107 : bs_107.all (fun q => chk 107 q.1 q.2.2) = true := by decide +kernel
