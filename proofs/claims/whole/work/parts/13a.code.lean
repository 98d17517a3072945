/-! the methods' code, 0 to 49 -/
/-- Laws.weighs -/
def bl_1 : Tb := [
  (0, none, [.iconst 0, .istore 2, .iconst 168, .istore 3, .goto_w 6]),
  (6, some [0, 1, 2, 3], [.iload 3, .ifCond .lt 44, .aload 0, .getfield 3, .iload 3, .iload 3, .aload 1, .invokestatic 288, .sastore, .aload 0, .getfield 3, .iload 3, .saload, .ifCond .eq 38, .iinc 2 1, .aload 0, .iload 3, .putfield 4, .iinc 3 (-1), .goto 6]),
  (38, none, [.iinc 3 (-1), .goto 6]),
  (44, none, [.iload 2, .ireturn])]
theorem tk_1 : bl_1.all (fun q => chk 1 q.1 q.2.2) = true := by decide +kernel
theorem py_1 : plainName (mN 1).cls = true := by decide +kernel
theorem ml_1 : mL 1 = 4 := rfl
/-- Laws.fitsTales -/
def bl_2 : Tb := [
  (0, none, [.iconst 0, .istore 2, .goto_w 2]),
  (2, some [0, 1, 2], [.iload 2, .aload 1, .getfield 268, .if_icmp .ge 49, .iload 0, .aload 1, .iload 2, .invokevirtual 1041, .aload 1, .iload 2, .invokevirtual 1169, .invokestatic 560, .aload 1, .iload 2, .invokevirtual 1297, .iconst 1, .if_icmp .ne 37, .iconst 1, .goto 38]),
  (37, none, [.iconst 0, .if_icmp .eq 43, .iconst 0, .freturn]),
  (38, none, [.if_icmp .eq 43, .iconst 0, .freturn]),
  (43, none, [.iinc 2 1, .goto 2]),
  (49, none, [.iconst 1, .freturn])]
theorem tk_2 : bl_2.all (fun q => chk 2 q.1 q.2.2) = true := by decide +kernel
theorem py_2 : plainName (mN 2).cls = true := by decide +kernel
theorem ml_2 : mL 2 = 3 := rfl
/-- Laws.numberOver -/
def bl_3 : Tb := [
  (0, none, [.iconst 0, .istore 3, .iconst 0, .istore 4, .goto_w 5]),
  (5, some [0, 1, 2, 3, 4], [.iload 4, .iconst 169, .if_icmp .ge 47, .iload 3, .aload 0, .getfield 3, .iload 4, .saload, .ifCond .eq 38, .iload 4, .iload 1, .iload 2, .invokestatic 560, .ifCond .eq 38, .iconst 1, .goto 39]),
  (38, none, [.iconst 0, .iadd, .istore 3, .iinc 4 1, .goto 5]),
  (39, none, [.iadd, .istore 3, .iinc 4 1, .goto 5]),
  (47, none, [.iload 3, .ireturn])]
theorem tk_3 : bl_3.all (fun q => chk 3 q.1 q.2.2) = true := by decide +kernel
theorem py_3 : plainName (mN 3).cls = true := by decide +kernel
theorem ml_3 : mL 3 = 5 := rfl
/-- Laws.isOver -/
def bl_4 : Tb := [
  (0, none, [.iload 1, .iload 0, .iconst 13, .idiv, .if_icmp .lt 18, .iload 2, .iload 1, .isub, .iload 0, .iconst 13, .irem, .if_icmp .lt 22, .iconst 1, .goto 23]),
  (18, none, [.iconst 1, .goto 23]),
  (22, none, [.iconst 0, .freturn]),
  (23, none, [.freturn])]
theorem tk_4 : bl_4.all (fun q => chk 4 q.1 q.2.2) = true := by decide +kernel
theorem py_4 : plainName (mN 4).cls = true := by decide +kernel
theorem ml_4 : mL 4 = 3 := rfl
/-- Notes.adds -/
def bl_6 : Tb := [
  (0, none, [.aload 0, .getfield 268, .ifCond .lt 16, .aload 0, .getfield 268, .iconst 12, .if_icmp .lt 18, .iconst 0, .freturn]),
  (16, none, [.iconst 0, .freturn]),
  (18, none, [.aload 0, .getfield 259, .aload 0, .getfield 268, .iload 1, .iastore, .aload 0, .getfield 263, .aload 0, .getfield 268, .iload 2, .iastore, .aload 0, .getfield 267, .aload 0, .getfield 268, .iload 3, .iastore, .aload 0, .dup, .getfield 268, .iconst 1, .iadd, .putfield 268, .iconst 1, .freturn])]
theorem tk_6 : bl_6.all (fun q => chk 6 q.1 q.2.2) = true := by decide +kernel
theorem py_6 : plainName (mN 6).cls = true := by decide +kernel
theorem ml_6 : mL 6 = 4 := rfl
/-- Notes.empties -/
def bl_7 : Tb := [
  (0, none, [.aload 0, .getfield 268, .istore 1, .aload 0, .iconst 0, .putfield 268, .iload 1, .ireturn])]
theorem tk_7 : bl_7.all (fun q => chk 7 q.1 q.2.2) = true := by decide +kernel
theorem py_7 : plainName (mN 7).cls = true := by decide +kernel
theorem ml_7 : mL 7 = 2 := rfl
/-- Notes.firstOf -/
def bl_8 : Tb := [
  (0, none, [.iload 1, .ifCond .lt 19, .iload 1, .iconst 12, .if_icmp .ge 19, .aload 0, .getfield 259, .iload 1, .iaload, .goto 20]),
  (19, none, [.iconst (-1), .ireturn]),
  (20, none, [.ireturn])]
theorem tk_8 : bl_8.all (fun q => chk 8 q.1 q.2.2) = true := by decide +kernel
theorem py_8 : plainName (mN 8).cls = true := by decide +kernel
theorem ml_8 : mL 8 = 2 := rfl
/-- Notes.secondOf -/
def bl_9 : Tb := [
  (0, none, [.iload 1, .ifCond .lt 19, .iload 1, .iconst 12, .if_icmp .ge 19, .aload 0, .getfield 263, .iload 1, .iaload, .goto 20]),
  (19, none, [.iconst (-1), .ireturn]),
  (20, none, [.ireturn])]
theorem tk_9 : bl_9.all (fun q => chk 9 q.1 q.2.2) = true := by decide +kernel
theorem py_9 : plainName (mN 9).cls = true := by decide +kernel
theorem ml_9 : mL 9 = 2 := rfl
/-- Notes.thirdOf -/
def bl_10 : Tb := [
  (0, none, [.iload 1, .ifCond .lt 19, .iload 1, .iconst 12, .if_icmp .ge 19, .aload 0, .getfield 267, .iload 1, .iaload, .goto 20]),
  (19, none, [.iconst (-1), .ireturn]),
  (20, none, [.ireturn])]
theorem tk_10 : bl_10.all (fun q => chk 10 q.1 q.2.2) = true := by decide +kernel
theorem py_10 : plainName (mN 10).cls = true := by decide +kernel
theorem ml_10 : mL 10 = 2 := rfl
/-- Past.clears -/
def bl_12 : Tb := [
  (0, none, [.aload 0, .iconst 0, .putfield 520, .return_])]
theorem tk_12 : bl_12.all (fun q => chk 12 q.1 q.2.2) = true := by decide +kernel
theorem py_12 : plainName (mN 12).cls = true := by decide +kernel
theorem ml_12 : mL 12 = 1 := rfl
/-- Past.at -/
def bl_13 : Tb := [
  (0, none, [.aload 0, .getfield 516, .iload 1, .iadd, .iconst 12, .invokestatic 36640, .istore 2, .iload 2, .aload 0, .getfield 515, .arraylength, .if_icmp .ge 30, .aload 0, .getfield 515, .iload 2, .aaload, .goto 31]),
  (30, none, [.aconst_null, .areturn]),
  (31, none, [.areturn])]
theorem tk_13 : bl_13.all (fun q => chk 13 q.1 q.2.2) = true := by decide +kernel
theorem py_13 : plainName (mN 13).cls = true := by decide +kernel
theorem ml_13 : mL 13 = 3 := rfl
/-- Past.adds -/
def bl_14 : Tb := [
  (0, none, [.aload 0, .getfield 520, .iconst 12, .if_icmp .ne 32, .aload 0, .aload 0, .getfield 516, .iconst 1, .iadd, .iconst 12, .irem, .putfield 516, .aload 0, .dup, .getfield 520, .iconst 1, .isub, .putfield 520, .aload 0, .aload 0, .getfield 520, .invokevirtual 1682, .astore 2, .aload 2, .ifnull 60, .aload 2, .aload 1, .invokevirtual 5141, .aload 0, .dup, .getfield 520, .iconst 1, .iadd, .putfield 520, .return_]),
  (32, none, [.aload 0, .aload 0, .getfield 520, .invokevirtual 1682, .astore 2, .aload 2, .ifnull 60, .aload 2, .aload 1, .invokevirtual 5141, .aload 0, .dup, .getfield 520, .iconst 1, .iadd, .putfield 520, .return_]),
  (60, none, [.return_])]
theorem tk_14 : bl_14.all (fun q => chk 14 q.1 q.2.2) = true := by decide +kernel
theorem py_14 : plainName (mN 14).cls = true := by decide +kernel
theorem ml_14 : mL 14 = 3 := rfl
/-- Past.returns -/
def bl_15 : Tb := [
  (0, none, [.aload 0, .getfield 520, .ifCond .le 20, .aload 0, .aload 0, .getfield 520, .iconst 1, .isub, .invokevirtual 1682, .goto 21]),
  (20, none, [.aconst_null, .astore 2, .aload 2, .ifnonnull 28, .iconst 0, .freturn]),
  (21, none, [.astore 2, .aload 2, .ifnonnull 28, .iconst 0, .freturn]),
  (28, none, [.aload 1, .aload 2, .invokevirtual 5141, .aload 0, .dup, .getfield 520, .iconst 1, .isub, .putfield 520, .iconst 1, .freturn])]
theorem tk_15 : bl_15.all (fun q => chk 15 q.1 q.2.2) = true := by decide +kernel
theorem py_15 : plainName (mN 15).cls = true := by decide +kernel
theorem ml_15 : mL 15 = 3 := rfl
/-- Row.clears -/
def bl_17 : Tb := [
  (0, none, [.aload 0, .iconst 0, .putfield 772, .return_])]
theorem tk_17 : bl_17.all (fun q => chk 17 q.1 q.2.2) = true := by decide +kernel
theorem py_17 : plainName (mN 17).cls = true := by decide +kernel
theorem ml_17 : mL 17 = 1 := rfl
/-- Row.adds -/
def bl_18 : Tb := [
  (0, none, [.aload 0, .getfield 772, .ifCond .lt 39, .aload 0, .getfield 772, .aload 0, .getfield 771, .arraylength, .if_icmp .ge 39, .aload 0, .getfield 771, .aload 0, .getfield 772, .lload 1, .lastore, .aload 0, .dup, .getfield 772, .iconst 1, .iadd, .putfield 772, .return_]),
  (39, none, [.return_])]
theorem tk_18 : bl_18.all (fun q => chk 18 q.1 q.2.2) = true := by decide +kernel
theorem py_18 : plainName (mN 18).cls = true := by decide +kernel
theorem ml_18 : mL 18 = 3 := rfl
/-- Row.addsFraction -/
def bl_19 : Tb := [
  (0, none, [.lload 1, .lload 3, .invokestatic 2592, .lstore 5, .lload 5, .ldc2_w 0, .lcmp, .ifCond .eq 30, .aload 0, .lload 1, .lload 5, .ldiv, .invokevirtual 2323, .aload 0, .lload 3, .lload 5, .ldiv, .invokevirtual 2323, .return_]),
  (30, none, [.return_])]
theorem tk_19 : bl_19.all (fun q => chk 19 q.1 q.2.2) = true := by decide +kernel
theorem py_19 : plainName (mN 19).cls = true := by decide +kernel
theorem ml_19 : mL 19 = 7 := rfl
/-- Row.commonDivisor -/
def bl_20 : Tb := [
  (0, none, [.lload 0, .lstore 4, .lload 2, .lstore 6, .iconst 0, .istore 8, .goto_w 9]),
  (9, some [4, 6, 8], [.iload 8, .iconst 200, .if_icmp .ge 45, .lload 6, .ldc2_w 0, .lcmp, .ifCond .eq 45, .lload 4, .lload 6, .lrem, .lstore 9, .lload 6, .lstore 4, .lload 9, .lstore 6, .iinc 8 1, .goto 9]),
  (45, none, [.lload 4, .lreturn])]
theorem tk_20 : bl_20.all (fun q => chk 20 q.1 q.2.2) = true := by decide +kernel
theorem py_20 : plainName (mN 20).cls = true := by decide +kernel
theorem ml_20 : mL 20 = 11 := rfl
/-- Row.has -/
def bl_21 : Tb := [
  (0, none, [.iload 1, .ifCond .lt 25, .iload 1, .aload 0, .getfield 772, .if_icmp .ge 25, .iload 1, .aload 0, .getfield 771, .arraylength, .if_icmp .ge 25, .iconst 1, .goto 26]),
  (25, none, [.iconst 0, .freturn]),
  (26, none, [.freturn])]
theorem tk_21 : bl_21.all (fun q => chk 21 q.1 q.2.2) = true := by decide +kernel
theorem py_21 : plainName (mN 21).cls = true := by decide +kernel
theorem ml_21 : mL 21 = 2 := rfl
/-- Row.at -/
def bl_22 : Tb := [
  (0, none, [.aload 0, .iload 1, .invokevirtual 2707, .ifCond .eq 17, .aload 0, .getfield 771, .iload 1, .laload, .goto 18]),
  (17, none, [.ldc2_w 0, .lreturn]),
  (18, none, [.lreturn])]
theorem tk_22 : bl_22.all (fun q => chk 22 q.1 q.2.2) = true := by decide +kernel
theorem py_22 : plainName (mN 22).cls = true := by decide +kernel
theorem ml_22 : mL 22 = 2 := rfl
/-- Rule.reads -/
def bl_24 : Tb := [
  (0, none, [.aload 0, .iconst 0, .putfield 1036, .aload 0, .iconst 0, .putfield 1040, .aload 0, .iconst 0, .putfield 1044, .aload 0, .iconst 0, .putfield 1048, .aload 0, .iconst 0, .putfield 1052, .aload 0, .iconst 1, .putfield 1057, .iload 2, .iconst 40, .invokestatic 37024, .istore 3, .iconst 0, .istore 4, .goto_w 40]),
  (40, some [0, 1, 2, 3, 4], [.iload 4, .iload 3, .if_icmp .ge 94, .iload 4, .aload 1, .arraylength, .if_icmp .ge 94, .aload 0, .getfield 1057, .ifCond .eq 74, .aload 0, .aload 1, .iload 4, .daload, .invokevirtual 3220, .ifCond .eq 85, .goto 88]),
  (74, none, [.aload 0, .aload 1, .iload 4, .daload, .invokevirtual 3348, .ifCond .ne 88, .iload 4, .ireturn]),
  (85, none, [.iload 4, .ireturn]),
  (88, none, [.iinc 4 1, .goto 40]),
  (94, none, [.aload 0, .getfield 1057, .ifCond .ne 108, .aload 0, .getfield 1044, .ifCond .le 110, .iload 3, .ireturn]),
  (108, none, [.iload 3, .ireturn]),
  (110, none, [.iload 2, .iconst 40, .if_icmp .le 119, .iconst 40, .ireturn]),
  (119, none, [.aload 0, .iconst 1, .invokevirtual 4244, .iconst (-1), .ireturn])]
theorem tk_24 : bl_24.all (fun q => chk 24 q.1 q.2.2) = true := by decide +kernel
theorem py_24 : plainName (mN 24).cls = true := by decide +kernel
theorem ml_24 : mL 24 = 5 := rfl
/-- Rule.beginsThing -/
def bl_25 : Tb := [
  (0, none, [.iload 1, .invokestatic 18192, .ifCond .eq 27, .aload 0, .iload 1, .iconst 48, .isub, .invokevirtual 3988, .aload 0, .iconst 1, .putfield 1052, .aload 0, .iconst 0, .putfield 1057, .iconst 1, .freturn]),
  (27, none, [.iload 1, .invokestatic 3728, .ifCond .eq 55, .aload 0, .iconst 1000, .iload 1, .iadd, .invokevirtual 3988, .aload 0, .iconst 0, .putfield 1052, .aload 0, .iconst 0, .putfield 1057, .iconst 1, .freturn]),
  (55, none, [.iload 1, .iconst 45, .if_icmp .ne 69, .aload 0, .iconst 126, .invokevirtual 4116, .iconst 1, .freturn]),
  (69, none, [.iload 1, .iconst 40, .if_icmp .ne 83, .aload 0, .getfield 1044, .iconst 4, .if_icmp .lt 85, .iconst 0, .freturn]),
  (83, none, [.iconst 0, .freturn]),
  (85, none, [.aload 0, .iload 1, .invokevirtual 4116, .aload 0, .dup, .getfield 1044, .iconst 1, .iadd, .putfield 1044, .aload 0, .dup, .getfield 1048, .iconst 1, .aload 0, .getfield 1044, .ishl, .iconst (-1), .ixor, .iand, .putfield 1048, .iconst 1, .freturn])]
theorem tk_25 : bl_25.all (fun q => chk 25 q.1 q.2.2) = true := by decide +kernel
theorem py_25 : plainName (mN 25).cls = true := by decide +kernel
theorem ml_25 : mL 25 = 2 := rfl
/-- Rule.comesBehind -/
def bl_26 : Tb := [
  (0, none, [.iload 1, .invokestatic 18192, .ifCond .eq 16, .aload 0, .iload 1, .iconst 48, .isub, .invokevirtual 3476, .freturn]),
  (16, none, [.iload 1, .iconst 41, .if_icmp .ne 27, .aload 0, .invokevirtual 3588, .freturn]),
  (27, none, [.iload 1, .invokestatic 3856, .istore 2, .iload 2, .ifCond .eq 42, .iload 1, .iconst 126, .if_icmp .ne 44, .iconst 0, .freturn]),
  (42, none, [.iconst 0, .freturn]),
  (44, none, [.iload 2, .iconst 1, .if_icmp .ne 80, .aload 0, .getfield 1048, .iconst 1, .aload 0, .getfield 1044, .ishl, .iand, .ifCond .eq 65, .iconst 0, .freturn]),
  (65, none, [.aload 0, .dup, .getfield 1048, .iconst 1, .aload 0, .getfield 1044, .ishl, .ior, .putfield 1048, .aload 0, .iload 2, .invokevirtual 4244, .aload 0, .iload 1, .invokevirtual 4116, .aload 0, .iconst 1, .putfield 1057, .iconst 1, .freturn]),
  (80, none, [.aload 0, .iload 2, .invokevirtual 4244, .aload 0, .iload 1, .invokevirtual 4116, .aload 0, .iconst 1, .putfield 1057, .iconst 1, .freturn])]
theorem tk_26 : bl_26.all (fun q => chk 26 q.1 q.2.2) = true := by decide +kernel
theorem py_26 : plainName (mN 26).cls = true := by decide +kernel
theorem ml_26 : mL 26 = 3 := rfl
/-- Rule.lengthens -/
def bl_27 : Tb := [
  (0, none, [.aload 0, .getfield 1052, .iconst 1, .if_icmp .lt 36, .aload 0, .getfield 1052, .iconst 2, .if_icmp .gt 36, .aload 0, .getfield 1036, .iconst 1, .if_icmp .lt 36, .aload 0, .getfield 1036, .aload 0, .getfield 1027, .arraylength, .if_icmp .le 38, .iconst 0, .freturn]),
  (36, none, [.iconst 0, .freturn]),
  (38, none, [.aload 0, .getfield 1027, .aload 0, .getfield 1036, .iconst 1, .isub, .aload 0, .getfield 1027, .aload 0, .getfield 1036, .iconst 1, .isub, .iaload, .iconst 10, .imul, .iload 1, .iadd, .iastore, .aload 0, .dup, .getfield 1052, .iconst 1, .iadd, .putfield 1052, .iconst 1, .freturn])]
theorem tk_27 : bl_27.all (fun q => chk 27 q.1 q.2.2) = true := by decide +kernel
theorem py_27 : plainName (mN 27).cls = true := by decide +kernel
theorem ml_27 : mL 27 = 2 := rfl
/-- Rule.closes -/
def bl_28 : Tb := [
  (0, none, [.aload 0, .getfield 1044, .ifCond .ne 9, .iconst 0, .freturn]),
  (9, none, [.aload 0, .iconst 1, .invokevirtual 4244, .aload 0, .getfield 1040, .ifCond .le 31, .aload 0, .dup, .getfield 1040, .iconst 1, .isub, .putfield 1040, .aload 0, .dup, .getfield 1044, .iconst 1, .isub, .putfield 1044, .aload 0, .iconst 0, .putfield 1052, .iconst 1, .freturn]),
  (31, none, [.aload 0, .dup, .getfield 1044, .iconst 1, .isub, .putfield 1044, .aload 0, .iconst 0, .putfield 1052, .iconst 1, .freturn])]
theorem tk_28 : bl_28.all (fun q => chk 28 q.1 q.2.2) = true := by decide +kernel
theorem py_28 : plainName (mN 28).cls = true := by decide +kernel
theorem ml_28 : mL 28 = 1 := rfl
/-- Rule.isLetter -/
def bl_29 : Tb := [
  (0, none, [.iload 0, .iconst 115, .if_icmp .eq 36, .iload 0, .iconst 111, .if_icmp .eq 36, .iload 0, .iconst 101, .if_icmp .eq 36, .iload 0, .iconst 119, .if_icmp .eq 36, .iload 0, .iconst 108, .if_icmp .eq 36, .iload 0, .iconst 110, .if_icmp .ne 40, .iconst 1, .goto 41]),
  (36, none, [.iconst 1, .goto 41]),
  (40, none, [.iconst 0, .freturn]),
  (41, none, [.freturn])]
theorem tk_29 : bl_29.all (fun q => chk 29 q.1 q.2.2) = true := by decide +kernel
theorem py_29 : plainName (mN 29).cls = true := by decide +kernel
theorem ml_29 : mL 29 = 1 := rfl
/-- Rule.binding -/
def bl_30 : Tb := [
  (0, none, [.iload 0, .lookupswitch 92 #[(42, 86), (43, 82), (45, 84), (47, 88), (60, 76), (61, 80), (62, 78), (126, 90)]]),
  (76, none, [.iconst 1, .ireturn]),
  (78, none, [.iconst 1, .ireturn]),
  (80, none, [.iconst 1, .ireturn]),
  (82, none, [.iconst 2, .ireturn]),
  (84, none, [.iconst 2, .ireturn]),
  (86, none, [.iconst 3, .ireturn]),
  (88, none, [.iconst 3, .ireturn]),
  (90, none, [.iconst 4, .ireturn]),
  (92, none, [.iconst 0, .ireturn])]
theorem tk_30 : bl_30.all (fun q => chk 30 q.1 q.2.2) = true := by decide +kernel
theorem py_30 : plainName (mN 30).cls = true := by decide +kernel
theorem ml_30 : mL 30 = 1 := rfl
/-- Rule.emits -/
def bl_31 : Tb := [
  (0, none, [.aload 0, .getfield 1036, .ifCond .lt 39, .aload 0, .getfield 1036, .aload 0, .getfield 1027, .arraylength, .if_icmp .ge 39, .aload 0, .getfield 1027, .aload 0, .getfield 1036, .iload 1, .iastore, .aload 0, .dup, .getfield 1036, .iconst 1, .iadd, .putfield 1036, .return_]),
  (39, none, [.return_])]
theorem tk_31 : bl_31.all (fun q => chk 31 q.1 q.2.2) = true := by decide +kernel
theorem py_31 : plainName (mN 31).cls = true := by decide +kernel
theorem ml_31 : mL 31 = 2 := rfl
/-- Rule.puts -/
def bl_32 : Tb := [
  (0, none, [.aload 0, .getfield 1040, .ifCond .lt 39, .aload 0, .getfield 1040, .aload 0, .getfield 1031, .arraylength, .if_icmp .ge 39, .aload 0, .getfield 1031, .aload 0, .getfield 1040, .iload 1, .castore, .aload 0, .dup, .getfield 1040, .iconst 1, .iadd, .putfield 1040, .return_]),
  (39, none, [.return_])]
theorem tk_32 : bl_32.all (fun q => chk 32 q.1 q.2.2) = true := by decide +kernel
theorem py_32 : plainName (mN 32).cls = true := by decide +kernel
theorem ml_32 : mL 32 = 2 := rfl
/-- Rule.joins -/
def bl_33 : Tb := [
  (0, none, [.aload 0, .getfield 1040, .iconst 1, .isub, .istore 2, .goto_w 7]),
  (7, some [0, 1, 2], [.iload 2, .ifCond .lt 58, .iload 2, .aload 0, .getfield 1031, .arraylength, .if_icmp .ge 58, .aload 0, .getfield 1031, .iload 2, .caload, .invokestatic 3856, .iload 1, .if_icmp .lt 58, .aload 0, .iconst 1000, .aload 0, .getfield 1031, .iload 2, .caload, .iadd, .invokevirtual 3988, .aload 0, .iload 2, .putfield 1040, .iinc 2 (-1), .goto 7]),
  (58, none, [.return_])]
theorem tk_33 : bl_33.all (fun q => chk 33 q.1 q.2.2) = true := by decide +kernel
theorem py_33 : plainName (mN 33).cls = true := by decide +kernel
theorem ml_33 : mL 33 = 3 := rfl
/-- Rule.measures -/
def bl_34 : Tb := [
  (0, none, [.iconst 0, .istore 4, .iconst 0, .istore 5, .goto_w 6]),
  (6, some [0, 1, 2, 3, 4, 5], [.iload 5, .aload 0, .getfield 1036, .if_icmp .ge 111, .iload 5, .aload 0, .getfield 1027, .arraylength, .if_icmp .ge 111, .aload 0, .getfield 1027, .iload 5, .iaload, .istore 6, .iload 6, .iconst 1000, .if_icmp .ge 55, .aload 0, .iload 4, .iload 6, .invokevirtual 4516, .istore 4, .goto 105]),
  (55, none, [.iload 6, .iconst 1000, .isub, .i2c, .invokestatic 3728, .ifCond .eq 91, .aload 0, .iload 4, .iload 6, .iconst 1000, .isub, .aload 1, .iload 2, .iload 3, .invokestatic 4928, .invokevirtual 4516, .istore 4, .goto 105]),
  (91, none, [.aload 0, .iload 4, .iload 6, .iconst 1000, .isub, .invokevirtual 4644, .istore 4, .iinc 5 1, .goto 6]),
  (105, none, [.iinc 5 1, .goto 6]),
  (111, none, [.aload 0, .getfield 1035, .iconst 0, .iaload, .ireturn])]
theorem tk_34 : bl_34.all (fun q => chk 34 q.1 q.2.2) = true := by decide +kernel
theorem py_34 : plainName (mN 34).cls = true := by decide +kernel
theorem ml_34 : mL 34 = 7 := rfl
/-- Rule.stacks -/
def bl_35 : Tb := [
  (0, none, [.iload 1, .ifCond .lt 13, .iload 1, .aload 0, .getfield 1035, .arraylength, .if_icmp .lt 15, .iload 1, .ireturn]),
  (13, none, [.iload 1, .ireturn]),
  (15, none, [.aload 0, .getfield 1035, .iload 1, .iload 2, .iastore, .iload 1, .iconst 1, .iadd, .ireturn])]
theorem tk_35 : bl_35.all (fun q => chk 35 q.1 q.2.2) = true := by decide +kernel
theorem py_35 : plainName (mN 35).cls = true := by decide +kernel
theorem ml_35 : mL 35 = 3 := rfl
/-- Rule.reduces -/
def bl_36 : Tb := [
  (0, none, [.iload 1, .iconst 1, .if_icmp .lt 14, .iload 1, .aload 0, .getfield 1035, .arraylength, .if_icmp .le 16, .iload 1, .ireturn]),
  (14, none, [.iload 1, .ireturn]),
  (16, none, [.iload 2, .iconst 126, .if_icmp .ne 41, .aload 0, .getfield 1035, .iload 1, .iconst 1, .isub, .aload 0, .getfield 1035, .iload 1, .iconst 1, .isub, .iaload, .ineg, .iastore, .iload 1, .ireturn]),
  (41, none, [.iload 1, .iconst 2, .if_icmp .ge 48, .iload 1, .ireturn]),
  (48, none, [.aload 0, .getfield 1035, .iload 1, .iconst 2, .isub, .iload 2, .aload 0, .getfield 1035, .iload 1, .iconst 2, .isub, .iaload, .aload 0, .getfield 1035, .iload 1, .iconst 1, .isub, .iaload, .invokestatic 4784, .iastore, .iload 1, .iconst 1, .isub, .ireturn])]
theorem tk_36 : bl_36.all (fun q => chk 36 q.1 q.2.2) = true := by decide +kernel
theorem py_36 : plainName (mN 36).cls = true := by decide +kernel
theorem ml_36 : mL 36 = 3 := rfl
/-- Rule.joined -/
def bl_37 : Tb := [
  (0, none, [.iload 0, .lookupswitch 105 #[(42, 101), (43, 93), (45, 97), (60, 60), (61, 82), (62, 71)]]),
  (60, none, [.iload 1, .iload 2, .if_icmp .ge 69, .iconst 1, .goto 70]),
  (69, none, [.iconst 0, .ireturn]),
  (70, none, [.ireturn]),
  (71, none, [.iload 1, .iload 2, .if_icmp .le 80, .iconst 1, .goto 81]),
  (80, none, [.iconst 0, .ireturn]),
  (81, none, [.ireturn]),
  (82, none, [.iload 1, .iload 2, .if_icmp .ne 91, .iconst 1, .goto 92]),
  (91, none, [.iconst 0, .ireturn]),
  (92, none, [.ireturn]),
  (93, none, [.iload 1, .iload 2, .iadd, .ireturn]),
  (97, none, [.iload 1, .iload 2, .isub, .ireturn]),
  (101, none, [.iload 1, .iload 2, .imul, .ireturn]),
  (105, none, [.iload 2, .ifCond .ne 113, .iconst 0, .goto 116]),
  (113, none, [.iload 1, .iload 2, .idiv, .ireturn]),
  (116, none, [.ireturn])]
theorem tk_37 : bl_37.all (fun q => chk 37 q.1 q.2.2) = true := by decide +kernel
theorem py_37 : plainName (mN 37).cls = true := by decide +kernel
theorem ml_37 : mL 37 = 3 := rfl
/-- Rule.thing -/
def bl_38 : Tb := [
  (0, none, [.iload 0, .lookupswitch 92 #[(101, 69), (108, 86), (111, 58), (115, 52), (119, 80)]]),
  (52, none, [.aload 1, .iload 2, .invokevirtual 5653, .ireturn]),
  (58, none, [.aload 1, .iload 2, .aload 1, .iload 2, .invokevirtual 5781, .invokevirtual 6181, .ireturn]),
  (69, none, [.aload 1, .iload 2, .aload 1, .iload 3, .invokevirtual 5781, .invokevirtual 6181, .ireturn]),
  (80, none, [.aload 1, .iload 2, .invokevirtual 5909, .ireturn]),
  (86, none, [.aload 1, .iload 2, .invokevirtual 6037, .ireturn]),
  (92, none, [.aload 1, .getfield 1284, .iconst 7, .irem, .ireturn])]
theorem tk_38 : bl_38.all (fun q => chk 38 q.1 q.2.2) = true := by decide +kernel
theorem py_38 : plainName (mN 38).cls = true := by decide +kernel
theorem ml_38 : mL 38 = 4 := rfl
/-- Sea.becomes -/
def bl_40 : Tb := [
  (0, none, [.aload 0, .aload 1, .getfield 1280, .putfield 1280, .aload 0, .aload 1, .getfield 1284, .putfield 1284, .aload 0, .aload 1, .getfield 1288, .putfield 1288, .aload 1, .getfield 1295, .iconst 0, .aload 0, .getfield 1295, .iconst 0, .iconst 6, .invokedynamic 0, .aload 1, .getfield 1299, .iconst 0, .aload 0, .getfield 1299, .iconst 0, .iconst 6, .invokedynamic 0, .aload 1, .getfield 1303, .iconst 0, .aload 0, .getfield 1303, .iconst 0, .iconst 6, .invokedynamic 0, .aload 1, .getfield 1307, .iconst 0, .aload 0, .getfield 1307, .iconst 0, .iconst 6, .invokedynamic 0, .aload 1, .getfield 1311, .iconst 0, .aload 0, .getfield 1311, .iconst 0, .iconst 6, .invokedynamic 0, .aload 1, .getfield 1315, .iconst 0, .aload 0, .getfield 1315, .iconst 0, .iconst 24, .invokedynamic 0, .return_])]
theorem tk_40 : bl_40.all (fun q => chk 40 q.1 q.2.2) = true := by decide +kernel
theorem py_40 : plainName (mN 40).cls = true := by decide +kernel
theorem ml_40 : mL 40 = 2 := rfl
/-- Sea.has -/
def bl_41 : Tb := [
  (0, none, [.iload 1, .ifCond .lt 22, .iload 1, .aload 0, .getfield 1280, .if_icmp .ge 22, .iload 1, .iconst 6, .if_icmp .ge 22, .iconst 1, .goto 23]),
  (22, none, [.iconst 0, .freturn]),
  (23, none, [.freturn])]
theorem tk_41 : bl_41.all (fun q => chk 41 q.1 q.2.2) = true := by decide +kernel
theorem py_41 : plainName (mN 41).cls = true := by decide +kernel
theorem ml_41 : mL 41 = 2 := rfl
/-- Sea.isPair -/
def bl_42 : Tb := [
  (0, none, [.aload 0, .iload 1, .invokevirtual 5269, .ifCond .eq 25, .aload 0, .iload 2, .invokevirtual 5269, .ifCond .eq 25, .iload 1, .iload 2, .if_icmp .eq 25, .iconst 1, .goto 26]),
  (25, none, [.iconst 0, .freturn]),
  (26, none, [.freturn])]
theorem tk_42 : bl_42.all (fun q => chk 42 q.1 q.2.2) = true := by decide +kernel
theorem py_42 : plainName (mN 42).cls = true := by decide +kernel
theorem ml_42 : mL 42 = 3 := rfl
/-- Sea.mightOf -/
def bl_43 : Tb := [
  (0, none, [.aload 0, .iload 1, .invokevirtual 5269, .ifCond .eq 17, .aload 0, .getfield 1295, .iload 1, .iaload, .goto 18]),
  (17, none, [.iconst 0, .ireturn]),
  (18, none, [.ireturn])]
theorem tk_43 : bl_43.all (fun q => chk 43 q.1 q.2.2) = true := by decide +kernel
theorem py_43 : plainName (mN 43).cls = true := by decide +kernel
theorem ml_43 : mL 43 = 2 := rfl
/-- Sea.strengthOf -/
def bl_44 : Tb := [
  (0, none, [.aload 0, .iload 1, .invokevirtual 5269, .ifCond .eq 17, .aload 0, .getfield 1299, .iload 1, .iaload, .goto 18]),
  (17, none, [.iconst 0, .ireturn]),
  (18, none, [.ireturn])]
theorem tk_44 : bl_44.all (fun q => chk 44 q.1 q.2.2) = true := by decide +kernel
theorem py_44 : plainName (mN 44).cls = true := by decide +kernel
theorem ml_44 : mL 44 = 2 := rfl
/-- Sea.sideOf -/
def bl_45 : Tb := [
  (0, none, [.aload 0, .iload 1, .invokevirtual 5269, .ifCond .eq 17, .aload 0, .getfield 1303, .iload 1, .iaload, .goto 18]),
  (17, none, [.iconst (-1), .ireturn]),
  (18, none, [.ireturn])]
theorem tk_45 : bl_45.all (fun q => chk 45 q.1 q.2.2) = true := by decide +kernel
theorem py_45 : plainName (mN 45).cls = true := by decide +kernel
theorem ml_45 : mL 45 = 2 := rfl
/-- Sea.wonOf -/
def bl_46 : Tb := [
  (0, none, [.aload 0, .iload 1, .invokevirtual 5269, .ifCond .eq 17, .aload 0, .getfield 1307, .iload 1, .iaload, .goto 18]),
  (17, none, [.iconst 0, .ireturn]),
  (18, none, [.ireturn])]
theorem tk_46 : bl_46.all (fun q => chk 46 q.1 q.2.2) = true := by decide +kernel
theorem py_46 : plainName (mN 46).cls = true := by decide +kernel
theorem ml_46 : mL 46 = 2 := rfl
/-- Sea.lostOf -/
def bl_47 : Tb := [
  (0, none, [.aload 0, .iload 1, .invokevirtual 5269, .ifCond .eq 17, .aload 0, .getfield 1311, .iload 1, .iaload, .goto 18]),
  (17, none, [.iconst 0, .ireturn]),
  (18, none, [.ireturn])]
theorem tk_47 : bl_47.all (fun q => chk 47 q.1 q.2.2) = true := by decide +kernel
theorem py_47 : plainName (mN 47).cls = true := by decide +kernel
theorem ml_47 : mL 47 = 2 := rfl
/-- Sea.parts -/
def bl_48 : Tb := [
  (0, none, [.aload 0, .iload 1, .invokevirtual 5269, .ifCond .eq 28, .iload 2, .invokestatic 18448, .ifCond .eq 28, .aload 0, .getfield 1315, .iload 1, .iconst 4, .imul, .iload 2, .iadd, .iaload, .goto 29]),
  (28, none, [.iconst 0, .ireturn]),
  (29, none, [.ireturn])]
theorem tk_48 : bl_48.all (fun q => chk 48 q.1 q.2.2) = true := by decide +kernel
theorem py_48 : plainName (mN 48).cls = true := by decide +kernel
theorem ml_48 : mL 48 = 3 := rfl
/-- Sea.strangeParts -/
def bl_49 : Tb := [
  (0, none, [.iconst 12, .aload 0, .iload 1, .aload 0, .iload 1, .invokevirtual 5781, .invokevirtual 6181, .isub, .ireturn])]
theorem tk_49 : bl_49.all (fun q => chk 49 q.1 q.2.2) = true := by decide +kernel
theorem py_49 : plainName (mN 49).cls = true := by decide +kernel
theorem ml_49 : mL 49 = 2 := rfl
