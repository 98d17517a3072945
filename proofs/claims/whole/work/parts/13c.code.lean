/-! the methods' code, 100 to 149 -/
/-- C.share -/
def bl_100 : Tb := [
  (0, none, [.iload 1, .invokestatic 18448, .ifCond .eq 17, .aload 0, .getfield 2059, .getfield 1280, .ifCond .ne 19, .iconst (-1), .ireturn]),
  (17, none, [.iconst (-1), .ireturn]),
  (19, none, [.aload 0, .getfield 2055, .invokevirtual 2179, .aload 0, .getfield 2055, .aload 0, .getfield 2059, .iload 1, .invokevirtual 6677, .i2l, .iconst 12, .aload 0, .getfield 2059, .getfield 1280, .imul, .i2l, .invokevirtual 2467, .iconst 0, .ireturn])]
theorem tk_100 : bl_100.all (fun q => chk 100 q.1 q.2.2) = true := by decide +kernel
theorem py_100 : plainName (mN 100).cls = true := by decide +kernel
theorem ml_100 : mL 100 = 2 := rfl
/-- C.later -/
def bl_101 : Tb := [
  (0, none, [.aload 0, .getfield 2059, .iload 1, .invokevirtual 5269, .ifCond .eq 21, .iload 2, .ifCond .lt 21, .iload 2, .iconst 99, .if_icmp .le 23, .iconst (-1), .ireturn]),
  (21, none, [.iconst (-1), .ireturn]),
  (23, none, [.aload 0, .getfield 2067, .aload 0, .getfield 2059, .invokevirtual 5141, .aload 0, .getfield 2067, .iload 2, .invokevirtual 8341, .aload 0, .getfield 2055, .invokevirtual 2179, .iconst 0, .istore 3, .goto_w 51]),
  (51, some [0, 1, 3], [.iload 3, .iconst 4, .if_icmp .ge 79, .aload 0, .getfield 2055, .aload 0, .getfield 2067, .iload 1, .iload 3, .invokevirtual 6181, .i2l, .invokevirtual 2323, .iinc 3 1, .goto 51]),
  (79, none, [.aload 0, .getfield 2067, .iload 1, .invokevirtual 5781, .ireturn])]
theorem tk_101 : bl_101.all (fun q => chk 101 q.1 q.2.2) = true := by decide +kernel
theorem py_101 : plainName (mN 101).cls = true := by decide +kernel
theorem ml_101 : mL 101 = 4 := rfl
/-- C.whole -/
def bl_102 : Tb := [
  (0, none, [.aload 0, .getfield 2059, .iload 1, .invokevirtual 5269, .ifCond .ne 13, .iconst (-1), .ireturn]),
  (13, none, [.aload 0, .getfield 2055, .invokevirtual 2179, .aload 0, .getfield 2055, .aload 0, .getfield 2059, .iload 1, .invokevirtual 5781, .i2l, .invokevirtual 2323, .aload 0, .getfield 2059, .iload 1, .invokevirtual 6293, .ireturn])]
theorem tk_102 : bl_102.all (fun q => chk 102 q.1 q.2.2) = true := by decide +kernel
theorem py_102 : plainName (mN 102).cls = true := by decide +kernel
theorem ml_102 : mL 102 = 2 := rfl
/-- C.sisters -/
def bl_103 : Tb := [
  (0, none, [.aload 0, .getfield 2059, .getfield 1280, .iconst 2, .if_icmp .ge 14, .iconst (-2), .ireturn]),
  (14, none, [.iconst (-1), .istore 1, .iconst 0, .istore 2, .goto_w 18]),
  (18, some [0, 1, 2], [.iload 2, .aload 0, .getfield 2059, .getfield 1280, .if_icmp .ge 106, .iload 2, .iconst 1, .iadd, .istore 3, .goto_w 33]),
  (33, some [0, 1, 2, 3], [.iload 3, .aload 0, .getfield 2059, .getfield 1280, .if_icmp .ge 100, .aload 0, .getfield 2059, .iload 2, .iload 3, .invokevirtual 7205, .istore 4, .iload 1, .iconst (-1), .if_icmp .eq 66, .iload 4, .iload 1, .if_icmp .ge 94, .iload 4, .istore 1, .aload 0, .getfield 2055, .invokevirtual 2179, .aload 0, .getfield 2055, .iload 2, .i2l, .invokevirtual 2323, .aload 0, .getfield 2055, .iload 3, .i2l, .invokevirtual 2323, .iinc 3 1, .goto 33]),
  (66, none, [.iload 4, .istore 1, .aload 0, .getfield 2055, .invokevirtual 2179, .aload 0, .getfield 2055, .iload 2, .i2l, .invokevirtual 2323, .aload 0, .getfield 2055, .iload 3, .i2l, .invokevirtual 2323, .iinc 3 1, .goto 33]),
  (94, none, [.iinc 3 1, .goto 33]),
  (100, none, [.iinc 2 1, .goto 18]),
  (106, none, [.iload 1, .ireturn])]
theorem tk_103 : bl_103.all (fun q => chk 103 q.1 q.2.2) = true := by decide +kernel
theorem py_103 : plainName (mN 103).cls = true := by decide +kernel
theorem ml_103 : mL 103 = 5 := rfl
/-- C.motley -/
def bl_104 : Tb := [
  (0, none, [.aload 0, .getfield 2059, .getfield 1280, .ifCond .ne 13, .iconst (-2), .ireturn]),
  (13, none, [.iconst 0, .istore 1, .iconst 1, .istore 2, .goto_w 17]),
  (17, some [0, 1, 2], [.iload 2, .aload 0, .getfield 2059, .getfield 1280, .if_icmp .ge 55, .aload 0, .getfield 2059, .iload 2, .invokevirtual 6293, .aload 0, .getfield 2059, .iload 1, .invokevirtual 6293, .if_icmp .le 49, .iload 2, .istore 1, .iinc 2 1, .goto 17]),
  (49, none, [.iinc 2 1, .goto 17]),
  (55, none, [.iconst 0, .istore 2, .iconst 0, .istore 3, .goto_w 59]),
  (59, some [0, 1, 2, 3], [.iload 3, .iconst 4, .if_icmp .ge 97, .iload 3, .aload 0, .getfield 2059, .iload 1, .invokevirtual 5781, .if_icmp .eq 91, .aload 0, .getfield 2059, .iload 1, .iload 3, .invokevirtual 6181, .ifCond .le 91, .iinc 2 1, .iinc 3 1, .goto 59]),
  (91, none, [.iinc 3 1, .goto 59]),
  (97, none, [.aload 0, .getfield 2055, .invokevirtual 2179, .aload 0, .getfield 2055, .aload 0, .getfield 2059, .iload 1, .invokevirtual 6293, .i2l, .invokevirtual 2323, .aload 0, .getfield 2055, .iload 2, .i2l, .invokevirtual 2323, .iload 1, .ireturn])]
theorem tk_104 : bl_104.all (fun q => chk 104 q.1 q.2.2) = true := by decide +kernel
theorem py_104 : plainName (mN 104).cls = true := by decide +kernel
theorem ml_104 : mL 104 = 4 := rfl
/-- C.order -/
def bl_105 : Tb := [
  (0, none, [.iload 1, .invokestatic 18448, .ifCond .ne 9, .iconst (-1), .ireturn]),
  (9, none, [.aload 0, .getfield 2055, .invokevirtual 2179, .iconst 0, .istore 2, .iconst 12, .istore 3, .goto_w 21]),
  (21, some [0, 1, 2, 3], [.iload 3, .ifCond .lt 88, .iconst 0, .istore 4, .goto_w 28]),
  (28, some [0, 1, 2, 3, 4], [.iload 4, .aload 0, .getfield 2059, .getfield 1280, .if_icmp .ge 82, .aload 0, .getfield 2059, .iload 4, .iload 1, .invokevirtual 6181, .iload 3, .if_icmp .ne 76, .aload 0, .getfield 2055, .iload 4, .i2l, .invokevirtual 2323, .iload 2, .iload 3, .ifCond .le 73, .iconst 1, .goto 74]),
  (73, none, [.iconst 0, .iadd, .istore 2, .iinc 4 1, .goto 28]),
  (74, none, [.iadd, .istore 2, .iinc 4 1, .goto 28]),
  (76, none, [.iinc 4 1, .goto 28]),
  (82, none, [.iinc 3 (-1), .goto 21]),
  (88, none, [.iload 2, .ireturn])]
theorem tk_105 : bl_105.all (fun q => chk 105 q.1 q.2.2) = true := by decide +kernel
theorem py_105 : plainName (mN 105).cls = true := by decide +kernel
theorem ml_105 : mL 105 = 5 := rfl
/-- C.rivals -/
def bl_106 : Tb := [
  (0, none, [.aload 0, .getfield 2059, .iload 1, .invokevirtual 5269, .ifCond .ne 13, .iconst (-1), .ireturn]),
  (13, none, [.iconst 0, .istore 2, .iconst 0, .istore 3, .iconst 0, .istore 4, .iconst 0, .istore 5, .goto_w 23]),
  (23, some [0, 1, 2, 3, 4, 5], [.iload 5, .aload 0, .getfield 2059, .getfield 1280, .if_icmp .ge 106, .aload 0, .getfield 2059, .aload 0, .getfield 2098, .iload 1, .iload 5, .invokevirtual 7989, .istore 6, .iload 6, .iload 1, .if_icmp .ne 67, .iload 2, .iconst 1, .iload 5, .ishl, .ior, .istore 2, .goto 100]),
  (67, none, [.iload 6, .iload 5, .if_icmp .ne 84, .iload 3, .iconst 1, .iload 5, .ishl, .ior, .istore 3, .goto 100]),
  (84, none, [.iload 6, .iconst (-3), .if_icmp .ne 100, .iload 4, .iconst 1, .iload 5, .ishl, .ior, .istore 4, .iinc 5 1, .goto 23]),
  (100, none, [.iinc 5 1, .goto 23]),
  (106, none, [.aload 0, .getfield 2055, .invokevirtual 2179, .aload 0, .getfield 2055, .iload 3, .i2l, .invokevirtual 2323, .aload 0, .getfield 2055, .iload 4, .i2l, .invokevirtual 2323, .iload 2, .ireturn])]
theorem tk_106 : bl_106.all (fun q => chk 106 q.1 q.2.2) = true := by decide +kernel
theorem py_106 : plainName (mN 106).cls = true := by decide +kernel
theorem ml_106 : mL 106 = 7 := rfl
/-- C.duel -/
def bl_107 : Tb := [
  (0, none, [.aload 0, .getfield 2059, .iload 1, .iload 2, .invokevirtual 5413, .ifCond .eq 23, .iload 3, .iconst 1, .if_icmp .lt 23, .iload 3, .iconst 20, .if_icmp .le 25, .iconst (-1), .ireturn]),
  (23, none, [.iconst (-1), .ireturn]),
  (25, none, [.aload 0, .getfield 2067, .aload 0, .getfield 2059, .invokevirtual 5141, .iconst 0, .istore 4, .iconst 0, .istore 5, .iconst 0, .istore 6, .goto_w 45]),
  (45, some [0, 1, 2, 3, 4, 5, 6], [.iload 6, .iload 3, .if_icmp .ge 111, .aload 0, .getfield 2067, .aload 0, .getfield 2098, .aload 0, .getfield 2104, .iload 1, .iload 2, .invokevirtual 8133, .istore 7, .iload 7, .ifCond .ge 78, .goto 111]),
  (78, none, [.iinc 4 1, .iload 5, .iload 7, .iload 1, .if_icmp .ne 93, .iconst 1, .goto 94]),
  (93, none, [.iconst 0, .iadd, .istore 5, .aload 0, .getfield 2067, .iconst 1, .invokevirtual 8341, .iinc 6 1, .goto 45]),
  (94, none, [.iadd, .istore 5, .aload 0, .getfield 2067, .iconst 1, .invokevirtual 8341, .iinc 6 1, .goto 45]),
  (111, none, [.aload 0, .getfield 2055, .invokevirtual 2179, .aload 0, .getfield 2055, .iload 5, .i2l, .invokevirtual 2323, .aload 0, .getfield 2055, .aload 0, .getfield 2067, .iload 1, .invokevirtual 5781, .i2l, .invokevirtual 2323, .aload 0, .getfield 2055, .aload 0, .getfield 2067, .iload 2, .invokevirtual 5781, .i2l, .invokevirtual 2323, .iload 4, .ireturn])]
theorem tk_107 : bl_107.all (fun q => chk 107 q.1 q.2.2) = true := by decide +kernel
theorem py_107 : plainName (mN 107).cls = true := by decide +kernel
theorem ml_107 : mL 107 = 8 := rfl
/-- C.tempts -/
def bl_108 : Tb := [
  (0, none, [.iload 1, .invokestatic 18448, .ifCond .ne 9, .iconst (-1), .ireturn]),
  (9, none, [.iconst 1, .istore 2, .goto_w 11]),
  (11, some [0, 1, 2], [.iload 2, .iconst 12, .if_icmp .gt 70, .iconst 0, .istore 3, .goto_w 19]),
  (19, some [0, 1, 2, 3], [.iload 3, .aload 0, .getfield 2059, .getfield 1280, .if_icmp .ge 64, .aload 0, .iload 3, .iload 1, .iload 2, .invokevirtual 18872, .ifCond .eq 58, .aload 0, .getfield 2055, .invokevirtual 2179, .aload 0, .getfield 2055, .iload 3, .i2l, .invokevirtual 2323, .iload 2, .ireturn]),
  (58, none, [.iinc 3 1, .goto 19]),
  (64, none, [.iinc 2 1, .goto 11]),
  (70, none, [.iconst (-2), .ireturn])]
theorem tk_108 : bl_108.all (fun q => chk 108 q.1 q.2.2) = true := by decide +kernel
theorem py_108 : plainName (mN 108).cls = true := by decide +kernel
theorem ml_108 : mL 108 = 4 := rfl
/-- C.wins -/
def bl_109 : Tb := [
  (0, none, [.aload 0, .getfield 2067, .aload 0, .getfield 2059, .invokevirtual 5141, .aload 0, .getfield 2067, .aload 0, .getfield 2098, .aload 0, .getfield 2104, .iload 1, .iload 2, .invokevirtual 8133, .istore 3, .iload 3, .ifCond .lt 72, .aload 0, .getfield 2055, .invokevirtual 2179, .aload 0, .getfield 2055, .aload 0, .getfield 2067, .iload 1, .invokevirtual 5781, .i2l, .invokevirtual 2323, .aload 0, .getfield 2055, .aload 0, .getfield 2067, .iload 2, .invokevirtual 5781, .i2l, .invokevirtual 2323, .iload 3, .ireturn]),
  (72, none, [.iload 3, .ireturn])]
theorem tk_109 : bl_109.all (fun q => chk 109 q.1 q.2.2) = true := by decide +kernel
theorem py_109 : plainName (mN 109).cls = true := by decide +kernel
theorem ml_109 : mL 109 = 4 := rfl
/-- C.suits -/
def bl_110 : Tb := [
  (0, none, [.aload 0, .getfield 2059, .iload 1, .invokevirtual 5269, .ifCond .eq 18, .iload 2, .invokestatic 18448, .ifCond .ne 20, .iconst (-1), .ireturn]),
  (18, none, [.iconst (-1), .ireturn]),
  (20, none, [.iconst (-2), .istore 3, .iconst (-1), .istore 4, .iconst 0, .istore 5, .goto_w 29]),
  (29, some [0, 1, 2, 3, 4, 5], [.iload 5, .aload 0, .getfield 2059, .getfield 1280, .if_icmp .ge 107, .aload 0, .getfield 2067, .aload 0, .getfield 2059, .invokevirtual 5141, .aload 0, .getfield 2067, .aload 0, .getfield 2098, .aload 0, .getfield 2104, .iload 1, .iload 5, .invokevirtual 8133, .ifCond .lt 101, .aload 0, .getfield 2067, .iload 1, .iload 2, .invokevirtual 6181, .iload 4, .if_icmp .le 101, .iload 5, .istore 3, .aload 0, .getfield 2067, .iload 1, .iload 2, .invokevirtual 6181, .istore 4, .iinc 5 1, .goto 29]),
  (101, none, [.iinc 5 1, .goto 29]),
  (107, none, [.iload 3, .ifCond .lt 128, .aload 0, .getfield 2055, .invokevirtual 2179, .aload 0, .getfield 2055, .iload 4, .i2l, .invokevirtual 2323, .iload 3, .ireturn]),
  (128, none, [.iload 3, .ireturn])]
theorem tk_110 : bl_110.all (fun q => chk 110 q.1 q.2.2) = true := by decide +kernel
theorem py_110 : plainName (mN 110).cls = true := by decide +kernel
theorem ml_110 : mL 110 = 6 := rfl
/-- C.goesOver -/
def bl_111 : Tb := [
  (0, none, [.aload 0, .getfield 2059, .iload 1, .invokevirtual 5269, .ifCond .eq 18, .iload 2, .invokestatic 18448, .ifCond .ne 20, .iconst (-1), .ireturn]),
  (18, none, [.iconst (-1), .ireturn]),
  (20, none, [.aload 0, .getfield 2083, .aload 0, .getfield 2098, .aload 0, .getfield 2104, .iload 1, .iload 2, .invokevirtual 9030, .aload 0, .aload 0, .getfield 2083, .aload 0, .getfield 2059, .invokevirtual 9366, .invokevirtual 18968, .ireturn])]
theorem tk_111 : bl_111.all (fun q => chk 111 q.1 q.2.2) = true := by decide +kernel
theorem py_111 : plainName (mN 111).cls = true := by decide +kernel
theorem ml_111 : mL 111 = 3 := rfl
/-- C.peace -/
def bl_112 : Tb := [
  (0, none, [.aload 0, .getfield 2083, .aload 0, .getfield 2098, .aload 0, .getfield 2104, .iconst (-1), .iconst (-1), .invokevirtual 9030, .aload 0, .aload 0, .getfield 2083, .aload 0, .getfield 2059, .invokevirtual 9366, .invokevirtual 18968, .ireturn])]
theorem tk_112 : bl_112.all (fun q => chk 112 q.1 q.2.2) = true := by decide +kernel
theorem py_112 : plainName (mN 112).cls = true := by decide +kernel
theorem ml_112 : mL 112 = 1 := rfl
/-- C.campaign -/
def bl_113 : Tb := [
  (0, none, [.iload 1, .ifCond .lt 10, .iload 1, .iconst 40, .if_icmp .le 12, .iconst (-1), .ireturn]),
  (10, none, [.iconst (-1), .ireturn]),
  (12, none, [.aload 0, .getfield 2067, .aload 0, .getfield 2059, .invokevirtual 5141, .iconst 0, .istore 2, .goto_w 25]),
  (25, some [0, 1, 2], [.iload 2, .iload 1, .if_icmp .ge 48, .aload 0, .invokevirtual 19080, .aload 0, .getfield 2067, .iconst 1, .invokevirtual 8341, .iinc 2 1, .goto 25]),
  (48, none, [.aload 0, .getfield 2055, .invokevirtual 2179, .iconst 0, .istore 2, .goto_w 57]),
  (57, some [0, 2], [.iload 2, .aload 0, .getfield 2067, .getfield 1280, .if_icmp .ge 90, .aload 0, .getfield 2055, .aload 0, .getfield 2067, .iload 2, .invokevirtual 5781, .i2l, .invokevirtual 2323, .iinc 2 1, .goto 57]),
  (90, none, [.aload 0, .getfield 2067, .getfield 1288, .aload 0, .getfield 2059, .getfield 1288, .isub, .ireturn])]
theorem tk_113 : bl_113.all (fun q => chk 113 q.1 q.2.2) = true := by decide +kernel
theorem py_113 : plainName (mN 113).cls = true := by decide +kernel
theorem ml_113 : mL 113 = 3 := rfl
/-- C.halves -/
def bl_114 : Tb := [
  (0, none, [.iload 1, .invokestatic 18448, .ifCond .ne 9, .iconst (-1), .ireturn]),
  (9, none, [.iconst (-2), .istore 2, .iconst 1, .istore 3, .goto_w 14]),
  (14, some [0, 1, 2, 3], [.iload 3, .iconst 1, .aload 0, .getfield 2059, .getfield 1280, .ishl, .if_icmp .ge 101, .iload 3, .invokestatic 36496, .istore 4, .iload 2, .iconst (-2), .if_icmp .eq 45, .iload 4, .iload 2, .if_icmp .ge 49, .iconst 1, .goto 50]),
  (45, none, [.iconst 1, .goto 50]),
  (49, none, [.iconst 0, .istore 5, .iload 5, .ifCond .eq 95, .iconst 2, .aload 0, .getfield 2059, .iload 3, .iload 1, .invokevirtual 6821, .imul, .iconst 12, .iload 4, .imul, .if_icmp .ne 95, .iload 4, .istore 2, .aload 0, .getfield 2055, .invokevirtual 2179, .aload 0, .getfield 2055, .iload 3, .i2l, .invokevirtual 2323, .iinc 3 1, .goto 14]),
  (50, none, [.istore 5, .iload 5, .ifCond .eq 95, .iconst 2, .aload 0, .getfield 2059, .iload 3, .iload 1, .invokevirtual 6821, .imul, .iconst 12, .iload 4, .imul, .if_icmp .ne 95, .iload 4, .istore 2, .aload 0, .getfield 2055, .invokevirtual 2179, .aload 0, .getfield 2055, .iload 3, .i2l, .invokevirtual 2323, .iinc 3 1, .goto 14]),
  (95, none, [.iinc 3 1, .goto 14]),
  (101, none, [.iload 2, .ireturn])]
theorem tk_114 : bl_114.all (fun q => chk 114 q.1 q.2.2) = true := by decide +kernel
theorem py_114 : plainName (mN 114).cls = true := by decide +kernel
theorem ml_114 : mL 114 = 6 := rfl
/-- C.evens -/
def bl_115 : Tb := [
  (0, none, [.aload 0, .getfield 2059, .invokevirtual 6405, .istore 1, .iconst 0, .istore 2, .iload 1, .istore 3, .iconst 0, .istore 4, .goto_w 15]),
  (15, some [0, 1, 2, 3, 4], [.iload 4, .iconst 1, .aload 0, .getfield 2059, .getfield 1280, .ishl, .if_icmp .ge 65, .iload 1, .iconst 2, .aload 0, .getfield 2059, .iload 4, .invokevirtual 6549, .imul, .isub, .invokestatic 36752, .istore 5, .iload 5, .iload 3, .if_icmp .ge 59, .iload 5, .istore 3, .iload 4, .istore 2, .iinc 4 2, .goto 15]),
  (59, none, [.iinc 4 2, .goto 15]),
  (65, none, [.aload 0, .getfield 2055, .invokevirtual 2179, .aload 0, .getfield 2055, .iload 2, .i2l, .invokevirtual 2323, .iload 3, .ireturn])]
theorem tk_115 : bl_115.all (fun q => chk 115 q.1 q.2.2) = true := by decide +kernel
theorem py_115 : plainName (mN 115).cls = true := by decide +kernel
theorem ml_115 : mL 115 = 6 := rfl
/-- C.worth -/
def bl_116 : Tb := [
  (0, none, [.aload 0, .getfield 2059, .iload 1, .invokevirtual 5269, .ifCond .ne 13, .iconst (-1), .ireturn]),
  (13, none, [.aload 0, .getfield 2059, .invokevirtual 6405, .istore 2, .iconst 0, .istore 3, .iconst 0, .istore 4, .goto_w 26]),
  (26, some [0, 1, 2, 3, 4], [.iload 4, .iconst 1, .aload 0, .getfield 2059, .getfield 1280, .ishl, .if_icmp .ge 125, .iload 4, .iconst 1, .iload 1, .ishl, .iand, .ifCond .eq 52, .goto 119]),
  (52, none, [.aload 0, .getfield 2059, .iload 4, .invokevirtual 6549, .istore 5, .iconst 2, .iload 5, .imul, .iload 2, .if_icmp .gt 119, .iconst 2, .iload 5, .aload 0, .getfield 2059, .iload 1, .invokevirtual 5653, .iadd, .imul, .iload 2, .if_icmp .le 119, .iload 4, .invokestatic 36496, .istore 6, .iload 3, .iload 6, .invokestatic 20880, .aload 0, .getfield 2059, .getfield 1280, .iconst 1, .isub, .iload 6, .isub, .invokestatic 20880, .imul, .iadd, .istore 3, .iinc 4 1, .goto 26]),
  (119, none, [.iinc 4 1, .goto 26]),
  (125, none, [.aload 0, .getfield 2055, .invokevirtual 2179, .aload 0, .getfield 2055, .iload 3, .i2l, .aload 0, .getfield 2059, .getfield 1280, .invokestatic 20880, .i2l, .invokevirtual 2467, .iconst 0, .ireturn])]
theorem tk_116 : bl_116.all (fun q => chk 116 q.1 q.2.2) = true := by decide +kernel
theorem py_116 : plainName (mN 116).cls = true := by decide +kernel
theorem ml_116 : mL 116 = 7 := rfl
/-- C.patched -/
def bl_117 : Tb := [
  (0, none, [.iload 1, .invokestatic 18448, .ifCond .eq 17, .iload 2, .ifCond .lt 17, .iload 2, .iconst 12, .if_icmp .le 19, .iconst (-1), .ireturn]),
  (17, none, [.iconst (-1), .ireturn]),
  (19, none, [.iconst 0, .istore 3, .iconst 0, .istore 4, .iconst 0, .istore 5, .goto_w 27]),
  (27, some [0, 1, 2, 3, 4, 5], [.iload 5, .aload 0, .getfield 2059, .getfield 1280, .if_icmp .ge 83, .aload 0, .getfield 2059, .iload 5, .iload 1, .invokevirtual 6181, .istore 6, .iload 3, .iload 6, .iload 2, .if_icmp .lt 65, .iconst 1, .iload 5, .ishl, .goto 66]),
  (65, none, [.iconst 0, .ior, .istore 3, .iload 4, .iload 6, .invokestatic 36896, .istore 4, .iinc 5 1, .goto 27]),
  (66, none, [.ior, .istore 3, .iload 4, .iload 6, .invokestatic 36896, .istore 4, .iinc 5 1, .goto 27]),
  (83, none, [.aload 0, .getfield 2055, .invokevirtual 2179, .aload 0, .getfield 2055, .iload 3, .invokestatic 36496, .i2l, .invokevirtual 2323, .aload 0, .getfield 2055, .iload 4, .i2l, .invokevirtual 2323, .iload 3, .ireturn])]
theorem tk_117 : bl_117.all (fun q => chk 117 q.1 q.2.2) = true := by decide +kernel
theorem py_117 : plainName (mN 117).cls = true := by decide +kernel
theorem ml_117 : mL 117 = 7 := rfl
/-- C.seen -/
def bl_118 : Tb := [
  (0, none, [.iload 2, .ifCond .lt 12, .iload 2, .iload 1, .invokestatic 19984, .if_icmp .le 14, .iconst (-1), .ireturn]),
  (12, none, [.iconst (-1), .ireturn]),
  (14, none, [.aload 0, .getfield 2087, .iload 1, .iload 2, .iconst 0, .invokevirtual 817, .ifCond .eq 37, .aload 0, .getfield 2087, .getfield 268, .goto 38]),
  (37, none, [.iconst (-1), .ireturn]),
  (38, none, [.ireturn])]
theorem tk_118 : bl_118.all (fun q => chk 118 q.1 q.2.2) = true := by decide +kernel
theorem py_118 : plainName (mN 118).cls = true := by decide +kernel
theorem ml_118 : mL 118 = 3 := rfl
/-- C.forget -/
def bl_119 : Tb := [
  (0, none, [.aload 0, .getfield 2087, .invokevirtual 897, .ireturn])]
theorem tk_119 : bl_119.all (fun q => chk 119 q.1 q.2.2) = true := by decide +kernel
theorem py_119 : plainName (mN 119).cls = true := by decide +kernel
theorem ml_119 : mL 119 = 1 := rfl
/-- C.fits -/
def bl_120 : Tb := [
  (0, none, [.aload 0, .invokevirtual 20104, .istore 1, .aload 0, .getfield 2055, .invokevirtual 2179, .aload 0, .getfield 2055, .iload 1, .invokestatic 36496, .i2l, .invokevirtual 2323, .iload 1, .ireturn])]
theorem tk_120 : bl_120.all (fun q => chk 120 q.1 q.2.2) = true := by decide +kernel
theorem py_120 : plainName (mN 120).cls = true := by decide +kernel
theorem ml_120 : mL 120 = 2 := rfl
/-- C.looks -/
def bl_121 : Tb := [
  (0, none, [.aload 0, .invokevirtual 20104, .istore 1, .iload 1, .ifCond .ne 12, .iconst (-2), .ireturn]),
  (12, none, [.iload 1, .invokestatic 36496, .istore 2, .iconst 0, .istore 3, .iconst 7, .istore 4, .iconst 0, .istore 5, .goto_w 26]),
  (26, some [0, 1, 2, 3, 4, 5], [.iload 5, .iconst 4, .if_icmp .ge 76, .iload 1, .aload 0, .iload 5, .invokevirtual 19864, .iand, .invokestatic 36496, .istore 6, .iload 6, .iload 2, .iload 6, .isub, .invokestatic 36896, .istore 7, .iload 7, .iload 4, .if_icmp .ge 70, .iload 7, .istore 4, .iload 5, .istore 3, .iinc 5 1, .goto 26]),
  (70, none, [.iinc 5 1, .goto 26]),
  (76, none, [.aload 0, .getfield 2055, .invokevirtual 2179, .aload 0, .getfield 2055, .iload 4, .i2l, .invokevirtual 2323, .iload 3, .ireturn])]
theorem tk_121 : bl_121.all (fun q => chk 121 q.1 q.2.2) = true := by decide +kernel
theorem py_121 : plainName (mN 121).cls = true := by decide +kernel
theorem ml_121 : mL 121 = 8 := rfl
/-- C.told -/
def bl_122 : Tb := [
  (0, none, [.iload 1, .ifCond .lt 31, .iload 1, .iconst 12, .if_icmp .gt 31, .iload 2, .ifCond .lt 31, .iload 2, .iconst 12, .iload 1, .isub, .if_icmp .gt 31, .iload 3, .ifCond .lt 31, .iload 3, .iconst 1, .if_icmp .le 33, .iconst (-1), .ireturn]),
  (31, none, [.iconst (-1), .ireturn]),
  (33, none, [.aload 0, .getfield 2091, .iload 1, .iload 2, .iload 3, .invokevirtual 817, .ifCond .eq 56, .aload 0, .getfield 2091, .getfield 268, .goto 57]),
  (56, none, [.iconst (-1), .ireturn]),
  (57, none, [.ireturn])]
theorem tk_122 : bl_122.all (fun q => chk 122 q.1 q.2.2) = true := by decide +kernel
theorem py_122 : plainName (mN 122).cls = true := by decide +kernel
theorem ml_122 : mL 122 = 4 := rfl
/-- C.deny -/
def bl_123 : Tb := [
  (0, none, [.aload 0, .getfield 2091, .invokevirtual 897, .ireturn])]
theorem tk_123 : bl_123.all (fun q => chk 123 q.1 q.2.2) = true := by decide +kernel
theorem py_123 : plainName (mN 123).cls = true := by decide +kernel
theorem ml_123 : mL 123 = 1 := rfl
/-- C.laws -/
def bl_124 : Tb := [
  (0, none, [.aload 0, .getfield 2095, .aload 0, .getfield 2091, .invokevirtual 144, .istore 1, .aload 0, .getfield 2055, .invokevirtual 2179, .iload 1, .ifCond .le 59, .aload 0, .getfield 2055, .aload 0, .getfield 2095, .getfield 4, .iconst 13, .idiv, .i2l, .invokevirtual 2323, .aload 0, .getfield 2055, .aload 0, .getfield 2095, .getfield 4, .iconst 13, .irem, .i2l, .invokevirtual 2323, .iload 1, .ireturn]),
  (59, none, [.iload 1, .ireturn])]
theorem tk_124 : bl_124.all (fun q => chk 124 q.1 q.2.2) = true := by decide +kernel
theorem py_124 : plainName (mN 124).cls = true := by decide +kernel
theorem ml_124 : mL 124 = 2 := rfl
/-- C.asks -/
def bl_125 : Tb := [
  (0, none, [.aload 0, .getfield 2095, .aload 0, .getfield 2091, .invokevirtual 144, .istore 1, .iload 1, .ifCond .ne 19, .iconst (-2), .ireturn]),
  (19, none, [.iconst 0, .istore 2, .iload 1, .iconst 1, .iadd, .istore 3, .iconst 0, .istore 4, .goto_w 28]),
  (28, some [0, 1, 2, 3, 4], [.iload 4, .iconst 12, .if_icmp .gt 102, .iconst 0, .istore 5, .goto_w 38]),
  (38, some [0, 1, 2, 3, 4, 5], [.iload 5, .iconst 12, .iload 4, .isub, .if_icmp .gt 96, .aload 0, .getfield 2095, .iload 4, .iload 5, .invokevirtual 416, .istore 6, .iload 6, .iload 1, .iload 6, .isub, .invokestatic 36896, .istore 7, .iload 7, .iload 3, .if_icmp .ge 90, .iload 7, .istore 3, .iconst 13, .iload 4, .imul, .iload 5, .iadd, .istore 2, .iinc 5 1, .goto 38]),
  (90, none, [.iinc 5 1, .goto 38]),
  (96, none, [.iinc 4 1, .goto 28]),
  (102, none, [.aload 0, .getfield 2055, .invokevirtual 2179, .aload 0, .getfield 2055, .iload 3, .i2l, .invokevirtual 2323, .iload 2, .ireturn])]
theorem tk_125 : bl_125.all (fun q => chk 125 q.1 q.2.2) = true := by decide +kernel
theorem py_125 : plainName (mN 125).cls = true := by decide +kernel
theorem ml_125 : mL 125 = 8 := rfl
/-- C.treaty -/
def bl_126 : Tb := [
  (0, none, [.iload 1, .ifCond .lt 20, .iload 1, .iconst 30, .if_icmp .gt 20, .iload 2, .ifCond .lt 20, .iload 2, .iconst 30, .if_icmp .le 22, .iconst (-1), .ireturn]),
  (20, none, [.iconst (-1), .ireturn]),
  (22, none, [.aload 0, .getfield 2055, .invokevirtual 2179, .iload 1, .iload 2, .invokestatic 20512, .ifCond .eq 39, .iconst 0, .ireturn]),
  (39, none, [.iconst 0, .istore 3, .goto_w 41]),
  (41, some [0, 1, 2, 3], [.iload 3, .iload 1, .if_icmp .gt 128, .iconst 0, .istore 4, .goto_w 49]),
  (49, some [0, 1, 2, 3, 4], [.iload 4, .iload 2, .if_icmp .gt 122, .iload 3, .ifCond .eq 70, .iload 4, .ifCond .eq 70, .iload 3, .iload 4, .if_icmp .ne 74, .iconst 1, .goto 75]),
  (70, none, [.iconst 1, .goto 75]),
  (74, none, [.iconst 0, .istore 5, .iload 5, .ifCond .eq 116, .iload 1, .iload 3, .isub, .iload 2, .iload 4, .isub, .invokestatic 20512, .ifCond .eq 116, .aload 0, .getfield 2055, .iload 3, .i2l, .invokevirtual 2323, .aload 0, .getfield 2055, .iload 4, .i2l, .invokevirtual 2323, .iconst 1, .ireturn]),
  (75, none, [.istore 5, .iload 5, .ifCond .eq 116, .iload 1, .iload 3, .isub, .iload 2, .iload 4, .isub, .invokestatic 20512, .ifCond .eq 116, .aload 0, .getfield 2055, .iload 3, .i2l, .invokevirtual 2323, .aload 0, .getfield 2055, .iload 4, .i2l, .invokevirtual 2323, .iconst 1, .ireturn]),
  (116, none, [.iinc 4 1, .goto 49]),
  (122, none, [.iinc 3 1, .goto 41]),
  (128, none, [.iconst 0, .ireturn])]
theorem tk_126 : bl_126.all (fun q => chk 126 q.1 q.2.2) = true := by decide +kernel
theorem py_126 : plainName (mN 126).cls = true := by decide +kernel
theorem ml_126 : mL 126 = 6 := rfl
/-- C.series -/
def bl_127 : Tb := [
  (0, none, [.iload 1, .iconst 1, .if_icmp .lt 32, .iload 1, .iconst 8, .if_icmp .gt 32, .iload 2, .iconst 1, .if_icmp .lt 32, .iload 2, .iconst 8, .if_icmp .gt 32, .iload 3, .ifCond .lt 32, .iload 3, .iconst 10, .if_icmp .le 34, .iconst (-1), .ireturn]),
  (32, none, [.iconst (-1), .ireturn]),
  (34, none, [.ldc2_w 1, .lstore 4, .ldc2_w 0, .lstore 6, .iconst 0, .istore 8, .goto_w 43]),
  (43, some [0, 1, 2, 3, 4, 6, 8], [.iload 8, .iload 2, .if_icmp .ge 111, .iload 8, .ifCond .le 70, .lload 4, .iload 1, .iconst 1, .isub, .iload 8, .iadd, .i2l, .lmul, .iload 8, .i2l, .ldiv, .lstore 4, .lload 6, .lload 4, .iload 3, .iload 1, .invokestatic 21024, .lmul, .iconst 10, .iload 3, .isub, .iload 8, .invokestatic 21024, .lmul, .iconst 10, .iload 2, .iconst 1, .isub, .iload 8, .isub, .invokestatic 21024, .lmul, .ladd, .lstore 6, .iinc 8 1, .goto 43]),
  (70, none, [.lload 6, .lload 4, .iload 3, .iload 1, .invokestatic 21024, .lmul, .iconst 10, .iload 3, .isub, .iload 8, .invokestatic 21024, .lmul, .iconst 10, .iload 2, .iconst 1, .isub, .iload 8, .isub, .invokestatic 21024, .lmul, .ladd, .lstore 6, .iinc 8 1, .goto 43]),
  (111, none, [.aload 0, .getfield 2055, .invokevirtual 2179, .aload 0, .getfield 2055, .lload 6, .iconst 10, .iload 1, .iload 2, .iadd, .iconst 1, .isub, .invokestatic 21024, .invokevirtual 2467, .iconst 0, .ireturn])]
theorem tk_127 : bl_127.all (fun q => chk 127 q.1 q.2.2) = true := by decide +kernel
theorem py_127 : plainName (mN 127).cls = true := by decide +kernel
theorem ml_127 : mL 127 = 9 := rfl
/-- C.rests -/
def bl_128 : Tb := [
  (0, none, [.iload 1, .ifCond .lt 10, .iload 1, .iconst 20, .if_icmp .le 12, .iconst (-1), .ireturn]),
  (10, none, [.iconst (-1), .ireturn]),
  (12, none, [.aload 0, .getfield 2055, .invokevirtual 2179, .iconst 0, .istore 2, .iconst 0, .istore 3, .goto_w 23]),
  (23, some [0, 1, 2, 3], [.iload 3, .iconst 9, .if_icmp .gt 100, .iconst 0, .istore 4, .goto_w 32]),
  (32, some [0, 1, 2, 3, 4], [.iload 4, .iconst 9, .if_icmp .gt 94, .iload 1, .iload 3, .iload 4, .invokestatic 20656, .ifCond .eq 88, .iload 1, .iload 4, .iload 3, .invokestatic 20656, .ifCond .ne 62, .goto 88]),
  (62, none, [.iload 2, .ifCond .ne 85, .aload 0, .getfield 2055, .iload 3, .i2l, .invokevirtual 2323, .aload 0, .getfield 2055, .iload 4, .i2l, .invokevirtual 2323, .iinc 2 1, .iinc 4 1, .goto 32]),
  (85, none, [.iinc 2 1, .iinc 4 1, .goto 32]),
  (88, none, [.iinc 4 1, .goto 32]),
  (94, none, [.iinc 3 1, .goto 23]),
  (100, none, [.iload 2, .ireturn])]
theorem tk_128 : bl_128.all (fun q => chk 128 q.1 q.2.2) = true := by decide +kernel
theorem py_128 : plainName (mN 128).cls = true := by decide +kernel
theorem ml_128 : mL 128 = 5 := rfl
/-- C.law -/
def bl_129 : Tb := [
  (0, none, [.aload 0, .invokevirtual 17544, .istore 1, .iload 1, .iconst (-1), .if_icmp .eq 16, .iconst (-10000), .iload 1, .isub, .ireturn]),
  (16, none, [.aload 0, .aload 0, .getfield 2102, .invokevirtual 19224, .istore 2, .aload 0, .aload 0, .getfield 2098, .invokevirtual 19224, .istore 3, .aload 0, .getfield 2055, .invokevirtual 2179, .aload 0, .getfield 2055, .iload 2, .i2l, .invokevirtual 2323, .aload 0, .getfield 2055, .iload 3, .i2l, .invokevirtual 2323, .iload 2, .iload 3, .isub, .ireturn])]
theorem tk_129 : bl_129.all (fun q => chk 129 q.1 q.2.2) = true := by decide +kernel
theorem py_129 : plainName (mN 129).cls = true := by decide +kernel
theorem ml_129 : mL 129 = 4 := rfl
/-- C.years -/
def bl_130 : Tb := [
  (0, none, [.iload 2, .iconst 1, .if_icmp .lt 11, .iload 2, .iconst 60, .if_icmp .le 13, .iconst (-1), .ireturn]),
  (11, none, [.iconst (-1), .ireturn]),
  (13, none, [.aload 0, .iload 1, .putfield 2112, .aload 0, .getfield 2067, .aload 0, .getfield 2059, .invokevirtual 5141, .iconst 0, .istore 3, .goto_w 31]),
  (31, some [0, 2, 3], [.iload 3, .iload 2, .if_icmp .ge 46, .aload 0, .invokevirtual 19336, .iinc 3 1, .goto 31]),
  (46, none, [.aload 0, .getfield 2055, .invokevirtual 2179, .aload 0, .getfield 2055, .aload 0, .getfield 2067, .invokevirtual 6405, .i2l, .invokevirtual 2323, .aload 0, .getfield 2055, .aload 0, .getfield 2067, .invokevirtual 6917, .i2l, .invokevirtual 2323, .aload 0, .getfield 2067, .getfield 1288, .aload 0, .getfield 2059, .getfield 1288, .isub, .ireturn])]
theorem tk_130 : bl_130.all (fun q => chk 130 q.1 q.2.2) = true := by decide +kernel
theorem py_130 : plainName (mN 130).cls = true := by decide +kernel
theorem ml_130 : mL 130 = 4 := rfl
/-- C.keep -/
def bl_131 : Tb := [
  (0, none, [.iload 1, .ifCond .lt 9, .iload 1, .iconst 2, .if_icmp .lt 11, .iconst 0, .freturn]),
  (9, none, [.iconst 0, .freturn]),
  (11, none, [.aload 0, .iload 1, .invokevirtual 18712, .aload 0, .getfield 2059, .invokevirtual 5141, .aload 0, .dup, .getfield 2108, .iconst 1, .iload 1, .ishl, .ior, .putfield 2108, .iconst 1, .freturn])]
theorem tk_131 : bl_131.all (fun q => chk 131 q.1 q.2.2) = true := by decide +kernel
theorem py_131 : plainName (mN 131).cls = true := by decide +kernel
theorem ml_131 : mL 131 = 2 := rfl
/-- C.again -/
def bl_132 : Tb := [
  (0, none, [.iload 1, .ifCond .lt 20, .iload 1, .iconst 2, .if_icmp .ge 20, .aload 0, .getfield 2108, .iconst 1, .iload 1, .ishl, .iand, .ifCond .ne 22, .iconst 0, .freturn]),
  (20, none, [.iconst 0, .freturn]),
  (22, none, [.aload 0, .getfield 2059, .aload 0, .iload 1, .invokevirtual 18712, .invokevirtual 5141, .aload 0, .getfield 2071, .invokevirtual 1538, .iconst 1, .freturn])]
theorem tk_132 : bl_132.all (fun q => chk 132 q.1 q.2.2) = true := by decide +kernel
theorem py_132 : plainName (mN 132).cls = true := by decide +kernel
theorem ml_132 : mL 132 = 2 := rfl
/-- C.count -/
def bl_133 : Tb := [
  (0, none, [.iload 1, .lookupswitch 175 #[(0, 72), (1, 80), (2, 85), (3, 93), (4, 101), (5, 109), (6, 117), (7, 125), (8, 133), (9, 141), (10, 149), (11, 157), (12, 165), (13, 170)]]),
  (72, none, [.aload 0, .getfield 2059, .getfield 1280, .ireturn]),
  (80, none, [.aload 0, .getfield 2104, .ireturn]),
  (85, none, [.aload 0, .getfield 2059, .getfield 1284, .ireturn]),
  (93, none, [.aload 0, .getfield 2059, .getfield 1288, .ireturn]),
  (101, none, [.aload 0, .getfield 2059, .invokevirtual 6405, .ireturn]),
  (109, none, [.aload 0, .getfield 2059, .invokevirtual 6917, .ireturn]),
  (117, none, [.aload 0, .getfield 2059, .invokevirtual 7045, .ireturn]),
  (125, none, [.aload 0, .getfield 2087, .getfield 268, .ireturn]),
  (133, none, [.aload 0, .getfield 2091, .getfield 268, .ireturn]),
  (141, none, [.aload 0, .getfield 2071, .getfield 520, .ireturn]),
  (149, none, [.aload 0, .getfield 2055, .getfield 772, .ireturn]),
  (157, none, [.aload 0, .getfield 2051, .getfield 1796, .ireturn]),
  (165, none, [.aload 0, .invokevirtual 19592, .ireturn]),
  (170, none, [.aload 0, .invokevirtual 19720, .ireturn]),
  (175, none, [.iconst (-1), .ireturn])]
theorem tk_133 : bl_133.all (fun q => chk 133 q.1 q.2.2) = true := by decide +kernel
theorem py_133 : plainName (mN 133).cls = true := by decide +kernel
theorem ml_133 : mL 133 = 2 := rfl
/-- C.faultOfShips -/
def bl_135 : Tb := [
  (0, none, [.iload 1, .iconst 17, .invokestatic 37024, .istore 2, .iconst 0, .istore 3, .goto_w 9]),
  (9, some [0, 1, 2, 3], [.iload 3, .iload 2, .if_icmp .ge 30, .aload 0, .iload 3, .invokevirtual 17432, .ifCond .ne 24, .iload 3, .ireturn]),
  (24, none, [.iinc 3 1, .goto 9]),
  (30, none, [.iload 2, .ifCond .le 43, .iload 2, .iconst 3, .irem, .iconst 2, .if_icmp .eq 43, .iload 2, .ireturn]),
  (43, none, [.iload 1, .iconst 17, .if_icmp .le 54, .iconst 17, .goto 55]),
  (54, none, [.iconst (-1), .ireturn]),
  (55, none, [.ireturn])]
theorem tk_135 : bl_135.all (fun q => chk 135 q.1 q.2.2) = true := by decide +kernel
theorem py_135 : plainName (mN 135).cls = true := by decide +kernel
theorem ml_135 : mL 135 = 4 := rfl
/-- C.standsInShips -/
def bl_136 : Tb := [
  (0, none, [.aload 0, .getfield 2051, .iload 1, .invokevirtual 10519, .istore 2, .iload 1, .iconst 3, .irem, .lookupswitch 88 #[(0, 40), (1, 69)]]),
  (40, none, [.iload 2, .invokestatic 18320, .ifCond .eq 67, .aload 0, .getfield 2059, .getfield 1280, .iload 1, .iconst 3, .idiv, .iadd, .iconst 6, .if_icmp .ge 67, .iconst 1, .goto 68]),
  (67, none, [.iconst 0, .freturn]),
  (68, none, [.freturn]),
  (69, none, [.iload 2, .invokestatic 18192, .ifCond .eq 86, .iload 2, .iconst 48, .if_icmp .eq 86, .iconst 1, .goto 87]),
  (86, none, [.iconst 0, .freturn]),
  (87, none, [.freturn]),
  (88, none, [.iload 2, .iconst 59, .if_icmp .ne 98, .iconst 1, .goto 99]),
  (98, none, [.iconst 0, .freturn]),
  (99, none, [.freturn])]
theorem tk_136 : bl_136.all (fun q => chk 136 q.1 q.2.2) = true := by decide +kernel
theorem py_136 : plainName (mN 136).cls = true := by decide +kernel
theorem ml_136 : mL 136 = 3 := rfl
/-- C.readsOtherRule -/
def bl_137 : Tb := [
  (0, none, [.aload 0, .getfield 2051, .invokevirtual 10631, .istore 1, .iload 1, .ifCond .ne 27, .aload 0, .getfield 2102, .getstatic 2, .getstatic 2, .arraylength, .invokevirtual 3108, .ireturn]),
  (27, none, [.aload 0, .getfield 2102, .aload 0, .getfield 2051, .getfield 1795, .iload 1, .invokevirtual 3108, .ireturn])]
theorem tk_137 : bl_137.all (fun q => chk 137 q.1 q.2.2) = true := by decide +kernel
theorem py_137 : plainName (mN 137).cls = true := by decide +kernel
theorem ml_137 : mL 137 = 2 := rfl
/-- C.faultOfWar -/
def bl_138 : Tb := [
  (0, none, [.iload 1, .iconst 60, .invokestatic 37024, .istore 2, .iconst 0, .istore 3, .iconst 0, .istore 4, .goto_w 12]),
  (12, some [0, 1, 2, 3, 4], [.iload 4, .iload 2, .if_icmp .ge 75, .iload 4, .iload 3, .isub, .aload 0, .getfield 2051, .iload 3, .invokevirtual 10519, .invokestatic 17936, .if_icmp .ne 39, .iload 4, .istore 3, .aload 0, .getfield 2051, .iload 3, .invokevirtual 10519, .iload 4, .iload 3, .isub, .aload 0, .getfield 2051, .iload 4, .invokevirtual 10519, .invokestatic 17840, .ifCond .ne 69, .iload 4, .ireturn]),
  (39, none, [.aload 0, .getfield 2051, .iload 3, .invokevirtual 10519, .iload 4, .iload 3, .isub, .aload 0, .getfield 2051, .iload 4, .invokevirtual 10519, .invokestatic 17840, .ifCond .ne 69, .iload 4, .ireturn]),
  (69, none, [.iinc 4 1, .goto 12]),
  (75, none, [.iload 2, .ifCond .le 98, .iload 2, .iload 3, .isub, .aload 0, .getfield 2051, .iload 3, .invokevirtual 10519, .invokestatic 17936, .if_icmp .eq 98, .iload 2, .ireturn]),
  (98, none, [.iload 1, .iconst 60, .if_icmp .le 109, .iconst 60, .goto 110]),
  (109, none, [.iconst (-1), .ireturn]),
  (110, none, [.ireturn])]
theorem tk_138 : bl_138.all (fun q => chk 138 q.1 q.2.2) = true := by decide +kernel
theorem py_138 : plainName (mN 138).cls = true := by decide +kernel
theorem ml_138 : mL 138 = 5 := rfl
/-- C.standsInAct -/
def bl_139 : Tb := [
  (0, none, [.iload 1, .ifCond .ne 34, .iload 0, .iconst 102, .if_icmp .eq 28, .iload 0, .iconst 110, .if_icmp .eq 28, .iload 0, .iconst 115, .if_icmp .eq 28, .iload 0, .iconst 121, .if_icmp .ne 32, .iconst 1, .goto 33]),
  (28, none, [.iconst 1, .goto 33]),
  (32, none, [.iconst 0, .freturn]),
  (33, none, [.freturn]),
  (34, none, [.iload 1, .iconst 2, .if_icmp .ne 50, .iload 0, .iconst 102, .if_icmp .eq 50, .iload 2, .invokestatic 18320, .freturn]),
  (50, none, [.iload 2, .invokestatic 18192, .ifCond .eq 72, .iload 1, .iconst 3, .if_icmp .ne 68, .iload 2, .iconst 48, .if_icmp .eq 72, .iconst 1, .goto 73]),
  (68, none, [.iconst 1, .goto 73]),
  (72, none, [.iconst 0, .freturn]),
  (73, none, [.freturn])]
theorem tk_139 : bl_139.all (fun q => chk 139 q.1 q.2.2) = true := by decide +kernel
theorem py_139 : plainName (mN 139).cls = true := by decide +kernel
theorem ml_139 : mL 139 = 3 := rfl
/-- C.lengthOfAct -/
def bl_140 : Tb := [
  (0, none, [.iload 0, .lookupswitch 32 #[(110, 28), (115, 30)]]),
  (28, none, [.iconst 2, .ireturn]),
  (30, none, [.iconst 4, .ireturn]),
  (32, none, [.iconst 3, .ireturn])]
theorem tk_140 : bl_140.all (fun q => chk 140 q.1 q.2.2) = true := by decide +kernel
theorem py_140 : plainName (mN 140).cls = true := by decide +kernel
theorem ml_140 : mL 140 = 1 := rfl
/-- C.acts -/
def bl_141 : Tb := [
  (0, none, [.aload 0, .getfield 2051, .iload 1, .iconst 1, .iadd, .invokevirtual 10519, .iconst 48, .isub, .istore 2, .aload 0, .getfield 2051, .iload 1, .invokevirtual 10519, .lookupswitch 155 #[(102, 56), (110, 102), (115, 112)]]),
  (56, none, [.aload 0, .getfield 2059, .aload 0, .getfield 2098, .aload 0, .getfield 2104, .iload 2, .aload 0, .getfield 2051, .iload 1, .iconst 2, .iadd, .invokevirtual 10519, .iconst 48, .isub, .invokevirtual 8133, .istore 3, .iload 3, .ifCond .ge 96, .iload 3, .iconst (-3), .if_icmp .ne 100, .iconst 1, .goto 101]),
  (96, none, [.iconst 1, .goto 101]),
  (100, none, [.iconst 0, .freturn]),
  (101, none, [.freturn]),
  (102, none, [.aload 0, .getfield 2059, .iload 2, .invokevirtual 8341, .iconst 1, .freturn]),
  (112, none, [.aload 0, .getfield 2059, .iload 2, .aload 0, .getfield 2051, .iload 1, .iconst 2, .iadd, .invokevirtual 10519, .iconst 97, .isub, .aload 0, .getfield 2051, .iload 1, .iconst 3, .iadd, .invokevirtual 10519, .iconst 48, .isub, .invokevirtual 8629, .ifCond .lt 153, .iconst 1, .goto 154]),
  (153, none, [.iconst 0, .freturn]),
  (154, none, [.freturn]),
  (155, none, [.aload 0, .getfield 2059, .iload 2, .aload 0, .getfield 2051, .iload 1, .iconst 2, .iadd, .invokevirtual 10519, .iconst 97, .isub, .invokevirtual 8741, .ifCond .lt 183, .iconst 1, .goto 184]),
  (183, none, [.iconst 0, .freturn]),
  (184, none, [.freturn])]
theorem tk_141 : bl_141.all (fun q => chk 141 q.1 q.2.2) = true := by decide +kernel
theorem py_141 : plainName (mN 141).cls = true := by decide +kernel
theorem ml_141 : mL 141 = 4 := rfl
/-- C.isDigit -/
def bl_142 : Tb := [
  (0, none, [.iload 0, .iconst 48, .if_icmp .lt 16, .iload 0, .iconst 57, .if_icmp .gt 16, .iconst 1, .goto 17]),
  (16, none, [.iconst 0, .freturn]),
  (17, none, [.freturn])]
theorem tk_142 : bl_142.all (fun q => chk 142 q.1 q.2.2) = true := by decide +kernel
theorem py_142 : plainName (mN 142).cls = true := by decide +kernel
theorem ml_142 : mL 142 = 1 := rfl
/-- C.isSideSign -/
def bl_143 : Tb := [
  (0, none, [.iload 0, .iconst 97, .if_icmp .lt 16, .iload 0, .iconst 100, .if_icmp .gt 16, .iconst 1, .goto 17]),
  (16, none, [.iconst 0, .freturn]),
  (17, none, [.freturn])]
theorem tk_143 : bl_143.all (fun q => chk 143 q.1 q.2.2) = true := by decide +kernel
theorem py_143 : plainName (mN 143).cls = true := by decide +kernel
theorem ml_143 : mL 143 = 1 := rfl
/-- C.isSide -/
def bl_144 : Tb := [
  (0, none, [.iload 0, .ifCond .lt 13, .iload 0, .iconst 4, .if_icmp .ge 13, .iconst 1, .goto 14]),
  (13, none, [.iconst 0, .freturn]),
  (14, none, [.freturn])]
theorem tk_144 : bl_144.all (fun q => chk 144 q.1 q.2.2) = true := by decide +kernel
theorem py_144 : plainName (mN 144).cls = true := by decide +kernel
theorem ml_144 : mL 144 = 1 := rfl
/-- C.entry -/
def bl_145 : Tb := [
  (0, none, [.iload 0, .lookupswitch 34 #[(0, 28), (1, 31)]]),
  (28, none, [.iload 1, .i2b, .ireturn]),
  (31, none, [.iload 1, .i2s, .ireturn]),
  (34, none, [.iload 1, .ireturn])]
theorem tk_145 : bl_145.all (fun q => chk 145 q.1 q.2.2) = true := by decide +kernel
theorem py_145 : plainName (mN 145).cls = true := by decide +kernel
theorem ml_145 : mL 145 = 2 := rfl
/-- C.keptUnder -/
def bl_146 : Tb := [
  (0, none, [.iload 1, .ifCond .ne 11, .aload 0, .getfield 2075, .goto 15]),
  (11, none, [.aload 0, .getfield 2079, .areturn]),
  (15, none, [.areturn])]
theorem tk_146 : bl_146.all (fun q => chk 146 q.1 q.2.2) = true := by decide +kernel
theorem py_146 : plainName (mN 146).cls = true := by decide +kernel
theorem ml_146 : mL 146 = 2 := rfl
/-- C.isTempted -/
def bl_147 : Tb := [
  (0, none, [.aload 0, .getfield 2059, .iload 1, .invokevirtual 5781, .iload 2, .if_icmp .eq 32, .aload 0, .getfield 2059, .iload 1, .aload 0, .getfield 2059, .iload 1, .invokevirtual 5781, .invokevirtual 6181, .iload 3, .if_icmp .ge 34, .iconst 0, .freturn]),
  (32, none, [.iconst 0, .freturn]),
  (34, none, [.aload 0, .getfield 2067, .aload 0, .getfield 2059, .invokevirtual 5141, .aload 0, .getfield 2067, .iload 1, .iload 2, .iload 3, .invokevirtual 8629, .iload 2, .if_icmp .ne 63, .iconst 1, .goto 64]),
  (63, none, [.iconst 0, .freturn]),
  (64, none, [.freturn])]
theorem tk_147 : bl_147.all (fun q => chk 147 q.1 q.2.2) = true := by decide +kernel
theorem py_147 : plainName (mN 147).cls = true := by decide +kernel
theorem ml_147 : mL 147 = 4 := rfl
/-- C.tellsFights -/
def bl_148 : Tb := [
  (0, none, [.iload 1, .ifCond .lt 42, .aload 0, .getfield 2055, .invokevirtual 2179, .iconst 0, .istore 2, .goto_w 13]),
  (13, some [0, 1, 2], [.iload 2, .iconst 2, .iload 1, .imul, .if_icmp .ge 42, .aload 0, .getfield 2055, .aload 0, .getfield 2083, .iload 2, .invokevirtual 9110, .i2l, .invokevirtual 2323, .iinc 2 1, .goto 13]),
  (42, none, [.iload 1, .ireturn])]
theorem tk_148 : bl_148.all (fun q => chk 148 q.1 q.2.2) = true := by decide +kernel
theorem py_148 : plainName (mN 148).cls = true := by decide +kernel
theorem ml_148 : mL 148 = 3 := rfl
/-- C.firstPairFights -/
def bl_149 : Tb := [
  (0, none, [.iconst 0, .istore 1, .goto_w 2]),
  (2, some [0, 1], [.iload 1, .aload 0, .getfield 2067, .getfield 1280, .if_icmp .ge 61, .iload 1, .iconst 1, .iadd, .istore 2, .goto_w 17]),
  (17, some [0, 1, 2], [.iload 2, .aload 0, .getfield 2067, .getfield 1280, .if_icmp .ge 55, .aload 0, .getfield 2067, .aload 0, .getfield 2098, .aload 0, .getfield 2104, .iload 1, .iload 2, .invokevirtual 8133, .ifCond .lt 49, .return_]),
  (49, none, [.iinc 2 1, .goto 17]),
  (55, none, [.iinc 1 1, .goto 2]),
  (61, none, [.return_])]
theorem tk_149 : bl_149.all (fun q => chk 149 q.1 q.2.2) = true := by decide +kernel
theorem py_149 : plainName (mN 149).cls = true := by decide +kernel
theorem ml_149 : mL 149 = 3 := rfl
