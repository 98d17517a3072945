/-! the methods' code, 50 to 99 -/
/-- Sea.strengthOfAll -/
def bl_50 : Tb := [
  (0, none, [.aload 0, .iconst 63, .invokevirtual 6549, .ireturn])]
theorem tk_50 : bl_50.all (fun q => chk 50 q.1 q.2.2) = true := by decide +kernel
theorem py_50 : plainName (mN 50).cls = true := by decide +kernel
theorem ml_50 : mL 50 = 1 := rfl
/-- Sea.strengthOfSome -/
def bl_51 : Tb := [
  (0, none, [.iconst 0, .istore 2, .iconst 0, .istore 3, .goto_w 4]),
  (4, some [0, 1, 2, 3], [.iload 3, .aload 0, .getfield 1280, .if_icmp .ge 38, .iload 2, .iload 1, .iconst 1, .iload 3, .ishl, .iand, .ifCond .eq 29, .aload 0, .iload 3, .invokevirtual 5653, .goto 30]),
  (29, none, [.iconst 0, .iadd, .istore 2, .iinc 3 1, .goto 4]),
  (30, none, [.iadd, .istore 2, .iinc 3 1, .goto 4]),
  (38, none, [.iload 2, .ireturn])]
theorem tk_51 : bl_51.all (fun q => chk 51 q.1 q.2.2) = true := by decide +kernel
theorem py_51 : plainName (mN 51).cls = true := by decide +kernel
theorem ml_51 : mL 51 = 4 := rfl
/-- Sea.partsOfAll -/
def bl_52 : Tb := [
  (0, none, [.aload 0, .iconst 63, .iload 1, .invokevirtual 6821, .ireturn])]
theorem tk_52 : bl_52.all (fun q => chk 52 q.1 q.2.2) = true := by decide +kernel
theorem py_52 : plainName (mN 52).cls = true := by decide +kernel
theorem ml_52 : mL 52 = 2 := rfl
/-- Sea.partsOfSome -/
def bl_53 : Tb := [
  (0, none, [.iconst 0, .istore 3, .iconst 0, .istore 4, .goto_w 5]),
  (5, some [0, 1, 2, 3, 4], [.iload 4, .aload 0, .getfield 1280, .if_icmp .ge 43, .iload 3, .iload 1, .iconst 1, .iload 4, .ishl, .iand, .ifCond .eq 34, .aload 0, .iload 4, .iload 2, .invokevirtual 6181, .goto 35]),
  (34, none, [.iconst 0, .iadd, .istore 3, .iinc 4 1, .goto 5]),
  (35, none, [.iadd, .istore 3, .iinc 4 1, .goto 5]),
  (43, none, [.iload 3, .ireturn])]
theorem tk_53 : bl_53.all (fun q => chk 53 q.1 q.2.2) = true := by decide +kernel
theorem py_53 : plainName (mN 53).cls = true := by decide +kernel
theorem ml_53 : mL 53 = 5 := rfl
/-- Sea.wonOfAll -/
def bl_54 : Tb := [
  (0, none, [.iconst 0, .istore 1, .iconst 0, .istore 2, .goto_w 4]),
  (4, some [0, 1, 2], [.iload 2, .aload 0, .getfield 1280, .if_icmp .ge 26, .iload 1, .aload 0, .iload 2, .invokevirtual 5909, .iadd, .istore 1, .iinc 2 1, .goto 4]),
  (26, none, [.iload 1, .ireturn])]
theorem tk_54 : bl_54.all (fun q => chk 54 q.1 q.2.2) = true := by decide +kernel
theorem py_54 : plainName (mN 54).cls = true := by decide +kernel
theorem ml_54 : mL 54 = 3 := rfl
/-- Sea.lostOfAll -/
def bl_55 : Tb := [
  (0, none, [.iconst 0, .istore 1, .iconst 0, .istore 2, .goto_w 4]),
  (4, some [0, 1, 2], [.iload 2, .aload 0, .getfield 1280, .if_icmp .ge 26, .iload 1, .aload 0, .iload 2, .invokevirtual 6037, .iadd, .istore 1, .iinc 2 1, .goto 4]),
  (26, none, [.iload 1, .ireturn])]
theorem tk_55 : bl_55.all (fun q => chk 55 q.1 q.2.2) = true := by decide +kernel
theorem py_55 : plainName (mN 55).cls = true := by decide +kernel
theorem ml_55 : mL 55 = 3 := rfl
/-- Sea.difference -/
def bl_56 : Tb := [
  (0, none, [.iconst 0, .istore 3, .iconst 0, .istore 4, .goto_w 5]),
  (5, some [0, 1, 2, 3, 4], [.iload 4, .iconst 4, .if_icmp .ge 38, .iload 3, .aload 0, .iload 1, .iload 4, .invokevirtual 6181, .aload 0, .iload 2, .iload 4, .invokevirtual 6181, .isub, .invokestatic 36752, .iadd, .istore 3, .iinc 4 1, .goto 5]),
  (38, none, [.iload 3, .ireturn])]
theorem tk_56 : bl_56.all (fun q => chk 56 q.1 q.2.2) = true := by decide +kernel
theorem py_56 : plainName (mN 56).cls = true := by decide +kernel
theorem ml_56 : mL 56 = 5 := rfl
/-- Sea.joins -/
def bl_57 : Tb := [
  (0, none, [.aload 0, .getfield 1280, .istore 3, .iload 3, .ifCond .lt 22, .iload 3, .iconst 6, .if_icmp .ge 22, .iload 1, .invokestatic 18448, .ifCond .ne 23, .return_]),
  (22, none, [.return_]),
  (23, none, [.aload 0, .dup, .getfield 1280, .iconst 1, .iadd, .putfield 1280, .aload 0, .getfield 1295, .iload 3, .iload 2, .iastore, .aload 0, .getfield 1299, .iload 3, .iload 2, .iastore, .aload 0, .getfield 1307, .iload 3, .iconst 0, .iastore, .aload 0, .getfield 1311, .iload 3, .iconst 0, .iastore, .aload 0, .iload 3, .iload 1, .invokevirtual 7461, .return_])]
theorem tk_57 : bl_57.all (fun q => chk 57 q.1 q.2.2) = true := by decide +kernel
theorem py_57 : plainName (mN 57).cls = true := by decide +kernel
theorem ml_57 : mL 57 = 4 := rfl
/-- Sea.hoists -/
def bl_58 : Tb := [
  (0, none, [.aload 0, .iload 1, .invokevirtual 5269, .ifCond .eq 15, .iload 2, .invokestatic 18448, .ifCond .ne 16, .return_]),
  (15, none, [.return_]),
  (16, none, [.iconst 0, .istore 3, .goto_w 18]),
  (18, some [0, 1, 2, 3], [.iload 3, .iconst 4, .if_icmp .ge 50, .aload 0, .getfield 1315, .iload 1, .iconst 4, .imul, .iload 3, .iadd, .iload 3, .iload 2, .if_icmp .ne 42, .iconst 12, .goto 43]),
  (42, none, [.iconst 0, .iastore, .iinc 3 1, .goto 18]),
  (43, none, [.iastore, .iinc 3 1, .goto 18]),
  (50, none, [.aload 0, .getfield 1303, .iload 1, .iload 2, .iastore, .return_])]
theorem tk_58 : bl_58.all (fun q => chk 58 q.1 q.2.2) = true := by decide +kernel
theorem py_58 : plainName (mN 58).cls = true := by decide +kernel
theorem ml_58 : mL 58 = 4 := rfl
/-- Sea.strengthens -/
def bl_59 : Tb := [
  (0, none, [.aload 0, .iload 1, .invokevirtual 5269, .ifCond .eq 28, .aload 0, .getfield 1299, .iload 1, .iconst 0, .aload 0, .getfield 1295, .iload 1, .iaload, .iload 2, .invokestatic 37024, .invokestatic 36896, .iastore, .return_]),
  (28, none, [.return_])]
theorem tk_59 : bl_59.all (fun q => chk 59 q.1 q.2.2) = true := by decide +kernel
theorem py_59 : plainName (mN 59).cls = true := by decide +kernel
theorem ml_59 : mL 59 = 3 := rfl
/-- Sea.resews -/
def bl_60 : Tb := [
  (0, none, [.aload 0, .iload 1, .invokevirtual 5269, .ifCond .eq 52, .iload 2, .invokestatic 18448, .ifCond .eq 52, .iload 3, .invokestatic 18448, .ifCond .eq 52, .aload 0, .getfield 1315, .iload 1, .iconst 4, .imul, .iload 2, .iadd, .dup2, .iaload, .iload 4, .isub, .iastore, .aload 0, .getfield 1315, .iload 1, .iconst 4, .imul, .iload 3, .iadd, .dup2, .iaload, .iload 4, .iadd, .iastore, .return_]),
  (52, none, [.return_])]
theorem tk_60 : bl_60.all (fun q => chk 60 q.1 q.2.2) = true := by decide +kernel
theorem py_60 : plainName (mN 60).cls = true := by decide +kernel
theorem ml_60 : mL 60 = 5 := rfl
/-- Sea.mayGoOver -/
def bl_61 : Tb := [
  (0, none, [.iconst 0, .istore 2, .iconst 1, .istore 3, .goto_w 4]),
  (4, some [0, 1, 2, 3], [.iload 3, .iconst 4, .if_icmp .ge 36, .aload 0, .iload 1, .iload 3, .invokevirtual 6181, .aload 0, .iload 1, .iload 2, .invokevirtual 6181, .if_icmp .le 28, .iload 3, .goto 29]),
  (28, none, [.iload 2, .istore 2, .iinc 3 1, .goto 4]),
  (29, none, [.istore 2, .iinc 3 1, .goto 4]),
  (36, none, [.aload 0, .iload 1, .invokevirtual 5269, .ifCond .eq 86, .aload 0, .iload 1, .iload 2, .invokevirtual 6181, .aload 0, .iload 1, .aload 0, .iload 1, .invokevirtual 5781, .invokevirtual 6181, .if_icmp .le 86, .aload 0, .getfield 1303, .iload 1, .iload 2, .iastore, .aload 0, .aload 0, .getfield 1288, .iconst 1, .iadd, .iconst 9999, .invokestatic 37024, .putfield 1288, .return_]),
  (86, none, [.return_])]
theorem tk_61 : bl_61.all (fun q => chk 61 q.1 q.2.2) = true := by decide +kernel
theorem py_61 : plainName (mN 61).cls = true := by decide +kernel
theorem ml_61 : mL 61 = 4 := rfl
/-- Sea.winner -/
def bl_62 : Tb := [
  (0, none, [.aload 0, .iload 2, .iload 3, .invokevirtual 5413, .ifCond .ne 11, .iconst (-1), .ireturn]),
  (11, none, [.aload 0, .iload 2, .invokevirtual 5781, .aload 0, .iload 3, .invokevirtual 5781, .if_icmp .ne 27, .iconst (-2), .ireturn]),
  (27, none, [.aload 1, .aload 0, .iload 2, .iload 3, .invokevirtual 4404, .istore 4, .aload 1, .aload 0, .iload 3, .iload 2, .invokevirtual 4404, .istore 5, .iload 4, .iload 5, .if_icmp .ne 57, .iconst (-3), .goto 69]),
  (57, none, [.iload 4, .iload 5, .if_icmp .le 68, .iload 2, .goto 69]),
  (68, none, [.iload 3, .ireturn]),
  (69, none, [.ireturn])]
theorem tk_62 : bl_62.all (fun q => chk 62 q.1 q.2.2) = true := by decide +kernel
theorem py_62 : plainName (mN 62).cls = true := by decide +kernel
theorem ml_62 : mL 62 = 6 := rfl
/-- Sea.battle -/
def bl_63 : Tb := [
  (0, none, [.aload 0, .aload 1, .iload 3, .iload 4, .invokevirtual 7989, .istore 5, .iload 5, .ifCond .lt 34, .aload 0, .iload 5, .iload 5, .iload 3, .if_icmp .ne 29, .iload 4, .goto 30]),
  (29, none, [.iload 3, .iload 2, .invokevirtual 8245, .iload 5, .ireturn]),
  (30, none, [.iload 2, .invokevirtual 8245, .iload 5, .ireturn]),
  (34, none, [.iload 5, .ireturn])]
theorem tk_63 : bl_63.all (fun q => chk 63 q.1 q.2.2) = true := by decide +kernel
theorem py_63 : plainName (mN 63).cls = true := by decide +kernel
theorem ml_63 : mL 63 = 6 := rfl
/-- Sea.strikesTo -/
def bl_64 : Tb := [
  (0, none, [.aload 0, .iload 1, .iload 2, .invokevirtual 5413, .ifCond .ne 10, .return_]),
  (10, none, [.aload 0, .iload 1, .invokevirtual 5781, .istore 4, .aload 0, .iload 1, .iload 4, .aload 0, .iload 2, .invokevirtual 5781, .iload 3, .aload 0, .iload 1, .iload 4, .invokevirtual 6181, .invokestatic 37024, .invokevirtual 7749, .aload 0, .getfield 1307, .iload 1, .aload 0, .getfield 1307, .iload 1, .iaload, .iconst 1, .iadd, .iconst 99, .invokestatic 37024, .iastore, .aload 0, .getfield 1299, .iload 2, .aload 0, .getfield 1299, .iload 2, .iaload, .iconst 1, .isub, .iconst 0, .invokestatic 36896, .iastore, .aload 0, .getfield 1311, .iload 2, .aload 0, .getfield 1311, .iload 2, .iaload, .iconst 1, .iadd, .iconst 99, .invokestatic 37024, .iastore, .aload 0, .iload 1, .invokevirtual 7829, .aload 0, .iload 2, .invokevirtual 7829, .return_])]
theorem tk_64 : bl_64.all (fun q => chk 64 q.1 q.2.2) = true := by decide +kernel
theorem py_64 : plainName (mN 64).cls = true := by decide +kernel
theorem ml_64 : mL 64 = 5 := rfl
/-- Sea.dawns -/
def bl_65 : Tb := [
  (0, none, [.iconst 0, .istore 2, .goto_w 2]),
  (2, some [0, 1, 2], [.iload 2, .iload 1, .if_icmp .ge 56, .iconst 0, .istore 3, .goto_w 9]),
  (9, some [0, 1, 2, 3], [.iload 3, .aload 0, .getfield 1280, .if_icmp .ge 40, .aload 0, .iload 3, .aload 0, .iload 3, .invokevirtual 5653, .iconst 1, .iadd, .invokevirtual 7589, .aload 0, .iload 3, .invokevirtual 8469, .iinc 3 1, .goto 9]),
  (40, none, [.aload 0, .dup, .getfield 1284, .iconst 1, .iadd, .putfield 1284, .iinc 2 1, .goto 2]),
  (56, none, [.return_])]
theorem tk_65 : bl_65.all (fun q => chk 65 q.1 q.2.2) = true := by decide +kernel
theorem py_65 : plainName (mN 65).cls = true := by decide +kernel
theorem ml_65 : mL 65 = 4 := rfl
/-- Sea.mendsFlag -/
def bl_66 : Tb := [
  (0, none, [.iconst (-1), .istore 2, .iconst 0, .istore 3, .goto_w 4]),
  (4, some [0, 1, 2, 3], [.iload 3, .iconst 4, .if_icmp .ge 67, .iload 3, .aload 0, .iload 1, .invokevirtual 5781, .if_icmp .eq 31, .aload 0, .iload 1, .iload 3, .invokevirtual 6181, .ifCond .le 31, .iconst 1, .goto 32]),
  (31, none, [.iconst 0, .istore 4, .iload 4, .ifCond .eq 61, .iload 2, .iconst (-1), .if_icmp .eq 59, .aload 0, .iload 1, .iload 3, .invokevirtual 6181, .aload 0, .iload 1, .iload 2, .invokevirtual 6181, .if_icmp .ge 61, .iload 3, .istore 2, .iinc 3 1, .goto 4]),
  (32, none, [.istore 4, .iload 4, .ifCond .eq 61, .iload 2, .iconst (-1), .if_icmp .eq 59, .aload 0, .iload 1, .iload 3, .invokevirtual 6181, .aload 0, .iload 1, .iload 2, .invokevirtual 6181, .if_icmp .ge 61, .iload 3, .istore 2, .iinc 3 1, .goto 4]),
  (59, none, [.iload 3, .istore 2, .iinc 3 1, .goto 4]),
  (61, none, [.iinc 3 1, .goto 4]),
  (67, none, [.iload 2, .iconst (-1), .if_icmp .eq 84, .aload 0, .iload 1, .iload 2, .aload 0, .iload 1, .invokevirtual 5781, .iconst 1, .invokevirtual 7749, .return_]),
  (84, none, [.return_])]
theorem tk_66 : bl_66.all (fun q => chk 66 q.1 q.2.2) = true := by decide +kernel
theorem py_66 : plainName (mN 66).cls = true := by decide +kernel
theorem ml_66 : mL 66 = 5 := rfl
/-- Sea.sewsIn -/
def bl_67 : Tb := [
  (0, none, [.aload 0, .iload 1, .invokevirtual 5269, .ifCond .eq 26, .iload 2, .invokestatic 18448, .ifCond .eq 26, .iload 3, .iconst 1, .if_icmp .lt 26, .iload 3, .iconst 12, .if_icmp .le 28, .iconst (-1), .ireturn]),
  (26, none, [.iconst (-1), .ireturn]),
  (28, none, [.aload 0, .iload 1, .aload 0, .iload 1, .invokevirtual 5781, .invokevirtual 6181, .iload 3, .if_icmp .ge 45, .iconst (-2), .ireturn]),
  (45, none, [.aload 0, .iload 1, .invokevirtual 5781, .iload 2, .if_icmp .ne 57, .iconst (-3), .ireturn]),
  (57, none, [.aload 0, .iload 1, .aload 0, .iload 1, .invokevirtual 5781, .iload 2, .iload 3, .invokevirtual 7749, .aload 0, .iload 1, .invokevirtual 7829, .aload 0, .iload 1, .invokevirtual 5781, .ireturn])]
theorem tk_67 : bl_67.all (fun q => chk 67 q.1 q.2.2) = true := by decide +kernel
theorem py_67 : plainName (mN 67).cls = true := by decide +kernel
theorem ml_67 : mL 67 = 4 := rfl
/-- Sea.strikesAll -/
def bl_68 : Tb := [
  (0, none, [.aload 0, .iload 1, .invokevirtual 5269, .ifCond .eq 15, .iload 2, .invokestatic 18448, .ifCond .ne 17, .iconst (-1), .ireturn]),
  (15, none, [.iconst (-1), .ireturn]),
  (17, none, [.iconst 12, .aload 0, .iload 1, .iload 2, .invokevirtual 6181, .isub, .istore 3, .iload 3, .ifCond .ne 34, .iconst (-2), .ireturn]),
  (34, none, [.aload 0, .iload 1, .iload 2, .invokevirtual 7461, .iload 3, .ireturn])]
theorem tk_68 : bl_68.all (fun q => chk 68 q.1 q.2.2) = true := by decide +kernel
theorem py_68 : plainName (mN 68).cls = true := by decide +kernel
theorem ml_68 : mL 68 = 4 := rfl
/-- Search.aims -/
def bl_70 : Tb := [
  (0, none, [.aload 0, .aload 1, .putfield 1546, .aload 0, .iload 2, .putfield 1548, .aload 0, .iload 3, .putfield 1552, .aload 0, .iload 4, .putfield 1556, .return_])]
theorem tk_70 : bl_70.all (fun q => chk 70 q.1 q.2.2) = true := by decide +kernel
theorem py_70 : plainName (mN 70).cls = true := by decide +kernel
theorem ml_70 : mL 70 = 5 := rfl
/-- Search.step -/
def bl_71 : Tb := [
  (0, none, [.iload 1, .ifCond .lt 22, .iload 1, .aload 0, .getfield 1543, .arraylength, .if_icmp .ge 22, .aload 0, .getfield 1543, .iload 1, .iaload, .goto 23]),
  (22, none, [.iconst (-1), .ireturn]),
  (23, none, [.ireturn])]
theorem tk_71 : bl_71.all (fun q => chk 71 q.1 q.2.2) = true := by decide +kernel
theorem py_71 : plainName (mN 71).cls = true := by decide +kernel
theorem ml_71 : mL 71 = 2 := rfl
/-- Search.level -/
def bl_72 : Tb := [
  (0, none, [.iload 1, .ifCond .lt 22, .iload 1, .aload 0, .getfield 1539, .arraylength, .if_icmp .ge 22, .aload 0, .getfield 1539, .iload 1, .aaload, .goto 23]),
  (22, none, [.aconst_null, .areturn]),
  (23, none, [.areturn])]
theorem tk_72 : bl_72.all (fun q => chk 72 q.1 q.2.2) = true := by decide +kernel
theorem py_72 : plainName (mN 72).cls = true := by decide +kernel
theorem ml_72 : mL 72 = 2 := rfl
/-- Search.fewest -/
def bl_73 : Tb := [
  (0, none, [.aload 0, .iconst 0, .invokevirtual 9238, .astore 2, .aload 2, .ifnull 17, .aload 0, .getfield 1546, .ifnonnull 20, .iconst (-2), .ireturn]),
  (17, none, [.iconst (-2), .ireturn]),
  (20, none, [.aload 2, .aload 1, .invokevirtual 5141, .iconst 0, .istore 3, .goto_w 27]),
  (27, some [0, 3], [.iload 3, .iconst 3, .if_icmp .gt 49, .aload 0, .iconst 0, .iload 3, .invokevirtual 9510, .ifCond .eq 43, .iload 3, .ireturn]),
  (43, none, [.iinc 3 1, .goto 27]),
  (49, none, [.iconst (-2), .ireturn])]
theorem tk_73 : bl_73.all (fun q => chk 73 q.1 q.2.2) = true := by decide +kernel
theorem py_73 : plainName (mN 73).cls = true := by decide +kernel
theorem ml_73 : mL 73 = 4 := rfl
/-- Search.reaches -/
def bl_74 : Tb := [
  (0, none, [.aload 0, .iload 1, .invokevirtual 9238, .astore 3, .aload 3, .ifnull 15, .iload 1, .iload 2, .if_icmp .lt 33, .aload 3, .ifnull 31, .aload 0, .aload 3, .invokevirtual 9622, .ifCond .eq 31, .iconst 1, .goto 32]),
  (15, none, [.aload 3, .ifnull 31, .aload 0, .aload 3, .invokevirtual 9622, .ifCond .eq 31, .iconst 1, .goto 32]),
  (31, none, [.iconst 0, .freturn]),
  (32, none, [.freturn]),
  (33, none, [.aload 0, .aload 3, .iload 2, .iload 1, .isub, .invokevirtual 9766, .ifCond .eq 46, .iconst 0, .freturn]),
  (46, none, [.iconst 0, .istore 4, .goto_w 49]),
  (49, some [0, 1, 2, 3, 4], [.iload 4, .aload 3, .getfield 1280, .if_icmp .ge 158, .iload 4, .iconst 1, .iadd, .istore 5, .goto_w 64]),
  (64, some [0, 1, 2, 3, 4, 5], [.iload 5, .aload 3, .getfield 1280, .if_icmp .ge 152, .aload 0, .iload 4, .iload 5, .iload 2, .iload 1, .isub, .invokevirtual 9910, .ifCond .ne 90, .goto 146]),
  (90, none, [.aload 3, .aload 0, .getfield 1546, .iload 4, .iload 5, .invokevirtual 7989, .istore 6, .iload 6, .ifCond .lt 146, .aload 0, .iload 1, .iload 6, .iload 6, .iload 4, .if_icmp .ne 125, .iload 5, .goto 127]),
  (125, none, [.iload 4, .invokevirtual 10038, .ifCond .eq 146, .aload 0, .iload 1, .iconst 1, .iadd, .iload 2, .invokevirtual 9510, .ifCond .eq 146, .iconst 1, .freturn]),
  (127, none, [.invokevirtual 10038, .ifCond .eq 146, .aload 0, .iload 1, .iconst 1, .iadd, .iload 2, .invokevirtual 9510, .ifCond .eq 146, .iconst 1, .freturn]),
  (146, none, [.iinc 5 1, .goto 64]),
  (152, none, [.iinc 4 1, .goto 49]),
  (158, none, [.iconst 0, .freturn])]
theorem tk_74 : bl_74.all (fun q => chk 74 q.1 q.2.2) = true := by decide +kernel
theorem py_74 : plainName (mN 74).cls = true := by decide +kernel
theorem ml_74 : mL 74 = 7 := rfl
/-- Search.isReached -/
def bl_75 : Tb := [
  (0, none, [.aload 0, .getfield 1552, .iconst (-1), .if_icmp .ne 27, .aload 1, .getfield 1280, .aload 1, .invokestatic 10128, .if_icmp .ne 23, .iconst 1, .goto 47]),
  (23, none, [.iconst 0, .goto 47]),
  (27, none, [.aload 1, .aload 0, .getfield 1552, .invokevirtual 5781, .aload 0, .getfield 1556, .if_icmp .ne 46, .iconst 1, .goto 47]),
  (46, none, [.iconst 0, .freturn]),
  (47, none, [.freturn])]
theorem tk_75 : bl_75.all (fun q => chk 75 q.1 q.2.2) = true := by decide +kernel
theorem py_75 : plainName (mN 75).cls = true := by decide +kernel
theorem ml_75 : mL 75 = 2 := rfl
/-- Search.isTooFar -/
def bl_76 : Tb := [
  (0, none, [.aload 0, .getfield 1552, .iconst (-1), .if_icmp .ne 27, .aload 1, .getfield 1280, .aload 1, .invokestatic 10128, .isub, .iload 2, .if_icmp .le 25, .iconst 1, .goto 26]),
  (25, none, [.iconst 0, .freturn]),
  (26, none, [.freturn]),
  (27, none, [.aload 1, .aload 0, .getfield 1552, .aload 0, .getfield 1556, .invokevirtual 6181, .iconst 2, .iload 2, .imul, .aload 0, .getfield 1548, .imul, .iadd, .aload 1, .aload 0, .getfield 1552, .aload 1, .aload 0, .getfield 1552, .invokevirtual 5781, .invokevirtual 6181, .if_icmp .ge 71, .iconst 1, .goto 72]),
  (71, none, [.iconst 0, .freturn]),
  (72, none, [.freturn])]
theorem tk_76 : bl_76.all (fun q => chk 76 q.1 q.2.2) = true := by decide +kernel
theorem py_76 : plainName (mN 76).cls = true := by decide +kernel
theorem ml_76 : mL 76 = 3 := rfl
/-- Search.isOfUse -/
def bl_77 : Tb := [
  (0, none, [.aload 0, .getfield 1552, .iconst (-1), .if_icmp .eq 29, .iload 3, .iconst 1, .if_icmp .gt 29, .iload 1, .aload 0, .getfield 1552, .if_icmp .eq 29, .iload 2, .aload 0, .getfield 1552, .if_icmp .ne 33, .iconst 1, .goto 34]),
  (29, none, [.iconst 1, .goto 34]),
  (33, none, [.iconst 0, .freturn]),
  (34, none, [.freturn])]
theorem tk_77 : bl_77.all (fun q => chk 77 q.1 q.2.2) = true := by decide +kernel
theorem py_77 : plainName (mN 77).cls = true := by decide +kernel
theorem ml_77 : mL 77 = 4 := rfl
/-- Search.goes -/
def bl_78 : Tb := [
  (0, none, [.aload 0, .iload 1, .invokevirtual 9238, .astore 4, .aload 0, .iload 1, .iconst 1, .iadd, .invokevirtual 9238, .astore 5, .aload 4, .ifnull 43, .aload 5, .ifnull 43, .iload 1, .ifCond .lt 43, .iconst 2, .iload 1, .imul, .iconst 1, .iadd, .aload 0, .getfield 1543, .arraylength, .if_icmp .lt 45, .iconst 0, .freturn]),
  (43, none, [.iconst 0, .freturn]),
  (45, none, [.aload 5, .aload 4, .invokevirtual 5141, .aload 5, .iload 2, .iload 3, .aload 0, .getfield 1548, .invokevirtual 8245, .aload 0, .getfield 1543, .iconst 2, .iload 1, .imul, .iload 2, .iload 3, .invokestatic 37024, .iastore, .aload 0, .getfield 1543, .iconst 2, .iload 1, .imul, .iconst 1, .iadd, .iload 2, .iload 3, .invokestatic 36896, .iastore, .iconst 1, .freturn])]
theorem tk_78 : bl_78.all (fun q => chk 78 q.1 q.2.2) = true := by decide +kernel
theorem py_78 : plainName (mN 78).cls = true := by decide +kernel
theorem ml_78 : mL 78 = 6 := rfl
/-- Search.mostOfOneSide -/
def bl_79 : Tb := [
  (0, none, [.iconst 0, .istore 1, .iconst 0, .istore 2, .goto_w 4]),
  (4, some [0, 1, 2], [.iload 2, .iconst 4, .if_icmp .ge 59, .iconst 0, .istore 3, .iconst 0, .istore 4, .goto_w 14]),
  (14, some [0, 1, 2, 3, 4], [.iload 4, .aload 0, .getfield 1280, .if_icmp .ge 47, .iload 3, .aload 0, .iload 4, .invokevirtual 5781, .iload 2, .if_icmp .ne 38, .iconst 1, .goto 39]),
  (38, none, [.iconst 0, .iadd, .istore 3, .iinc 4 1, .goto 14]),
  (39, none, [.iadd, .istore 3, .iinc 4 1, .goto 14]),
  (47, none, [.iload 1, .iload 3, .invokestatic 36896, .istore 1, .iinc 2 1, .goto 4]),
  (59, none, [.iload 1, .ireturn])]
theorem tk_79 : bl_79.all (fun q => chk 79 q.1 q.2.2) = true := by decide +kernel
theorem py_79 : plainName (mN 79).cls = true := by decide +kernel
theorem ml_79 : mL 79 = 5 := rfl
/-- Text.add -/
def bl_81 : Tb := [
  (0, none, [.aload 0, .getfield 1796, .ifCond .lt 39, .aload 0, .getfield 1796, .aload 0, .getfield 1795, .arraylength, .if_icmp .ge 39, .aload 0, .getfield 1795, .aload 0, .getfield 1796, .iload 1, .castore, .aload 0, .dup, .getfield 1796, .iconst 1, .iadd, .putfield 1796, .return_]),
  (39, none, [.return_])]
theorem tk_81 : bl_81.all (fun q => chk 81 q.1 q.2.2) = true := by decide +kernel
theorem py_81 : plainName (mN 81).cls = true := by decide +kernel
theorem ml_81 : mL 81 = 2 := rfl
/-- Text.at -/
def bl_82 : Tb := [
  (0, none, [.iload 1, .ifCond .lt 22, .iload 1, .aload 0, .getfield 1795, .arraylength, .if_icmp .ge 22, .aload 0, .getfield 1795, .iload 1, .caload, .goto 23]),
  (22, none, [.iconst 0, .dreturn]),
  (23, none, [.dreturn])]
theorem tk_82 : bl_82.all (fun q => chk 82 q.1 q.2.2) = true := by decide +kernel
theorem py_82 : plainName (mN 82).cls = true := by decide +kernel
theorem ml_82 : mL 82 = 2 := rfl
/-- Text.empties -/
def bl_83 : Tb := [
  (0, none, [.aload 0, .getfield 1796, .istore 1, .aload 0, .iconst 0, .putfield 1796, .iload 1, .ireturn])]
theorem tk_83 : bl_83.all (fun q => chk 83 q.1 q.2.2) = true := by decide +kernel
theorem py_83 : plainName (mN 83).cls = true := by decide +kernel
theorem ml_83 : mL 83 = 2 := rfl
/-- C.sign -/
def bl_85 : Tb := [
  (0, none, [.aload 0, .getfield 2051, .getfield 1796, .iconst 76, .if_icmp .le 14, .iconst (-1), .ireturn]),
  (14, none, [.iconst 24, .istore 2, .goto_w 17]),
  (17, some [0, 1, 2], [.iload 2, .ifCond .lt 42, .aload 0, .getfield 2051, .iload 1, .iload 2, .iushr, .iconst 255, .iand, .i2c, .invokevirtual 10391, .iinc 2 (-8), .goto 17]),
  (42, none, [.aload 0, .getfield 2051, .getfield 1796, .ireturn])]
theorem tk_85 : bl_85.all (fun q => chk 85 q.1 q.2.2) = true := by decide +kernel
theorem py_85 : plainName (mN 85).cls = true := by decide +kernel
theorem ml_85 : mL 85 = 3 := rfl
/-- C.end -/
def bl_86 : Tb := [
  (0, none, [.iload 1, .ifCond .lt 15, .iload 1, .aload 0, .getfield 2051, .getfield 1796, .if_icmp .le 17, .iconst 0, .freturn]),
  (15, none, [.iconst 0, .freturn]),
  (17, none, [.aload 0, .getfield 2051, .iload 1, .putfield 1796, .iconst 1, .freturn])]
theorem tk_86 : bl_86.all (fun q => chk 86 q.1 q.2.2) = true := by decide +kernel
theorem py_86 : plainName (mN 86).cls = true := by decide +kernel
theorem ml_86 : mL 86 = 2 := rfl
/-- C.ships -/
def bl_87 : Tb := [
  (0, none, [.aload 0, .getfield 2051, .invokevirtual 10631, .istore 1, .aload 0, .iload 1, .invokevirtual 17304, .istore 2, .iload 2, .iconst (-1), .if_icmp .eq 23, .iconst (-1), .iload 2, .isub, .ireturn]),
  (23, none, [.iload 1, .iconst 1, .iadd, .iconst 3, .idiv, .istore 3, .iconst 0, .istore 4, .goto_w 32]),
  (32, some [0, 3, 4], [.iload 4, .iload 3, .if_icmp .ge 81, .aload 0, .getfield 2059, .aload 0, .getfield 2051, .iconst 3, .iload 4, .imul, .invokevirtual 10519, .iconst 97, .isub, .aload 0, .getfield 2051, .iconst 3, .iload 4, .imul, .iconst 1, .iadd, .invokevirtual 10519, .iconst 48, .isub, .invokevirtual 7333, .iinc 4 1, .goto 32]),
  (81, none, [.iload 3, .ifCond .le 97, .aload 0, .getfield 2071, .invokevirtual 1538, .aload 0, .iconst 0, .putfield 2108, .iload 3, .ireturn]),
  (97, none, [.iload 3, .ireturn])]
theorem tk_87 : bl_87.all (fun q => chk 87 q.1 q.2.2) = true := by decide +kernel
theorem py_87 : plainName (mN 87).cls = true := by decide +kernel
theorem ml_87 : mL 87 = 5 := rfl
/-- C.rule -/
def bl_88 : Tb := [
  (0, none, [.aload 0, .invokevirtual 17544, .istore 1, .iload 1, .iconst (-1), .if_icmp .eq 14, .iconst (-1), .iload 1, .isub, .ireturn]),
  (14, none, [.aload 0, .getfield 2098, .astore 2, .aload 0, .aload 0, .getfield 2102, .putfield 2098, .aload 0, .aload 2, .putfield 2102, .iconst 0, .ireturn])]
theorem tk_88 : bl_88.all (fun q => chk 88 q.1 q.2.2) = true := by decide +kernel
theorem py_88 : plainName (mN 88).cls = true := by decide +kernel
theorem ml_88 : mL 88 = 3 := rfl
/-- C.force -/
def bl_90 : Tb := [
  (0, none, [.aload 0, .getfield 2059, .iload 1, .iload 2, .invokevirtual 5413, .ifCond .ne 14, .iconst (-1), .ireturn]),
  (14, none, [.iconst 1000, .iconst (-999), .iconst 999, .aload 0, .getfield 2098, .aload 0, .getfield 2059, .iload 1, .iload 2, .invokevirtual 4404, .invokestatic 37024, .invokestatic 36896, .iadd, .ireturn])]
theorem tk_90 : bl_90.all (fun q => chk 90 q.1 q.2.2) = true := by decide +kernel
theorem py_90 : plainName (mN 90).cls = true := by decide +kernel
theorem ml_90 : mL 90 = 3 := rfl
/-- C.take -/
def bl_91 : Tb := [
  (0, none, [.iload 1, .iconst 1, .if_icmp .lt 11, .iload 1, .iconst 6, .if_icmp .le 13, .iconst (-1), .ireturn]),
  (11, none, [.iconst (-1), .ireturn]),
  (13, none, [.aload 0, .getfield 2104, .istore 2, .aload 0, .iload 1, .putfield 2104, .iload 2, .ireturn])]
theorem tk_91 : bl_91.all (fun q => chk 91 q.1 q.2.2) = true := by decide +kernel
theorem py_91 : plainName (mN 91).cls = true := by decide +kernel
theorem ml_91 : mL 91 = 3 := rfl
/-- C.sheet -/
def bl_92 : Tb := [
  (0, none, [.iload 1, .ifCond .lt 15, .iload 1, .iconst 3, .if_icmp .gt 15, .iload 2, .iconst 6, .if_icmp .le 17, .iconst (-1), .ireturn]),
  (15, none, [.iconst (-1), .ireturn]),
  (17, none, [.iload 1, .iconst 3, .if_icmp .ge 29, .iload 2, .ifCond .ge 29, .iconst (-2), .ireturn]),
  (29, none, [.iload 1, .iconst 3, .if_icmp .ne 38, .iconst 0, .goto 39]),
  (38, none, [.iload 2, .istore 5, .iconst 0, .istore 6, .goto_w 44]),
  (39, none, [.istore 5, .iconst 0, .istore 6, .goto_w 44]),
  (44, some [0, 1, 3, 4, 5, 6], [.iload 6, .aload 0, .getfield 2059, .getfield 1280, .if_icmp .ge 93, .aload 0, .getfield 2059, .iload 6, .iload 6, .iload 5, .if_icmp .ge 83, .iload 1, .iload 3, .iload 6, .iload 4, .imul, .iadd, .invokestatic 18592, .goto 84]),
  (83, none, [.iconst 0, .invokevirtual 7589, .iinc 6 1, .goto 44]),
  (84, none, [.invokevirtual 7589, .iinc 6 1, .goto 44]),
  (93, none, [.iload 1, .iconst 3, .if_icmp .ne 103, .iconst (-3), .goto 110]),
  (103, none, [.aload 0, .getfield 2059, .invokevirtual 6405, .ireturn]),
  (110, none, [.ireturn])]
theorem tk_92 : bl_92.all (fun q => chk 92 q.1 q.2.2) = true := by decide +kernel
theorem py_92 : plainName (mN 92).cls = true := by decide +kernel
theorem ml_92 : mL 92 = 7 := rfl
/-- C.fight -/
def bl_93 : Tb := [
  (0, none, [.aload 0, .getfield 2063, .aload 0, .getfield 2059, .invokevirtual 5141, .aload 0, .getfield 2059, .aload 0, .getfield 2098, .aload 0, .getfield 2104, .iload 1, .iload 2, .invokevirtual 8133, .istore 3, .iload 3, .ifCond .lt 44, .aload 0, .getfield 2071, .aload 0, .getfield 2063, .invokevirtual 1810, .iload 3, .ireturn]),
  (44, none, [.iload 3, .ireturn])]
theorem tk_93 : bl_93.all (fun q => chk 93 q.1 q.2.2) = true := by decide +kernel
theorem py_93 : plainName (mN 93).cls = true := by decide +kernel
theorem ml_93 : mL 93 = 4 := rfl
/-- C.days -/
def bl_94 : Tb := [
  (0, none, [.iload 1, .ifCond .lt 10, .iload 1, .iconst 60, .if_icmp .le 12, .iconst (-1), .ireturn]),
  (10, none, [.iconst (-1), .ireturn]),
  (12, none, [.iload 1, .ifCond .le 27, .aload 0, .getfield 2071, .aload 0, .getfield 2059, .invokevirtual 1810, .aload 0, .getfield 2059, .iload 1, .invokevirtual 8341, .aload 0, .getfield 2055, .invokevirtual 2179, .iconst 0, .istore 2, .goto_w 44]),
  (27, none, [.aload 0, .getfield 2059, .iload 1, .invokevirtual 8341, .aload 0, .getfield 2055, .invokevirtual 2179, .iconst 0, .istore 2, .goto_w 44]),
  (44, some [0, 2], [.iload 2, .iconst 4, .if_icmp .ge 71, .aload 0, .getfield 2055, .aload 0, .getfield 2059, .iload 2, .invokevirtual 6677, .i2l, .invokevirtual 2323, .iinc 2 1, .goto 44]),
  (71, none, [.aload 0, .getfield 2059, .invokevirtual 6405, .ireturn])]
theorem tk_94 : bl_94.all (fun q => chk 94 q.1 q.2.2) = true := by decide +kernel
theorem py_94 : plainName (mN 94).cls = true := by decide +kernel
theorem ml_94 : mL 94 = 3 := rfl
/-- C.sews -/
def bl_95 : Tb := [
  (0, none, [.aload 0, .getfield 2063, .aload 0, .getfield 2059, .invokevirtual 5141, .aload 0, .getfield 2059, .iload 1, .iload 2, .iload 3, .invokevirtual 8629, .istore 4, .iload 4, .ifCond .lt 39, .aload 0, .getfield 2071, .aload 0, .getfield 2063, .invokevirtual 1810, .iload 4, .ireturn]),
  (39, none, [.iload 4, .ireturn])]
theorem tk_95 : bl_95.all (fun q => chk 95 q.1 q.2.2) = true := by decide +kernel
theorem py_95 : plainName (mN 95).cls = true := by decide +kernel
theorem ml_95 : mL 95 = 5 := rfl
/-- C.yields -/
def bl_96 : Tb := [
  (0, none, [.aload 0, .getfield 2063, .aload 0, .getfield 2059, .invokevirtual 5141, .aload 0, .getfield 2059, .iload 1, .iload 2, .invokevirtual 8741, .istore 3, .iload 3, .ifCond .lt 36, .aload 0, .getfield 2071, .aload 0, .getfield 2063, .invokevirtual 1810, .iload 3, .ireturn]),
  (36, none, [.iload 3, .ireturn])]
theorem tk_96 : bl_96.all (fun q => chk 96 q.1 q.2.2) = true := by decide +kernel
theorem py_96 : plainName (mN 96).cls = true := by decide +kernel
theorem ml_96 : mL 96 = 4 := rfl
/-- C.war -/
def bl_97 : Tb := [
  (0, none, [.aload 0, .getfield 2051, .invokevirtual 10631, .istore 1, .aload 0, .iload 1, .invokevirtual 17688, .istore 2, .iload 2, .iconst (-1), .if_icmp .eq 23, .iconst (-1), .iload 2, .isub, .ireturn]),
  (23, none, [.aload 0, .getfield 2063, .aload 0, .getfield 2059, .invokevirtual 5141, .iconst 0, .istore 3, .iconst 0, .istore 4, .iconst 0, .istore 5, .iconst 0, .istore 6, .goto_w 45]),
  (45, some [0, 1, 3, 4, 5, 6], [.iload 6, .iload 1, .if_icmp .ge 115, .iload 4, .ifCond .ne 115, .iload 6, .iload 5, .if_icmp .ne 109, .aload 0, .iload 6, .invokevirtual 18072, .ifCond .ne 76, .iconst 1, .goto 77]),
  (76, none, [.iconst 0, .istore 4, .iload 3, .iload 4, .ifCond .eq 89, .iconst 0, .goto 90]),
  (77, none, [.istore 4, .iload 3, .iload 4, .ifCond .eq 89, .iconst 0, .goto 90]),
  (89, none, [.iconst 1, .iadd, .istore 3, .iload 5, .aload 0, .getfield 2051, .iload 6, .invokevirtual 10519, .invokestatic 17936, .iadd, .istore 5, .iinc 6 1, .goto 45]),
  (90, none, [.iadd, .istore 3, .iload 5, .aload 0, .getfield 2051, .iload 6, .invokevirtual 10519, .invokestatic 17936, .iadd, .istore 5, .iinc 6 1, .goto 45]),
  (109, none, [.iinc 6 1, .goto 45]),
  (115, none, [.iload 3, .ifCond .le 130, .aload 0, .getfield 2071, .aload 0, .getfield 2063, .invokevirtual 1810, .aload 0, .getfield 2055, .invokevirtual 2179, .aload 0, .getfield 2055, .iload 4, .ifCond .eq 150, .ldc2_w 1, .goto 151]),
  (130, none, [.aload 0, .getfield 2055, .invokevirtual 2179, .aload 0, .getfield 2055, .iload 4, .ifCond .eq 150, .ldc2_w 1, .goto 151]),
  (150, none, [.ldc2_w 0, .invokevirtual 2323, .aload 0, .getfield 2055, .aload 0, .getfield 2059, .getfield 1288, .i2l, .invokevirtual 2323, .iload 3, .ireturn]),
  (151, none, [.invokevirtual 2323, .aload 0, .getfield 2055, .aload 0, .getfield 2059, .getfield 1288, .i2l, .invokevirtual 2323, .iload 3, .ireturn])]
theorem tk_97 : bl_97.all (fun q => chk 97 q.1 q.2.2) = true := by decide +kernel
theorem py_97 : plainName (mN 97).cls = true := by decide +kernel
theorem ml_97 : mL 97 = 7 := rfl
/-- C.undo -/
def bl_98 : Tb := [
  (0, none, [.aload 0, .getfield 2071, .aload 0, .getfield 2059, .invokevirtual 1938, .ifCond .eq 24, .aload 0, .getfield 2071, .getfield 520, .goto 25]),
  (24, none, [.iconst (-1), .ireturn]),
  (25, none, [.ireturn])]
theorem tk_98 : bl_98.all (fun q => chk 98 q.1 q.2.2) = true := by decide +kernel
theorem py_98 : plainName (mN 98).cls = true := by decide +kernel
theorem ml_98 : mL 98 = 1 := rfl
/-- C.fleet -/
def bl_99 : Tb := [
  (0, none, [.iload 1, .invokestatic 18448, .ifCond .ne 9, .iconst (-1), .ireturn]),
  (9, none, [.iconst 0, .istore 2, .iconst 0, .istore 3, .iconst 0, .istore 4, .goto_w 16]),
  (16, some [0, 1, 2, 3, 4], [.iload 4, .aload 0, .getfield 2059, .getfield 1280, .if_icmp .ge 66, .aload 0, .getfield 2059, .iload 4, .invokevirtual 5781, .iload 1, .if_icmp .ne 60, .iload 2, .iconst 1, .iload 4, .ishl, .ior, .istore 2, .iload 3, .aload 0, .getfield 2059, .iload 4, .invokevirtual 5653, .iadd, .istore 3, .iinc 4 1, .goto 16]),
  (60, none, [.iinc 4 1, .goto 16]),
  (66, none, [.aload 0, .getfield 2055, .invokevirtual 2179, .aload 0, .getfield 2055, .iload 3, .i2l, .invokevirtual 2323, .aload 0, .getfield 2055, .aload 0, .getfield 2059, .iload 1, .invokevirtual 6677, .i2l, .invokevirtual 2323, .iload 2, .ireturn])]
theorem tk_99 : bl_99.all (fun q => chk 99 q.1 q.2.2) = true := by decide +kernel
theorem py_99 : plainName (mN 99).cls = true := by decide +kernel
theorem ml_99 : mL 99 = 5 := rfl
