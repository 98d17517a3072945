/-! the methods' code, 150 to 199 -/
/-- C.lesserWins -/
def bl_150 : Tb := [
  (0, none, [.iconst 0, .istore 2, .iconst 0, .istore 3, .goto_w 4]),
  (4, some [0, 1, 2, 3], [.iload 3, .aload 0, .getfield 2059, .getfield 1280, .if_icmp .ge 67, .iload 3, .iconst 1, .iadd, .istore 4, .goto_w 20]),
  (20, some [0, 1, 2, 3, 4], [.iload 4, .aload 0, .getfield 2059, .getfield 1280, .if_icmp .ge 61, .iload 2, .aload 0, .getfield 2059, .aload 1, .iload 3, .iload 4, .invokevirtual 7989, .iload 3, .if_icmp .ne 52, .iconst 1, .goto 53]),
  (52, none, [.iconst 0, .iadd, .istore 2, .iinc 4 1, .goto 20]),
  (53, none, [.iadd, .istore 2, .iinc 4 1, .goto 20]),
  (61, none, [.iinc 3 1, .goto 4]),
  (67, none, [.iload 2, .ireturn])]
theorem tk_150 : bl_150.all (fun q => chk 150 q.1 q.2.2) = true := by decide +kernel
theorem py_150 : plainName (mN 150).cls = true := by decide +kernel
theorem ml_150 : mL 150 = 5 := rfl
/-- C.yearGoesBy -/
def bl_151 : Tb := [
  (0, none, [.aload 0, .iconst 4, .invokevirtual 19480, .istore 1, .iload 1, .ifCond .ne 21, .aload 0, .getfield 2067, .iconst 1, .invokevirtual 8341, .goto 94]),
  (21, none, [.aload 0, .getfield 2067, .getfield 1280, .ifCond .le 94, .aload 0, .aload 0, .getfield 2067, .getfield 1280, .invokevirtual 19480, .istore 2, .iload 1, .iconst 3, .if_icmp .ne 66, .aload 0, .getfield 2067, .iload 2, .aload 0, .iconst 4, .invokevirtual 19480, .iconst 1, .invokevirtual 8629, .pop, .goto 94]),
  (66, none, [.aload 0, .getfield 2067, .aload 0, .getfield 2098, .aload 0, .getfield 2104, .iload 2, .aload 0, .aload 0, .getfield 2067, .getfield 1280, .invokevirtual 19480, .invokevirtual 8133, .pop, .return_]),
  (94, none, [.return_])]
theorem tk_151 : bl_151.all (fun q => chk 151 q.1 q.2.2) = true := by decide +kernel
theorem py_151 : plainName (mN 151).cls = true := by decide +kernel
theorem ml_151 : mL 151 = 3 := rfl
/-- C.draws -/
def bl_152 : Tb := [
  (0, none, [.aload 0, .aload 0, .getfield 2112, .iconst 1103515245, .imul, .iconst 12345, .iadd, .putfield 2112, .iload 1, .ifCond .le 32, .aload 0, .getfield 2112, .iconst 16, .iushr, .iload 1, .irem, .goto 33]),
  (32, none, [.iconst 0, .ireturn]),
  (33, none, [.ireturn])]
theorem tk_152 : bl_152.all (fun q => chk 152 q.1 q.2.2) = true := by decide +kernel
theorem py_152 : plainName (mN 152).cls = true := by decide +kernel
theorem ml_152 : mL 152 = 2 := rfl
/-- C.strangePartsOfAll -/
def bl_153 : Tb := [
  (0, none, [.iconst 0, .istore 1, .iconst 0, .istore 2, .goto_w 4]),
  (4, some [0, 1, 2], [.iload 2, .aload 0, .getfield 2059, .getfield 1280, .if_icmp .ge 32, .iload 1, .aload 0, .getfield 2059, .iload 2, .invokevirtual 6293, .iadd, .istore 1, .iinc 2 1, .goto 4]),
  (32, none, [.iload 1, .ireturn])]
theorem tk_153 : bl_153.all (fun q => chk 153 q.1 q.2.2) = true := by decide +kernel
theorem py_153 : plainName (mN 153).cls = true := by decide +kernel
theorem ml_153 : mL 153 = 3 := rfl
/-- C.wholeShips -/
def bl_154 : Tb := [
  (0, none, [.iconst 0, .istore 1, .iconst 0, .istore 2, .goto_w 4]),
  (4, some [0, 1, 2], [.iload 2, .aload 0, .getfield 2059, .getfield 1280, .if_icmp .ge 42, .iload 1, .aload 0, .getfield 2059, .iload 2, .invokevirtual 6293, .ifCond .ne 33, .iconst 1, .iload 2, .ishl, .goto 34]),
  (33, none, [.iconst 0, .ior, .istore 1, .iinc 2 1, .goto 4]),
  (34, none, [.ior, .istore 1, .iinc 2 1, .goto 4]),
  (42, none, [.iload 1, .ireturn])]
theorem tk_154 : bl_154.all (fun q => chk 154 q.1 q.2.2) = true := by decide +kernel
theorem py_154 : plainName (mN 154).cls = true := by decide +kernel
theorem ml_154 : mL 154 = 3 := rfl
/-- C.shipsWith -/
def bl_155 : Tb := [
  (0, none, [.iconst 0, .istore 2, .iconst 0, .istore 3, .goto_w 4]),
  (4, some [0, 1, 2, 3], [.iload 3, .aload 0, .getfield 2059, .getfield 1280, .if_icmp .ge 43, .iload 2, .aload 0, .getfield 2059, .iload 3, .iload 1, .invokevirtual 6181, .ifCond .le 34, .iconst 1, .iload 3, .ishl, .goto 35]),
  (34, none, [.iconst 0, .ior, .istore 2, .iinc 3 1, .goto 4]),
  (35, none, [.ior, .istore 2, .iinc 3 1, .goto 4]),
  (43, none, [.iload 2, .ireturn])]
theorem tk_155 : bl_155.all (fun q => chk 155 q.1 q.2.2) = true := by decide +kernel
theorem py_155 : plainName (mN 155).cls = true := by decide +kernel
theorem ml_155 : mL 155 = 4 := rfl
/-- C.mostSeen -/
def bl_156 : Tb := [
  (0, none, [.iload 0, .lookupswitch 48 #[(0, 36), (1, 38), (2, 41), (3, 43), (4, 46)]]),
  (36, none, [.iconst 3, .ireturn]),
  (38, none, [.iconst 9, .ireturn]),
  (41, none, [.iconst 3, .ireturn]),
  (43, none, [.iconst 99, .ireturn]),
  (46, none, [.iconst 1, .ireturn]),
  (48, none, [.iconst (-1), .ireturn])]
theorem tk_156 : bl_156.all (fun q => chk 156 q.1 q.2.2) = true := by decide +kernel
theorem py_156 : plainName (mN 156).cls = true := by decide +kernel
theorem ml_156 : mL 156 = 1 := rfl
/-- C.fittingShips -/
def bl_157 : Tb := [
  (0, none, [.iconst 0, .istore 1, .iconst 0, .istore 2, .goto_w 4]),
  (4, some [0, 1, 2], [.iload 2, .aload 0, .getfield 2059, .getfield 1280, .if_icmp .ge 39, .iload 1, .aload 0, .iload 2, .invokevirtual 20248, .ifCond .eq 30, .iconst 1, .iload 2, .ishl, .goto 31]),
  (30, none, [.iconst 0, .ior, .istore 1, .iinc 2 1, .goto 4]),
  (31, none, [.ior, .istore 1, .iinc 2 1, .goto 4]),
  (39, none, [.iload 1, .ireturn])]
theorem tk_157 : bl_157.all (fun q => chk 157 q.1 q.2.2) = true := by decide +kernel
theorem py_157 : plainName (mN 157).cls = true := by decide +kernel
theorem ml_157 : mL 157 = 3 := rfl
/-- C.fitsAll -/
def bl_158 : Tb := [
  (0, none, [.iconst 0, .istore 2, .goto_w 2]),
  (2, some [0, 1, 2], [.iload 2, .aload 0, .getfield 2087, .getfield 268, .if_icmp .ge 45, .aload 0, .iload 1, .aload 0, .getfield 2087, .iload 2, .invokevirtual 1041, .aload 0, .getfield 2087, .iload 2, .invokevirtual 1169, .invokevirtual 20408, .ifCond .ne 39, .iconst 0, .freturn]),
  (39, none, [.iinc 2 1, .goto 2]),
  (45, none, [.iconst 1, .freturn])]
theorem tk_158 : bl_158.all (fun q => chk 158 q.1 q.2.2) = true := by decide +kernel
theorem py_158 : plainName (mN 158).cls = true := by decide +kernel
theorem ml_158 : mL 158 = 3 := rfl
/-- C.fitsSight -/
def bl_159 : Tb := [
  (0, none, [.iload 2, .lookupswitch 104 #[(0, 32), (1, 50), (2, 68), (3, 86)]]),
  (32, none, [.aload 0, .getfield 2059, .iload 1, .invokevirtual 5781, .iload 3, .if_icmp .ne 48, .iconst 1, .goto 49]),
  (48, none, [.iconst 0, .freturn]),
  (49, none, [.freturn]),
  (50, none, [.aload 0, .getfield 2059, .iload 1, .invokevirtual 5653, .iload 3, .if_icmp .lt 66, .iconst 1, .goto 67]),
  (66, none, [.iconst 0, .freturn]),
  (67, none, [.freturn]),
  (68, none, [.aload 0, .getfield 2059, .iload 1, .iload 3, .invokevirtual 6181, .ifCond .le 84, .iconst 1, .goto 85]),
  (84, none, [.iconst 0, .freturn]),
  (85, none, [.freturn]),
  (86, none, [.aload 0, .getfield 2059, .iload 1, .invokevirtual 5909, .iload 3, .if_icmp .lt 102, .iconst 1, .goto 103]),
  (102, none, [.iconst 0, .freturn]),
  (103, none, [.freturn]),
  (104, none, [.aload 0, .getfield 2059, .iload 1, .invokevirtual 6037, .ifCond .le 119, .iconst 1, .goto 120]),
  (119, none, [.iconst 0, .iload 3, .iconst 1, .if_icmp .ne 129, .iconst 1, .goto 130]),
  (120, none, [.iload 3, .iconst 1, .if_icmp .ne 129, .iconst 1, .goto 130]),
  (129, none, [.iconst 0, .if_icmp .ne 137, .iconst 1, .goto 138]),
  (130, none, [.if_icmp .ne 137, .iconst 1, .goto 138]),
  (137, none, [.iconst 0, .freturn]),
  (138, none, [.freturn])]
theorem tk_159 : bl_159.all (fun q => chk 159 q.1 q.2.2) = true := by decide +kernel
theorem py_159 : plainName (mN 159).cls = true := by decide +kernel
theorem ml_159 : mL 159 = 4 := rfl
/-- C.isCold -/
def bl_160 : Tb := [
  (0, none, [.iload 0, .ifCond .lt 25, .iload 0, .getstatic 4, .arraylength, .if_icmp .ge 25, .getstatic 4, .iload 0, .faload, .iload 1, .if_icmp .ne 25, .iconst 1, .goto 26]),
  (25, none, [.iconst 0, .freturn]),
  (26, none, [.freturn])]
theorem tk_160 : bl_160.all (fun q => chk 160 q.1 q.2.2) = true := by decide +kernel
theorem py_160 : plainName (mN 160).cls = true := by decide +kernel
theorem ml_160 : mL 160 = 2 := rfl
/-- C.isContent -/
def bl_161 : Tb := [
  (0, none, [.iload 0, .iload 1, .iload 2, .invokestatic 20784, .istore 3, .iconst 0, .istore 4, .goto_w 10]),
  (10, some [0, 2, 3, 4], [.iload 4, .iconst 9, .if_icmp .gt 36, .iload 0, .iload 4, .iload 2, .invokestatic 20784, .iload 3, .if_icmp .le 30, .iconst 0, .freturn]),
  (30, none, [.iinc 4 1, .goto 10]),
  (36, none, [.iconst 1, .freturn])]
theorem tk_161 : bl_161.all (fun q => chk 161 q.1 q.2.2) = true := by decide +kernel
theorem py_161 : plainName (mN 161).cls = true := by decide +kernel
theorem ml_161 : mL 161 = 5 := rfl
/-- C.gain -/
def bl_162 : Tb := [
  (0, none, [.iload 1, .iload 2, .if_icmp .le 9, .iload 0, .goto 21]),
  (9, none, [.iload 1, .iload 2, .if_icmp .ne 20, .iload 0, .iconst 2, .idiv, .goto 21]),
  (20, none, [.iconst 0, .istore 3, .iload 3, .iload 1, .isub, .iload 1, .iload 2, .isub, .iconst 3, .if_icmp .lt 36, .iconst 2, .goto 37]),
  (21, none, [.istore 3, .iload 3, .iload 1, .isub, .iload 1, .iload 2, .isub, .iconst 3, .if_icmp .lt 36, .iconst 2, .goto 37]),
  (36, none, [.iconst 0, .isub, .ireturn]),
  (37, none, [.isub, .ireturn])]
theorem tk_162 : bl_162.all (fun q => chk 162 q.1 q.2.2) = true := by decide +kernel
theorem py_162 : plainName (mN 162).cls = true := by decide +kernel
theorem ml_162 : mL 162 = 4 := rfl
/-- C.factorial -/
def bl_163 : Tb := [
  (0, none, [.iload 0, .ifCond .lt 20, .iload 0, .getstatic 3, .arraylength, .if_icmp .ge 20, .getstatic 3, .iload 0, .faload, .goto 21]),
  (20, none, [.iconst 0, .ireturn]),
  (21, none, [.ireturn])]
theorem tk_163 : bl_163.all (fun q => chk 163 q.1 q.2.2) = true := by decide +kernel
theorem py_163 : plainName (mN 163).cls = true := by decide +kernel
theorem ml_163 : mL 163 = 1 := rfl
/-- C.power -/
def bl_164 : Tb := [
  (0, none, [.ldc2_w 1, .lstore 2, .iconst 0, .istore 4, .goto_w 5]),
  (5, some [0, 1, 2, 4], [.iload 4, .iload 1, .if_icmp .ge 22, .lload 2, .iload 0, .i2l, .lmul, .lstore 2, .iinc 4 1, .goto 5]),
  (22, none, [.lload 2, .lreturn])]
theorem tk_164 : bl_164.all (fun q => chk 164 q.1 q.2.2) = true := by decide +kernel
theorem py_164 : plainName (mN 164).cls = true := by decide +kernel
theorem ml_164 : mL 164 = 5 := rfl
/-- M.thrown -/
def bl_166 : Tb := [
  (0, none, [.aload 0, .getfield 2336, .ireturn])]
theorem tk_166 : bl_166.all (fun q => chk 166 q.1 q.2.2) = true := by decide +kernel
theorem py_166 : plainName (mN 166).cls = true := by decide +kernel
theorem ml_166 : mL 166 = 1 := rfl
/-- M.in -/
def bl_167 : Tb := [
  (0, none, [.iload 0, .iload 1, .if_icmp .lt 14, .iload 0, .iload 2, .if_icmp .gt 14, .iconst 1, .goto 15]),
  (14, none, [.iconst 0, .freturn]),
  (15, none, [.freturn])]
theorem tk_167 : bl_167.all (fun q => chk 167 q.1 q.2.2) = true := by decide +kernel
theorem py_167 : plainName (mN 167).cls = true := by decide +kernel
theorem ml_167 : mL 167 = 3 := rfl
/-- M.has -/
def bl_168 : Tb := [
  (0, none, [.iload 0, .iload 1, .ishr, .iconst 1, .iand, .iconst 1, .if_icmp .ne 13, .iconst 1, .goto 14]),
  (13, none, [.iconst 0, .freturn]),
  (14, none, [.freturn])]
theorem tk_168 : bl_168.all (fun q => chk 168 q.1 q.2.2) = true := by decide +kernel
theorem py_168 : plainName (mN 168).cls = true := by decide +kernel
theorem ml_168 : mL 168 = 2 := rfl
/-- M.lost -/
def bl_169 : Tb := [
  (0, none, [.aload 0, .iconst 1, .putfield 2336, .iconst 0, .ireturn])]
theorem tk_169 : bl_169.all (fun q => chk 169 q.1 q.2.2) = true := by decide +kernel
theorem py_169 : plainName (mN 169).cls = true := by decide +kernel
theorem ml_169 : mL 169 = 1 := rfl
/-- M.tell -/
def bl_170 : Tb := [
  (0, none, [.aload 0, .getfield 2331, .aload 0, .getfield 2332, .lload 1, .lastore, .aload 0, .dup, .getfield 2332, .iconst 1, .iadd, .putfield 2332, .return_])]
theorem tk_170 : bl_170.all (fun q => chk 170 q.1 q.2.2) = true := by decide +kernel
theorem py_170 : plainName (mN 170).cls = true := by decide +kernel
theorem ml_170 : mL 170 = 3 := rfl
/-- M.isShip -/
def bl_171 : Tb := [
  (0, none, [.iload 1, .iconst 0, .aload 0, .getfield 2308, .iconst 1, .isub, .invokestatic 21424, .freturn])]
theorem tk_171 : bl_171.all (fun q => chk 171 q.1 q.2.2) = true := by decide +kernel
theorem py_171 : plainName (mN 171).cls = true := by decide +kernel
theorem ml_171 : mL 171 = 2 := rfl
/-- M.areTwo -/
def bl_172 : Tb := [
  (0, none, [.aload 0, .iload 1, .invokevirtual 21913, .ifCond .eq 25, .aload 0, .iload 2, .invokevirtual 21913, .ifCond .eq 25, .iload 1, .iload 2, .if_icmp .eq 25, .iconst 1, .goto 26]),
  (25, none, [.iconst 0, .freturn]),
  (26, none, [.freturn])]
theorem tk_172 : bl_172.all (fun q => chk 172 q.1 q.2.2) = true := by decide +kernel
theorem py_172 : plainName (mN 172).cls = true := by decide +kernel
theorem ml_172 : mL 172 = 3 := rfl
/-- M.isSide -/
def bl_173 : Tb := [
  (0, none, [.iload 0, .iconst 0, .iconst 3, .invokestatic 21424, .freturn])]
theorem tk_173 : bl_173.all (fun q => chk 173 q.1 q.2.2) = true := by decide +kernel
theorem py_173 : plainName (mN 173).cls = true := by decide +kernel
theorem ml_173 : mL 173 = 1 := rfl
/-- M.all -/
def bl_174 : Tb := [
  (0, none, [.iconst 1, .aload 0, .getfield 2308, .ishl, .iconst 1, .isub, .ireturn])]
theorem tk_174 : bl_174.all (fun q => chk 174 q.1 q.2.2) = true := by decide +kernel
theorem py_174 : plainName (mN 174).cls = true := by decide +kernel
theorem ml_174 : mL 174 = 1 := rfl
/-- M.part -/
def bl_175 : Tb := [
  (0, none, [.aload 0, .iconst 12, .iconst 4, .iload 1, .imul, .iadd, .iload 2, .iadd, .iaload, .ireturn])]
theorem tk_175 : bl_175.all (fun q => chk 175 q.1 q.2.2) = true := by decide +kernel
theorem py_175 : plainName (mN 175).cls = true := by decide +kernel
theorem ml_175 : mL 175 = 3 := rfl
/-- M.own -/
def bl_176 : Tb := [
  (0, none, [.aload 0, .iload 1, .aload 0, .iconst 6, .iload 1, .iadd, .iaload, .invokestatic 22448, .ireturn])]
theorem tk_176 : bl_176.all (fun q => chk 176 q.1 q.2.2) = true := by decide +kernel
theorem py_176 : plainName (mN 176).cls = true := by decide +kernel
theorem ml_176 : mL 176 = 2 := rfl
/-- M.sign -/
def bl_177 : Tb := [
  (0, none, [.aload 0, .iconst 0, .putfield 2336, .aload 0, .getfield 2324, .iconst 4, .iadd, .iconst 80, .if_icmp .le 18, .iconst (-1), .ireturn]),
  (18, none, [.iconst 3, .istore 2, .goto_w 20]),
  (20, some [0, 1, 2], [.iload 2, .ifCond .lt 53, .aload 0, .getfield 2323, .aload 0, .dup, .getfield 2324, .dup_x1, .iconst 1, .iadd, .putfield 2324, .iload 1, .iconst 8, .iload 2, .imul, .ishr, .i2b, .bastore, .iinc 2 (-1), .goto 20]),
  (53, none, [.aload 0, .getfield 2324, .ireturn])]
theorem tk_177 : bl_177.all (fun q => chk 177 q.1 q.2.2) = true := by decide +kernel
theorem py_177 : plainName (mN 177).cls = true := by decide +kernel
theorem ml_177 : mL 177 = 3 := rfl
/-- M.end -/
def bl_178 : Tb := [
  (0, none, [.aload 0, .iconst 0, .putfield 2336, .iload 1, .iconst 0, .aload 0, .getfield 2324, .invokestatic 21424, .ifCond .ne 19, .iconst 0, .freturn]),
  (19, none, [.aload 0, .iload 1, .putfield 2324, .iconst 1, .freturn])]
theorem tk_178 : bl_178.all (fun q => chk 178 q.1 q.2.2) = true := by decide +kernel
theorem py_178 : plainName (mN 178).cls = true := by decide +kernel
theorem ml_178 : mL 178 = 2 := rfl
/-- M.begin -/
def bl_179 : Tb := [
  (0, none, [.aload 0, .aload 1, .putfield 2342, .aload 0, .iload 2, .putfield 2344, .aload 0, .iload 3, .putfield 2348, .aload 0, .iconst 0, .putfield 2352, .aload 0, .iconst (-1), .putfield 2356, .return_])]
theorem tk_179 : bl_179.all (fun q => chk 179 q.1 q.2.2) = true := by decide +kernel
theorem py_179 : plainName (mN 179).cls = true := by decide +kernel
theorem ml_179 : mL 179 = 4 := rfl
/-- M.beginText -/
def bl_180 : Tb := [
  (0, none, [.aload 0, .aload 0, .getfield 2323, .aload 0, .getfield 2324, .iload 1, .invokevirtual 22969, .aload 0, .iconst 0, .putfield 2324, .return_])]
theorem tk_180 : bl_180.all (fun q => chk 180 q.1 q.2.2) = true := by decide +kernel
theorem py_180 : plainName (mN 180).cls = true := by decide +kernel
theorem ml_180 : mL 180 = 2 := rfl
/-- M.here -/
def bl_181 : Tb := [
  (0, none, [.aload 0, .getfield 2352, .aload 0, .getfield 2344, .if_icmp .ge 38, .aload 0, .getfield 2352, .aload 0, .getfield 2348, .if_icmp .ge 38, .aload 0, .getfield 2342, .aload 0, .getfield 2352, .baload, .iconst 255, .iand, .goto 39]),
  (38, none, [.iconst (-1), .ireturn]),
  (39, none, [.ireturn])]
theorem tk_181 : bl_181.all (fun q => chk 181 q.1 q.2.2) = true := by decide +kernel
theorem py_181 : plainName (mN 181).cls = true := by decide +kernel
theorem ml_181 : mL 181 = 1 := rfl
/-- M.fine -/
def bl_182 : Tb := [
  (0, none, [.aload 0, .getfield 2356, .iconst (-1), .if_icmp .ne 12, .iconst 1, .goto 13]),
  (12, none, [.iconst 0, .freturn]),
  (13, none, [.freturn])]
theorem tk_182 : bl_182.all (fun q => chk 182 q.1 q.2.2) = true := by decide +kernel
theorem py_182 : plainName (mN 182).cls = true := by decide +kernel
theorem ml_182 : mL 182 = 1 := rfl
/-- M.fault -/
def bl_183 : Tb := [
  (0, none, [.aload 0, .invokevirtual 23305, .ifCond .eq 12, .aload 0, .iload 1, .putfield 2356, .return_]),
  (12, none, [.return_])]
theorem tk_183 : bl_183.all (fun q => chk 183 q.1 q.2.2) = true := by decide +kernel
theorem py_183 : plainName (mN 183).cls = true := by decide +kernel
theorem ml_183 : mL 183 = 2 := rfl
/-- M.passes -/
def bl_184 : Tb := [
  (0, none, [.aload 0, .invokevirtual 23305, .ifCond .eq 15, .aload 0, .invokevirtual 23177, .iload 1, .if_icmp .eq 17, .iconst 0, .freturn]),
  (15, none, [.iconst 0, .freturn]),
  (17, none, [.aload 0, .dup, .getfield 2352, .iconst 1, .iadd, .putfield 2352, .iconst 1, .freturn])]
theorem tk_184 : bl_184.all (fun q => chk 184 q.1 q.2.2) = true := by decide +kernel
theorem py_184 : plainName (mN 184).cls = true := by decide +kernel
theorem ml_184 : mL 184 = 2 := rfl
/-- M.need -/
def bl_185 : Tb := [
  (0, none, [.aload 0, .iload 1, .invokevirtual 23577, .ifCond .ne 16, .aload 0, .aload 0, .getfield 2352, .invokevirtual 23449, .return_]),
  (16, none, [.return_])]
theorem tk_185 : bl_185.all (fun q => chk 185 q.1 q.2.2) = true := by decide +kernel
theorem py_185 : plainName (mN 185).cls = true := by decide +kernel
theorem ml_185 : mL 185 = 2 := rfl
/-- M.oneOf -/
def bl_186 : Tb := [
  (0, none, [.aload 0, .invokevirtual 23305, .ifCond .ne 9, .iconst 0, .ireturn]),
  (9, none, [.aload 0, .invokevirtual 23177, .iload 1, .iload 1, .iload 2, .iadd, .iconst 1, .isub, .invokestatic 21424, .ifCond .ne 35, .aload 0, .aload 0, .getfield 2352, .invokevirtual 23449, .iconst 0, .ireturn]),
  (35, none, [.aload 0, .dup, .getfield 2352, .iconst 1, .iadd, .putfield 2352, .aload 0, .getfield 2342, .aload 0, .getfield 2352, .iconst 1, .isub, .baload, .iload 1, .isub, .ireturn])]
theorem tk_186 : bl_186.all (fun q => chk 186 q.1 q.2.2) = true := by decide +kernel
theorem py_186 : plainName (mN 186).cls = true := by decide +kernel
theorem ml_186 : mL 186 = 3 := rfl
/-- M.number -/
def bl_187 : Tb := [
  (0, none, [.aload 0, .iconst 48, .iconst 10, .invokevirtual 23849, .istore 2, .iconst 1, .istore 3, .goto_w 11]),
  (11, some [0, 1, 2, 3], [.iload 3, .iload 1, .if_icmp .ge 57, .aload 0, .invokevirtual 23305, .ifCond .eq 57, .aload 0, .invokevirtual 23177, .iconst 48, .iconst 57, .invokestatic 21424, .ifCond .eq 57, .iconst 10, .iload 2, .imul, .aload 0, .iconst 48, .iconst 10, .invokevirtual 23849, .iadd, .istore 2, .iinc 3 1, .goto 11]),
  (57, none, [.iload 2, .ireturn])]
theorem tk_187 : bl_187.all (fun q => chk 187 q.1 q.2.2) = true := by decide +kernel
theorem py_187 : plainName (mN 187).cls = true := by decide +kernel
theorem ml_187 : mL 187 = 4 := rfl
/-- M.wasRight -/
def bl_188 : Tb := [
  (0, none, [.aload 0, .getfield 2352, .aload 0, .getfield 2344, .if_icmp .ge 19, .aload 0, .aload 0, .getfield 2352, .invokevirtual 23449, .aload 0, .invokevirtual 23305, .freturn]),
  (19, none, [.aload 0, .invokevirtual 23305, .freturn])]
theorem tk_188 : bl_188.all (fun q => chk 188 q.1 q.2.2) = true := by decide +kernel
theorem py_188 : plainName (mN 188).cls = true := by decide +kernel
theorem ml_188 : mL 188 = 1 := rfl
/-- M.ships -/
def bl_189 : Tb := [
  (0, none, [.aload 0, .iconst 0, .putfield 2336, .aload 0, .iconst 17, .invokevirtual 23065, .aload 0, .getfield 2344, .ifCond .ne 20, .iconst 0, .ireturn]),
  (20, none, [.iconst 0, .istore 1, .iconst 1, .istore 2, .goto_w 24]),
  (24, some [0, 1, 2], [.iload 2, .ifCond .eq 105, .aload 0, .invokevirtual 23305, .ifCond .eq 105, .aload 0, .getfield 2308, .iload 1, .iadd, .iconst 6, .if_icmp .ne 57, .aload 0, .aload 0, .getfield 2352, .invokevirtual 23449, .goto 92]),
  (57, none, [.aload 0, .getfield 2363, .iconst 2, .iload 1, .imul, .aload 0, .iconst 97, .iconst 4, .invokevirtual 23849, .iastore, .aload 0, .getfield 2363, .iconst 2, .iload 1, .imul, .iconst 1, .iadd, .aload 0, .iconst 49, .iconst 9, .invokevirtual 23849, .iconst 1, .iadd, .iastore, .iinc 1 1, .aload 0, .iconst 59, .invokevirtual 23577, .istore 2, .goto 24]),
  (92, none, [.iinc 1 1, .aload 0, .iconst 59, .invokevirtual 23577, .istore 2, .goto 24]),
  (105, none, [.aload 0, .invokevirtual 24073, .ifCond .ne 119, .iconst (-1), .aload 0, .getfield 2356, .isub, .ireturn]),
  (119, none, [.iconst 0, .istore 3, .goto_w 121]),
  (121, some [0, 1, 3], [.iload 3, .iload 1, .if_icmp .ge 276, .aload 0, .getfield 2319, .aload 0, .getfield 2308, .aload 0, .getfield 2363, .iconst 2, .iload 3, .imul, .iconst 1, .iadd, .iaload, .iastore, .aload 0, .getfield 2307, .aload 0, .getfield 2308, .aload 0, .getfield 2319, .aload 0, .getfield 2308, .iaload, .iastore, .aload 0, .getfield 2307, .iconst 6, .aload 0, .getfield 2308, .iadd, .aload 0, .getfield 2363, .iconst 2, .iload 3, .imul, .iaload, .iastore, .iconst 0, .istore 4, .goto_w 186]),
  (186, some [0, 1, 3, 4], [.iload 4, .iconst 4, .if_icmp .ge 234, .aload 0, .getfield 2307, .iconst 12, .iconst 4, .aload 0, .getfield 2308, .imul, .iadd, .iload 4, .iadd, .iload 4, .aload 0, .getfield 2363, .iconst 2, .iload 3, .imul, .iaload, .if_icmp .ne 226, .iconst 12, .goto 227]),
  (226, none, [.iconst 0, .iastore, .iinc 4 1, .goto 186]),
  (227, none, [.iastore, .iinc 4 1, .goto 186]),
  (234, none, [.aload 0, .getfield 2307, .iconst 36, .aload 0, .getfield 2308, .iadd, .iconst 0, .iastore, .aload 0, .getfield 2307, .iconst 42, .aload 0, .getfield 2308, .iadd, .iconst 0, .iastore, .aload 0, .dup, .getfield 2308, .iconst 1, .iadd, .putfield 2308, .iinc 3 1, .goto 121]),
  (276, none, [.aload 0, .iconst 0, .putfield 2388, .aload 0, .dup, .getfield 2452, .iconst 1, .iadd, .putfield 2452, .iload 1, .ireturn])]
theorem tk_189 : bl_189.all (fun q => chk 189 q.1 q.2.2) = true := by decide +kernel
theorem py_189 : plainName (mN 189).cls = true := by decide +kernel
theorem ml_189 : mL 189 = 5 := rfl
/-- M.held -/
def bl_190 : Tb := [
  (0, none, [.aload 0, .iload 1, .invokevirtual 24473, .istore 2, .aload 0, .iconst 60, .invokevirtual 23577, .ifCond .eq 30, .iload 2, .aload 0, .iload 1, .invokevirtual 24473, .if_icmp .ge 28, .iconst 1, .goto 29]),
  (28, none, [.iconst 0, .ireturn]),
  (29, none, [.ireturn]),
  (30, none, [.aload 0, .iconst 62, .invokevirtual 23577, .ifCond .eq 54, .iload 2, .aload 0, .iload 1, .invokevirtual 24473, .if_icmp .le 52, .iconst 1, .goto 53]),
  (52, none, [.iconst 0, .ireturn]),
  (53, none, [.ireturn]),
  (54, none, [.aload 0, .iconst 61, .invokevirtual 23577, .ifCond .eq 78, .iload 2, .aload 0, .iload 1, .invokevirtual 24473, .if_icmp .ne 76, .iconst 1, .goto 77]),
  (76, none, [.iconst 0, .ireturn]),
  (77, none, [.ireturn]),
  (78, none, [.iload 2, .ireturn])]
theorem tk_190 : bl_190.all (fun q => chk 190 q.1 q.2.2) = true := by decide +kernel
theorem py_190 : plainName (mN 190).cls = true := by decide +kernel
theorem ml_190 : mL 190 = 3 := rfl
/-- M.sum -/
def bl_191 : Tb := [
  (0, none, [.aload 0, .iload 1, .invokevirtual 24601, .istore 2, .goto_w 6]),
  (6, some [0, 1, 2], [.aload 0, .invokevirtual 23305, .ifCond .eq 82, .aload 0, .invokevirtual 23177, .iconst 43, .if_icmp .eq 31, .aload 0, .invokevirtual 23177, .iconst 45, .if_icmp .ne 82, .aload 0, .invokevirtual 23177, .iconst 43, .if_icmp .ne 44, .iconst 1, .goto 45]),
  (31, none, [.aload 0, .invokevirtual 23177, .iconst 43, .if_icmp .ne 44, .iconst 1, .goto 45]),
  (44, none, [.iconst 0, .istore 3, .aload 0, .dup, .getfield 2352, .iconst 1, .iadd, .putfield 2352, .aload 0, .iload 1, .invokevirtual 24601, .istore 4, .iload 3, .ifCond .eq 74, .iload 2, .iload 4, .iadd, .goto 78]),
  (45, none, [.istore 3, .aload 0, .dup, .getfield 2352, .iconst 1, .iadd, .putfield 2352, .aload 0, .iload 1, .invokevirtual 24601, .istore 4, .iload 3, .ifCond .eq 74, .iload 2, .iload 4, .iadd, .goto 78]),
  (74, none, [.iload 2, .iload 4, .isub, .istore 2, .goto 6]),
  (78, none, [.istore 2, .goto 6]),
  (82, none, [.iload 2, .ireturn])]
theorem tk_191 : bl_191.all (fun q => chk 191 q.1 q.2.2) = true := by decide +kernel
theorem py_191 : plainName (mN 191).cls = true := by decide +kernel
theorem ml_191 : mL 191 = 5 := rfl
/-- M.product -/
def bl_192 : Tb := [
  (0, none, [.aload 0, .iload 1, .invokevirtual 24857, .istore 2, .goto_w 6]),
  (6, some [0, 1, 2], [.aload 0, .invokevirtual 23305, .ifCond .eq 91, .aload 0, .invokevirtual 23177, .iconst 42, .if_icmp .eq 31, .aload 0, .invokevirtual 23177, .iconst 47, .if_icmp .ne 91, .aload 0, .invokevirtual 23177, .iconst 42, .if_icmp .ne 44, .iconst 1, .goto 45]),
  (31, none, [.aload 0, .invokevirtual 23177, .iconst 42, .if_icmp .ne 44, .iconst 1, .goto 45]),
  (44, none, [.iconst 0, .istore 3, .aload 0, .dup, .getfield 2352, .iconst 1, .iadd, .putfield 2352, .aload 0, .iload 1, .invokevirtual 24857, .istore 4, .iload 3, .ifCond .eq 74, .iload 2, .iload 4, .imul, .goto 87]),
  (45, none, [.istore 3, .aload 0, .dup, .getfield 2352, .iconst 1, .iadd, .putfield 2352, .aload 0, .iload 1, .invokevirtual 24857, .istore 4, .iload 3, .ifCond .eq 74, .iload 2, .iload 4, .imul, .goto 87]),
  (74, none, [.iload 4, .ifCond .ne 83, .iconst 0, .goto 87]),
  (83, none, [.iload 2, .iload 4, .idiv, .istore 2, .goto 6]),
  (87, none, [.istore 2, .goto 6]),
  (91, none, [.iload 2, .ireturn])]
theorem tk_192 : bl_192.all (fun q => chk 192 q.1 q.2.2) = true := by decide +kernel
theorem py_192 : plainName (mN 192).cls = true := by decide +kernel
theorem ml_192 : mL 192 = 5 := rfl
/-- M.letterOf -/
def bl_193 : Tb := [
  (0, none, [.iload 0, .iconst 115, .if_icmp .ne 10, .iconst 0, .goto 61]),
  (10, none, [.iload 0, .iconst 111, .if_icmp .ne 20, .iconst 1, .goto 61]),
  (20, none, [.iload 0, .iconst 101, .if_icmp .ne 30, .iconst 2, .goto 61]),
  (30, none, [.iload 0, .iconst 119, .if_icmp .ne 40, .iconst 3, .goto 61]),
  (40, none, [.iload 0, .iconst 108, .if_icmp .ne 50, .iconst 4, .goto 61]),
  (50, none, [.iload 0, .iconst 110, .if_icmp .ne 60, .iconst 5, .goto 61]),
  (60, none, [.iconst (-1), .ireturn]),
  (61, none, [.ireturn])]
theorem tk_193 : bl_193.all (fun q => chk 193 q.1 q.2.2) = true := by decide +kernel
theorem py_193 : plainName (mN 193).cls = true := by decide +kernel
theorem ml_193 : mL 193 = 1 := rfl
/-- M.thing -/
def bl_194 : Tb := [
  (0, none, [.aload 0, .iconst 45, .invokevirtual 23577, .ifCond .eq 16, .aload 0, .iload 1, .invokevirtual 24857, .ineg, .ireturn]),
  (16, none, [.aload 0, .invokevirtual 23305, .ifCond .ne 25, .iconst 0, .ireturn]),
  (25, none, [.aload 0, .invokevirtual 23177, .istore 2, .iload 2, .iconst 40, .if_icmp .ne 67, .iload 1, .iconst 4, .if_icmp .ge 67, .aload 0, .dup, .getfield 2352, .iconst 1, .iadd, .putfield 2352, .aload 0, .iload 1, .iconst 1, .iadd, .invokevirtual 24345, .istore 3, .aload 0, .iconst 41, .invokevirtual 23705, .iload 3, .ireturn]),
  (67, none, [.iload 2, .iconst 48, .iconst 57, .invokestatic 21424, .ifCond .eq 84, .aload 0, .iconst 3, .invokevirtual 23961, .ireturn]),
  (84, none, [.iload 2, .invokestatic 24720, .iconst (-1), .if_icmp .ne 102, .aload 0, .aload 0, .getfield 2352, .invokevirtual 23449, .iconst 0, .ireturn]),
  (102, none, [.aload 0, .dup, .getfield 2352, .iconst 1, .iadd, .putfield 2352, .aload 0, .getfield 2377, .ifCond .eq 131, .aload 0, .getfield 2383, .iload 2, .invokestatic 24720, .iaload, .goto 132]),
  (131, none, [.iconst 0, .ireturn]),
  (132, none, [.ireturn])]
theorem tk_194 : bl_194.all (fun q => chk 194 q.1 q.2.2) = true := by decide +kernel
theorem py_194 : plainName (mN 194).cls = true := by decide +kernel
theorem ml_194 : mL 194 = 4 := rfl
/-- M.readRule -/
def bl_195 : Tb := [
  (0, none, [.aload 0, .iconst 40, .invokevirtual 23065, .aload 0, .iconst 0, .putfield 2377, .aload 0, .getfield 2344, .ifCond .le 24, .aload 0, .iconst 0, .invokevirtual 24345, .pop, .aload 0, .invokevirtual 24073, .freturn]),
  (24, none, [.aload 0, .invokevirtual 24073, .freturn])]
theorem tk_195 : bl_195.all (fun q => chk 195 q.1 q.2.2) = true := by decide +kernel
theorem py_195 : plainName (mN 195).cls = true := by decide +kernel
theorem ml_195 : mL 195 = 1 := rfl
/-- M.rule -/
def bl_196 : Tb := [
  (0, none, [.aload 0, .iconst 0, .putfield 2336, .aload 0, .getfield 2324, .istore 1, .aload 0, .invokevirtual 24969, .ifCond .ne 24, .iconst (-1), .aload 0, .getfield 2356, .isub, .ireturn]),
  (24, none, [.iconst 0, .istore 2, .goto_w 26]),
  (26, some [0, 1, 2], [.iload 2, .iload 1, .if_icmp .ge 49, .aload 0, .getfield 2366, .iload 2, .aload 0, .getfield 2323, .iload 2, .baload, .bastore, .iinc 2 1, .goto 26]),
  (49, none, [.aload 0, .iload 1, .putfield 2372, .iconst 0, .ireturn])]
theorem tk_196 : bl_196.all (fun q => chk 196 q.1 q.2.2) = true := by decide +kernel
theorem py_196 : plainName (mN 196).cls = true := by decide +kernel
theorem ml_196 : mL 196 = 3 := rfl
/-- M.forceOf -/
def bl_197 : Tb := [
  (0, none, [.aload 1, .iload 2, .aload 1, .iconst 6, .iload 3, .iadd, .iaload, .invokestatic 22448, .istore 4, .aload 0, .getfield 2372, .ifCond .ne 35, .aload 1, .iload 2, .iaload, .iconst 2, .imul, .aload 1, .iload 2, .invokestatic 22560, .iadd, .iload 4, .isub, .ireturn]),
  (35, none, [.aload 0, .getfield 2383, .iconst 0, .aload 1, .iload 2, .iaload, .iastore, .aload 0, .getfield 2383, .iconst 1, .aload 1, .iload 2, .invokestatic 22560, .iastore, .aload 0, .getfield 2383, .iconst 2, .iload 4, .iastore, .aload 0, .getfield 2383, .iconst 3, .aload 1, .iconst 36, .iload 2, .iadd, .iaload, .iastore, .aload 0, .getfield 2383, .iconst 4, .aload 1, .iconst 42, .iload 2, .iadd, .iaload, .iastore, .aload 0, .getfield 2383, .iconst 5, .aload 1, .iconst 48, .iaload, .iconst 7, .irem, .iastore, .aload 0, .aload 0, .getfield 2366, .aload 0, .getfield 2372, .iconst 40, .invokevirtual 22969, .aload 0, .iconst 1, .putfield 2377, .aload 0, .iconst 0, .invokevirtual 24345, .istore 5, .aload 0, .iconst 0, .putfield 2377, .iload 5, .ireturn])]
theorem tk_197 : bl_197.all (fun q => chk 197 q.1 q.2.2) = true := by decide +kernel
theorem py_197 : plainName (mN 197).cls = true := by decide +kernel
theorem ml_197 : mL 197 = 6 := rfl
/-- M.ship -/
def bl_198 : Tb := [
  (0, none, [.aload 0, .iconst 0, .putfield 2336, .aload 0, .iload 1, .invokevirtual 21913, .ifCond .eq 23, .iload 2, .iconst 0, .iconst 8, .invokestatic 21424, .ifCond .ne 28, .aload 0, .invokevirtual 21641, .ireturn]),
  (23, none, [.aload 0, .invokevirtual 21641, .ireturn]),
  (28, none, [.iload 2, .lookupswitch 124 #[(0, 80), (1, 87), (2, 94), (3, 124), (4, 124), (5, 124), (6, 124), (7, 104), (8, 114)]]),
  (80, none, [.aload 0, .getfield 2319, .iload 1, .iaload, .ireturn]),
  (87, none, [.aload 0, .getfield 2307, .iload 1, .iaload, .ireturn]),
  (94, none, [.aload 0, .getfield 2307, .iconst 6, .iload 1, .iadd, .iaload, .ireturn]),
  (104, none, [.aload 0, .getfield 2307, .iconst 36, .iload 1, .iadd, .iaload, .ireturn]),
  (114, none, [.aload 0, .getfield 2307, .iconst 42, .iload 1, .iadd, .iaload, .ireturn]),
  (124, none, [.aload 0, .getfield 2307, .iload 1, .iload 2, .iconst 3, .isub, .invokestatic 22448, .ireturn])]
theorem tk_198 : bl_198.all (fun q => chk 198 q.1 q.2.2) = true := by decide +kernel
theorem py_198 : plainName (mN 198).cls = true := by decide +kernel
theorem ml_198 : mL 198 = 3 := rfl
/-- M.force -/
def bl_199 : Tb := [
  (0, none, [.aload 0, .iconst 0, .putfield 2336, .aload 0, .iload 1, .iload 2, .invokevirtual 22057, .ifCond .eq 43, .iconst 1000, .iconst (-999), .iconst 999, .aload 0, .aload 0, .getfield 2307, .iload 1, .iload 2, .invokevirtual 25273, .invokestatic 37024, .invokestatic 36896, .iadd, .goto 44]),
  (43, none, [.iconst (-1), .ireturn]),
  (44, none, [.ireturn])]
theorem tk_199 : bl_199.all (fun q => chk 199 q.1 q.2.2) = true := by decide +kernel
theorem py_199 : plainName (mN 199).cls = true := by decide +kernel
theorem ml_199 : mL 199 = 3 := rfl
