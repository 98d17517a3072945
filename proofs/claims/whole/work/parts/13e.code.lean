/-! the methods' code, 200 to 249 -/
/-- M.take -/
def bl_200 : Tb := [
  (0, none, [.aload 0, .iconst 0, .putfield 2336, .iload 1, .iconst 1, .iconst 6, .invokestatic 21424, .ifCond .ne 17, .iconst (-1), .ireturn]),
  (17, none, [.aload 0, .getfield 2312, .istore 2, .aload 0, .iload 1, .putfield 2312, .iload 2, .ireturn])]
theorem tk_200 : bl_200.all (fun q => chk 200 q.1 q.2.2) = true := by decide +kernel
theorem py_200 : plainName (mN 200).cls = true := by decide +kernel
theorem ml_200 : mL 200 = 3 := rfl
/-- M.sumOf -/
def bl_201 : Tb := [
  (0, none, [.iconst 0, .istore 3, .iconst 0, .istore 4, .goto_w 5]),
  (5, some [0, 1, 2, 3, 4], [.iload 4, .aload 0, .getfield 2308, .if_icmp .ge 29, .iload 3, .aload 1, .iload 2, .iload 4, .iadd, .iaload, .iadd, .istore 3, .iinc 4 1, .goto 5]),
  (29, none, [.iload 3, .ireturn])]
theorem tk_201 : bl_201.all (fun q => chk 201 q.1 q.2.2) = true := by decide +kernel
theorem py_201 : plainName (mN 201).cls = true := by decide +kernel
theorem ml_201 : mL 201 = 5 := rfl
/-- M.sheet -/
def bl_202 : Tb := [
  (0, none, [.aload 0, .iconst 0, .putfield 2336, .iload 1, .iconst 0, .iconst 3, .invokestatic 21424, .ifCond .eq 20, .iload 2, .iconst 6, .if_icmp .le 22, .iconst (-1), .ireturn]),
  (20, none, [.iconst (-1), .ireturn]),
  (22, none, [.iload 1, .iconst 3, .if_icmp .ge 34, .iload 2, .ifCond .ge 34, .iconst (-2), .ireturn]),
  (34, none, [.iload 3, .istore 5, .iconst 0, .istore 6, .goto_w 40]),
  (40, some [0, 1, 2, 4, 5, 6], [.iload 6, .aload 0, .getfield 2308, .if_icmp .ge 125, .iload 1, .ifCond .ne 59, .iload 5, .i2b, .goto 72]),
  (59, none, [.iload 1, .iconst 1, .if_icmp .ne 70, .iload 5, .i2s, .goto 72]),
  (70, none, [.iload 5, .istore 7, .aload 0, .getfield 2307, .iload 6, .iload 1, .iconst 3, .if_icmp .eq 91, .iload 6, .iload 2, .if_icmp .lt 95, .iconst 0, .goto 111]),
  (72, none, [.istore 7, .aload 0, .getfield 2307, .iload 6, .iload 1, .iconst 3, .if_icmp .eq 91, .iload 6, .iload 2, .if_icmp .lt 95, .iconst 0, .goto 111]),
  (91, none, [.iconst 0, .goto 111]),
  (95, none, [.iconst 0, .aload 0, .getfield 2319, .iload 6, .iaload, .iload 7, .invokestatic 37024, .invokestatic 36896, .iastore, .iload 5, .iload 4, .iadd, .istore 5, .iinc 6 1, .goto 40]),
  (111, none, [.iastore, .iload 5, .iload 4, .iadd, .istore 5, .iinc 6 1, .goto 40]),
  (125, none, [.iload 1, .iconst 3, .if_icmp .ne 135, .iconst (-3), .goto 144]),
  (135, none, [.aload 0, .aload 0, .getfield 2307, .iconst 0, .invokevirtual 25769, .ireturn]),
  (144, none, [.ireturn])]
theorem tk_202 : bl_202.all (fun q => chk 202 q.1 q.2.2) = true := by decide +kernel
theorem py_202 : plainName (mN 202).cls = true := by decide +kernel
theorem ml_202 : mL 202 = 8 := rfl
/-- M.lay -/
def bl_203 : Tb := [
  (0, none, [.iconst 0, .istore 3, .goto_w 2]),
  (2, some [0, 1, 2, 3], [.iload 3, .iconst 50, .if_icmp .ge 22, .aload 1, .iload 2, .iload 3, .iadd, .aload 0, .iload 3, .iaload, .iastore, .iinc 3 1, .goto 2]),
  (22, none, [.return_])]
theorem tk_203 : bl_203.all (fun q => chk 203 q.1 q.2.2) = true := by decide +kernel
theorem py_203 : plainName (mN 203).cls = true := by decide +kernel
theorem ml_203 : mL 203 = 4 := rfl
/-- M.remember -/
def bl_204 : Tb := [
  (0, none, [.aload 0, .getfield 2388, .iconst 12, .if_icmp .ne 49, .iconst 0, .istore 2, .goto_w 11]),
  (11, some [0, 1, 2], [.iload 2, .iconst 550, .if_icmp .ge 39, .aload 0, .getfield 2387, .iload 2, .aload 0, .getfield 2387, .iload 2, .iconst 50, .iadd, .iaload, .iastore, .iinc 2 1, .goto 11]),
  (39, none, [.aload 0, .dup, .getfield 2388, .iconst 1, .isub, .putfield 2388, .aload 1, .aload 0, .getfield 2387, .iconst 50, .aload 0, .getfield 2388, .imul, .invokestatic 26032, .aload 0, .dup, .getfield 2388, .iconst 1, .iadd, .putfield 2388, .return_]),
  (49, none, [.aload 1, .aload 0, .getfield 2387, .iconst 50, .aload 0, .getfield 2388, .imul, .invokestatic 26032, .aload 0, .dup, .getfield 2388, .iconst 1, .iadd, .putfield 2388, .return_])]
theorem tk_204 : bl_204.all (fun q => chk 204 q.1 q.2.2) = true := by decide +kernel
theorem py_204 : plainName (mN 204).cls = true := by decide +kernel
theorem ml_204 : mL 204 = 3 := rfl
/-- M.goOver -/
def bl_205 : Tb := [
  (0, none, [.iconst 0, .istore 2, .iconst 1, .istore 3, .goto_w 4]),
  (4, some [0, 1, 2, 3], [.iload 3, .iconst 4, .if_icmp .ge 36, .aload 0, .iload 1, .iload 3, .invokestatic 22448, .aload 0, .iload 1, .iload 2, .invokestatic 22448, .if_icmp .le 28, .iload 3, .goto 29]),
  (28, none, [.iload 2, .istore 2, .iinc 3 1, .goto 4]),
  (29, none, [.istore 2, .iinc 3 1, .goto 4]),
  (36, none, [.aload 0, .iload 1, .iload 2, .invokestatic 22448, .aload 0, .iload 1, .invokestatic 22560, .if_icmp .gt 51, .return_]),
  (51, none, [.aload 0, .iconst 6, .iload 1, .iadd, .iload 2, .iastore, .aload 0, .iconst 49, .iconst 9999, .aload 0, .iconst 49, .iaload, .iconst 1, .iadd, .invokestatic 37024, .iastore, .return_])]
theorem tk_205 : bl_205.all (fun q => chk 205 q.1 q.2.2) = true := by decide +kernel
theorem py_205 : plainName (mN 205).cls = true := by decide +kernel
theorem ml_205 : mL 205 = 4 := rfl
/-- M.winnerOf -/
def bl_206 : Tb := [
  (0, none, [.aload 1, .iconst 6, .iload 2, .iadd, .iaload, .aload 1, .iconst 6, .iload 3, .iadd, .iaload, .if_icmp .ne 18, .iconst (-2), .ireturn]),
  (18, none, [.aload 0, .aload 1, .iload 2, .iload 3, .invokevirtual 25273, .aload 0, .aload 1, .iload 3, .iload 2, .invokevirtual 25273, .invokestatic 36384, .istore 4, .iload 4, .ifCond .ne 47, .iconst (-3), .goto 57]),
  (47, none, [.iload 4, .ifCond .le 56, .iload 2, .goto 57]),
  (56, none, [.iload 3, .ireturn]),
  (57, none, [.ireturn])]
theorem tk_206 : bl_206.all (fun q => chk 206 q.1 q.2.2) = true := by decide +kernel
theorem py_206 : plainName (mN 206).cls = true := by decide +kernel
theorem ml_206 : mL 206 = 5 := rfl
/-- M.goFight -/
def bl_207 : Tb := [
  (0, none, [.aload 0, .aload 1, .iload 2, .iload 3, .invokevirtual 26425, .istore 4, .iload 4, .ifCond .ge 17, .iload 4, .ireturn]),
  (17, none, [.iload 4, .iload 2, .if_icmp .ne 27, .iload 3, .goto 28]),
  (27, none, [.iload 2, .istore 5, .iconst 12, .iconst 4, .iload 4, .imul, .iadd, .istore 6, .aload 0, .getfield 2312, .aload 1, .iload 4, .invokestatic 22560, .invokestatic 37024, .istore 7, .aload 1, .iload 6, .aload 1, .iconst 6, .iload 4, .iadd, .iaload, .iadd, .dup2, .iaload, .iload 7, .isub, .iastore, .aload 1, .iload 6, .aload 1, .iconst 6, .iload 5, .iadd, .iaload, .iadd, .dup2, .iaload, .iload 7, .iadd, .iastore, .aload 1, .iconst 36, .iload 4, .iadd, .iconst 99, .aload 1, .iconst 36, .iload 4, .iadd, .iaload, .iconst 1, .iadd, .invokestatic 37024, .iastore, .aload 1, .iload 5, .iconst 0, .aload 1, .iload 5, .iaload, .iconst 1, .isub, .invokestatic 36896, .iastore, .aload 1, .iconst 42, .iload 5, .iadd, .iconst 99, .aload 1, .iconst 42, .iload 5, .iadd, .iaload, .iconst 1, .iadd, .invokestatic 37024, .iastore, .aload 1, .iload 4, .invokestatic 26272, .aload 1, .iload 5, .invokestatic 26272, .iload 4, .ireturn]),
  (28, none, [.istore 5, .iconst 12, .iconst 4, .iload 4, .imul, .iadd, .istore 6, .aload 0, .getfield 2312, .aload 1, .iload 4, .invokestatic 22560, .invokestatic 37024, .istore 7, .aload 1, .iload 6, .aload 1, .iconst 6, .iload 4, .iadd, .iaload, .iadd, .dup2, .iaload, .iload 7, .isub, .iastore, .aload 1, .iload 6, .aload 1, .iconst 6, .iload 5, .iadd, .iaload, .iadd, .dup2, .iaload, .iload 7, .iadd, .iastore, .aload 1, .iconst 36, .iload 4, .iadd, .iconst 99, .aload 1, .iconst 36, .iload 4, .iadd, .iaload, .iconst 1, .iadd, .invokestatic 37024, .iastore, .aload 1, .iload 5, .iconst 0, .aload 1, .iload 5, .iaload, .iconst 1, .isub, .invokestatic 36896, .iastore, .aload 1, .iconst 42, .iload 5, .iadd, .iconst 99, .aload 1, .iconst 42, .iload 5, .iadd, .iaload, .iconst 1, .iadd, .invokestatic 37024, .iastore, .aload 1, .iload 4, .invokestatic 26272, .aload 1, .iload 5, .invokestatic 26272, .iload 4, .ireturn])]
theorem tk_207 : bl_207.all (fun q => chk 207 q.1 q.2.2) = true := by decide +kernel
theorem py_207 : plainName (mN 207).cls = true := by decide +kernel
theorem ml_207 : mL 207 = 8 := rfl
/-- M.fight -/
def bl_208 : Tb := [
  (0, none, [.aload 0, .iconst 0, .putfield 2336, .aload 0, .iload 1, .iload 2, .invokevirtual 22057, .ifCond .ne 16, .iconst (-1), .ireturn]),
  (16, none, [.aload 0, .aload 0, .getfield 2307, .iload 1, .iload 2, .invokevirtual 26425, .istore 3, .iload 3, .ifCond .ge 33, .iload 3, .ireturn]),
  (33, none, [.aload 0, .aload 0, .getfield 2307, .invokevirtual 26137, .aload 0, .aload 0, .getfield 2307, .iload 1, .iload 2, .invokevirtual 26553, .ireturn])]
theorem tk_208 : bl_208.all (fun q => chk 208 q.1 q.2.2) = true := by decide +kernel
theorem py_208 : plainName (mN 208).cls = true := by decide +kernel
theorem ml_208 : mL 208 = 4 := rfl
/-- M.mend -/
def bl_209 : Tb := [
  (0, none, [.iconst (-1), .istore 3, .iconst 0, .istore 4, .goto_w 5]),
  (5, some [1, 2, 3, 4], [.iload 4, .iconst 4, .if_icmp .ge 65, .iload 4, .aload 1, .iconst 6, .iload 2, .iadd, .iaload, .if_icmp .eq 59, .aload 1, .iload 2, .iload 4, .invokestatic 22448, .ifCond .ne 35, .goto 59]),
  (35, none, [.iload 3, .iconst (-1), .if_icmp .eq 56, .aload 1, .iload 2, .iload 4, .invokestatic 22448, .aload 1, .iload 2, .iload 3, .invokestatic 22448, .if_icmp .ge 59, .iload 4, .istore 3, .iinc 4 1, .goto 5]),
  (56, none, [.iload 4, .istore 3, .iinc 4 1, .goto 5]),
  (59, none, [.iinc 4 1, .goto 5]),
  (65, none, [.iload 3, .iconst (-1), .if_icmp .ne 71, .return_]),
  (71, none, [.aload 1, .iconst 12, .iconst 4, .iload 2, .imul, .iadd, .iload 3, .iadd, .dup2, .iaload, .iconst 1, .isub, .iastore, .aload 1, .iconst 12, .iconst 4, .iload 2, .imul, .iadd, .aload 1, .iconst 6, .iload 2, .iadd, .iaload, .iadd, .dup2, .iaload, .iconst 1, .iadd, .iastore, .return_])]
theorem tk_209 : bl_209.all (fun q => chk 209 q.1 q.2.2) = true := by decide +kernel
theorem py_209 : plainName (mN 209).cls = true := by decide +kernel
theorem ml_209 : mL 209 = 5 := rfl
/-- M.goDay -/
def bl_210 : Tb := [
  (0, none, [.iconst 0, .istore 2, .goto_w 2]),
  (2, some [0, 1, 2], [.iload 2, .aload 0, .getfield 2308, .if_icmp .ge 39, .aload 1, .iload 2, .aload 0, .getfield 2319, .iload 2, .iaload, .aload 1, .iload 2, .iaload, .iconst 1, .iadd, .invokestatic 37024, .iastore, .aload 0, .aload 1, .iload 2, .invokevirtual 26793, .iinc 2 1, .goto 2]),
  (39, none, [.aload 1, .iconst 48, .dup2, .iaload, .iconst 1, .iadd, .iastore, .return_])]
theorem tk_210 : bl_210.all (fun q => chk 210 q.1 q.2.2) = true := by decide +kernel
theorem py_210 : plainName (mN 210).cls = true := by decide +kernel
theorem ml_210 : mL 210 = 3 := rfl
/-- M.goDays -/
def bl_211 : Tb := [
  (0, none, [.iconst 0, .istore 3, .goto_w 2]),
  (2, some [0, 1, 2, 3], [.iload 3, .iload 2, .if_icmp .ge 18, .aload 0, .aload 1, .invokevirtual 26905, .iinc 3 1, .goto 2]),
  (18, none, [.return_])]
theorem tk_211 : bl_211.all (fun q => chk 211 q.1 q.2.2) = true := by decide +kernel
theorem py_211 : plainName (mN 211).cls = true := by decide +kernel
theorem ml_211 : mL 211 = 4 := rfl
/-- M.partsOfAll -/
def bl_212 : Tb := [
  (0, none, [.iconst 0, .istore 3, .iconst 0, .istore 4, .goto_w 5]),
  (5, some [0, 1, 2, 3, 4], [.iload 4, .aload 0, .getfield 2308, .if_icmp .ge 30, .iload 3, .aload 1, .iload 4, .iload 2, .invokestatic 22448, .iadd, .istore 3, .iinc 4 1, .goto 5]),
  (30, none, [.iload 3, .ireturn])]
theorem tk_212 : bl_212.all (fun q => chk 212 q.1 q.2.2) = true := by decide +kernel
theorem py_212 : plainName (mN 212).cls = true := by decide +kernel
theorem ml_212 : mL 212 = 5 := rfl
/-- M.days -/
def bl_213 : Tb := [
  (0, none, [.aload 0, .iconst 0, .putfield 2336, .iload 1, .iconst 0, .iconst 60, .invokestatic 21424, .ifCond .ne 17, .iconst (-1), .ireturn]),
  (17, none, [.iload 1, .ifCond .le 29, .aload 0, .aload 0, .getfield 2307, .invokevirtual 26137, .aload 0, .aload 0, .getfield 2307, .iload 1, .invokevirtual 27049, .aload 0, .iconst 0, .putfield 2332, .iconst 0, .istore 2, .goto_w 45]),
  (29, none, [.aload 0, .aload 0, .getfield 2307, .iload 1, .invokevirtual 27049, .aload 0, .iconst 0, .putfield 2332, .iconst 0, .istore 2, .goto_w 45]),
  (45, some [0, 2], [.iload 2, .iconst 4, .if_icmp .ge 70, .aload 0, .aload 0, .aload 0, .getfield 2307, .iload 2, .invokevirtual 27177, .i2l, .invokevirtual 21785, .iinc 2 1, .goto 45]),
  (70, none, [.aload 0, .aload 0, .getfield 2307, .iconst 0, .invokevirtual 25769, .ireturn])]
theorem tk_213 : bl_213.all (fun q => chk 213 q.1 q.2.2) = true := by decide +kernel
theorem py_213 : plainName (mN 213).cls = true := by decide +kernel
theorem ml_213 : mL 213 = 3 := rfl
/-- M.refusesSewing -/
def bl_214 : Tb := [
  (0, none, [.aload 0, .iload 2, .invokevirtual 21913, .ifCond .eq 26, .iload 3, .invokestatic 22160, .ifCond .eq 26, .iload 4, .iconst 1, .iconst 12, .invokestatic 21424, .ifCond .ne 28, .iconst (-1), .ireturn]),
  (26, none, [.iconst (-1), .ireturn]),
  (28, none, [.aload 1, .iload 2, .invokestatic 22560, .iload 4, .if_icmp .ge 41, .iconst (-2), .ireturn]),
  (41, none, [.aload 1, .iconst 6, .iload 2, .iadd, .iaload, .iload 3, .if_icmp .ne 56, .iconst (-3), .goto 57]),
  (56, none, [.iconst 0, .ireturn]),
  (57, none, [.ireturn])]
theorem tk_214 : bl_214.all (fun q => chk 214 q.1 q.2.2) = true := by decide +kernel
theorem py_214 : plainName (mN 214).cls = true := by decide +kernel
theorem ml_214 : mL 214 = 5 := rfl
/-- M.goSewing -/
def bl_215 : Tb := [
  (0, none, [.aload 0, .iconst 12, .iconst 4, .iload 1, .imul, .iadd, .aload 0, .iconst 6, .iload 1, .iadd, .iaload, .iadd, .dup2, .iaload, .iload 3, .isub, .iastore, .aload 0, .iconst 12, .iconst 4, .iload 1, .imul, .iadd, .iload 2, .iadd, .dup2, .iaload, .iload 3, .iadd, .iastore, .aload 0, .iload 1, .invokestatic 26272, .return_])]
theorem tk_215 : bl_215.all (fun q => chk 215 q.1 q.2.2) = true := by decide +kernel
theorem py_215 : plainName (mN 215).cls = true := by decide +kernel
theorem ml_215 : mL 215 = 4 := rfl
/-- M.sews -/
def bl_216 : Tb := [
  (0, none, [.aload 0, .iconst 0, .putfield 2336, .aload 0, .aload 0, .getfield 2307, .iload 1, .iload 2, .iload 3, .invokevirtual 27465, .istore 4, .iload 4, .ifCond .ge 26, .iload 4, .ireturn]),
  (26, none, [.aload 0, .aload 0, .getfield 2307, .invokevirtual 26137, .aload 0, .getfield 2307, .iload 1, .iload 2, .iload 3, .invokestatic 27584, .aload 0, .getfield 2307, .iconst 6, .iload 1, .iadd, .iaload, .ireturn])]
theorem tk_216 : bl_216.all (fun q => chk 216 q.1 q.2.2) = true := by decide +kernel
theorem py_216 : plainName (mN 216).cls = true := by decide +kernel
theorem ml_216 : mL 216 = 5 := rfl
/-- M.refusesYielding -/
def bl_217 : Tb := [
  (0, none, [.aload 0, .iload 1, .invokevirtual 21913, .ifCond .eq 15, .iload 2, .invokestatic 22160, .ifCond .ne 17, .iconst (-1), .ireturn]),
  (15, none, [.iconst (-1), .ireturn]),
  (17, none, [.aload 0, .getfield 2307, .iload 1, .iload 2, .invokestatic 22448, .iconst 12, .if_icmp .ne 36, .iconst (-2), .goto 37]),
  (36, none, [.iconst 0, .ireturn]),
  (37, none, [.ireturn])]
theorem tk_217 : bl_217.all (fun q => chk 217 q.1 q.2.2) = true := by decide +kernel
theorem py_217 : plainName (mN 217).cls = true := by decide +kernel
theorem ml_217 : mL 217 = 3 := rfl
/-- M.goYielding -/
def bl_218 : Tb := [
  (0, none, [.iconst 0, .istore 3, .goto_w 2]),
  (2, some [0, 1, 2, 3], [.iload 3, .iconst 4, .if_icmp .ge 37, .aload 0, .getfield 2307, .iconst 12, .iconst 4, .iload 1, .imul, .iadd, .iload 3, .iadd, .iload 3, .iload 2, .if_icmp .ne 29, .iconst 12, .goto 30]),
  (29, none, [.iconst 0, .iastore, .iinc 3 1, .goto 2]),
  (30, none, [.iastore, .iinc 3 1, .goto 2]),
  (37, none, [.aload 0, .getfield 2307, .iconst 6, .iload 1, .iadd, .iload 2, .iastore, .return_])]
theorem tk_218 : bl_218.all (fun q => chk 218 q.1 q.2.2) = true := by decide +kernel
theorem py_218 : plainName (mN 218).cls = true := by decide +kernel
theorem ml_218 : mL 218 = 4 := rfl
/-- M.yields -/
def bl_219 : Tb := [
  (0, none, [.aload 0, .iconst 0, .putfield 2336, .aload 0, .iload 1, .iload 2, .invokevirtual 27817, .istore 3, .iload 3, .ifCond .ge 18, .iload 3, .ireturn]),
  (18, none, [.aload 0, .aload 0, .getfield 2307, .invokevirtual 26137, .iconst 12, .aload 0, .getfield 2307, .iload 1, .iload 2, .invokestatic 22448, .isub, .istore 4, .aload 0, .iload 1, .iload 2, .invokevirtual 27945, .iload 4, .ireturn])]
theorem tk_219 : bl_219.all (fun q => chk 219 q.1 q.2.2) = true := by decide +kernel
theorem py_219 : plainName (mN 219).cls = true := by decide +kernel
theorem ml_219 : mL 219 = 5 := rfl
/-- M.war -/
def bl_220 : Tb := [
  (0, none, [.aload 0, .iconst 0, .putfield 2336, .aload 0, .iconst 60, .invokevirtual 23065, .iconst 0, .istore 1, .goto_w 13]),
  (13, some [0, 1], [.aload 0, .invokevirtual 23305, .ifCond .eq 44, .aload 0, .getfield 2352, .aload 0, .getfield 2344, .if_icmp .ge 44, .aload 0, .iconst 4, .iload 1, .imul, .invokevirtual 28313, .iinc 1 1, .goto 13]),
  (44, none, [.aload 0, .invokevirtual 24073, .ifCond .ne 58, .iconst (-1), .aload 0, .getfield 2356, .isub, .ireturn]),
  (58, none, [.aload 0, .getfield 2307, .aload 0, .getfield 2395, .iconst 0, .invokestatic 26032, .iconst 0, .istore 2, .goto_w 72]),
  (72, some [0, 1, 2], [.iload 2, .iload 1, .if_icmp .ge 93, .aload 0, .iconst 4, .iload 2, .imul, .invokevirtual 28441, .ifCond .eq 93, .iinc 2 1, .goto 72]),
  (93, none, [.iload 2, .ifCond .le 105, .aload 0, .aload 0, .getfield 2395, .invokevirtual 26137, .aload 0, .iconst 0, .putfield 2332, .aload 0, .iload 2, .iload 1, .if_icmp .ge 120, .ldc2_w 1, .goto 121]),
  (105, none, [.aload 0, .iconst 0, .putfield 2332, .aload 0, .iload 2, .iload 1, .if_icmp .ge 120, .ldc2_w 1, .goto 121]),
  (120, none, [.ldc2_w 0, .invokevirtual 21785, .aload 0, .aload 0, .getfield 2307, .iconst 49, .iaload, .i2l, .invokevirtual 21785, .iload 2, .ireturn]),
  (121, none, [.invokevirtual 21785, .aload 0, .aload 0, .getfield 2307, .iconst 49, .iaload, .i2l, .invokevirtual 21785, .iload 2, .ireturn])]
theorem tk_220 : bl_220.all (fun q => chk 220 q.1 q.2.2) = true := by decide +kernel
theorem py_220 : plainName (mN 220).cls = true := by decide +kernel
theorem ml_220 : mL 220 = 3 := rfl
/-- M.readAct -/
def bl_221 : Tb := [
  (0, none, [.aload 0, .invokevirtual 23177, .istore 2, .iload 2, .iconst 102, .if_icmp .eq 38, .iload 2, .iconst 110, .if_icmp .eq 38, .iload 2, .iconst 115, .if_icmp .eq 38, .iload 2, .iconst 121, .if_icmp .eq 38, .aload 0, .aload 0, .getfield 2352, .invokevirtual 23449, .return_]),
  (38, none, [.aload 0, .dup, .getfield 2352, .iconst 1, .iadd, .putfield 2352, .aload 0, .getfield 2403, .iload 1, .iload 2, .iastore, .aload 0, .getfield 2403, .iload 1, .iconst 1, .iadd, .aload 0, .iconst 48, .iconst 10, .invokevirtual 23849, .iastore, .iload 2, .iconst 102, .if_icmp .ne 93, .aload 0, .getfield 2403, .iload 1, .iconst 2, .iadd, .aload 0, .iconst 48, .iconst 10, .invokevirtual 23849, .iastore, .iload 2, .iconst 115, .if_icmp .eq 105, .iload 2, .iconst 121, .if_icmp .ne 120, .aload 0, .getfield 2403, .iload 1, .iconst 2, .iadd, .aload 0, .iconst 97, .iconst 4, .invokevirtual 23849, .iastore, .iload 2, .iconst 115, .if_icmp .ne 144, .aload 0, .getfield 2403, .iload 1, .iconst 3, .iadd, .aload 0, .iconst 49, .iconst 9, .invokevirtual 23849, .iconst 1, .iadd, .iastore, .return_]),
  (93, none, [.iload 2, .iconst 115, .if_icmp .eq 105, .iload 2, .iconst 121, .if_icmp .ne 120, .aload 0, .getfield 2403, .iload 1, .iconst 2, .iadd, .aload 0, .iconst 97, .iconst 4, .invokevirtual 23849, .iastore, .iload 2, .iconst 115, .if_icmp .ne 144, .aload 0, .getfield 2403, .iload 1, .iconst 3, .iadd, .aload 0, .iconst 49, .iconst 9, .invokevirtual 23849, .iconst 1, .iadd, .iastore, .return_]),
  (105, none, [.aload 0, .getfield 2403, .iload 1, .iconst 2, .iadd, .aload 0, .iconst 97, .iconst 4, .invokevirtual 23849, .iastore, .iload 2, .iconst 115, .if_icmp .ne 144, .aload 0, .getfield 2403, .iload 1, .iconst 3, .iadd, .aload 0, .iconst 49, .iconst 9, .invokevirtual 23849, .iconst 1, .iadd, .iastore, .return_]),
  (120, none, [.iload 2, .iconst 115, .if_icmp .ne 144, .aload 0, .getfield 2403, .iload 1, .iconst 3, .iadd, .aload 0, .iconst 49, .iconst 9, .invokevirtual 23849, .iconst 1, .iadd, .iastore, .return_]),
  (144, none, [.return_])]
theorem tk_221 : bl_221.all (fun q => chk 221 q.1 q.2.2) = true := by decide +kernel
theorem py_221 : plainName (mN 221).cls = true := by decide +kernel
theorem ml_221 : mL 221 = 3 := rfl
/-- M.act -/
def bl_222 : Tb := [
  (0, none, [.aload 0, .getfield 2403, .iload 1, .iconst 1, .iadd, .iaload, .istore 2, .aload 0, .getfield 2403, .iload 1, .iconst 2, .iadd, .iaload, .istore 3, .aload 0, .getfield 2403, .iload 1, .iaload, .lookupswitch 143 #[(102, 60), (110, 90), (115, 101)]]),
  (60, none, [.aload 0, .iload 2, .iload 3, .invokevirtual 22057, .ifCond .eq 88, .aload 0, .aload 0, .getfield 2307, .iload 2, .iload 3, .invokevirtual 26553, .iconst (-2), .if_icmp .eq 88, .iconst 1, .goto 89]),
  (88, none, [.iconst 0, .freturn]),
  (89, none, [.freturn]),
  (90, none, [.aload 0, .aload 0, .getfield 2307, .iload 2, .invokevirtual 27049, .iconst 1, .freturn]),
  (101, none, [.aload 0, .aload 0, .getfield 2307, .iload 2, .iload 3, .aload 0, .getfield 2403, .iload 1, .iconst 3, .iadd, .iaload, .invokevirtual 27465, .ifCond .ge 124, .iconst 0, .freturn]),
  (124, none, [.aload 0, .getfield 2307, .iload 2, .iload 3, .aload 0, .getfield 2403, .iload 1, .iconst 3, .iadd, .iaload, .invokestatic 27584, .iconst 1, .freturn]),
  (143, none, [.aload 0, .iload 2, .iload 3, .invokevirtual 27817, .ifCond .ge 154, .iconst 0, .freturn]),
  (154, none, [.aload 0, .iload 2, .iload 3, .invokevirtual 27945, .iconst 1, .freturn])]
theorem tk_222 : bl_222.all (fun q => chk 222 q.1 q.2.2) = true := by decide +kernel
theorem py_222 : plainName (mN 222).cls = true := by decide +kernel
theorem ml_222 : mL 222 = 4 := rfl
/-- M.undo -/
def bl_223 : Tb := [
  (0, none, [.aload 0, .iconst 0, .putfield 2336, .aload 0, .getfield 2388, .ifCond .ne 14, .iconst (-1), .ireturn]),
  (14, none, [.aload 0, .dup, .getfield 2388, .iconst 1, .isub, .putfield 2388, .iconst 0, .istore 1, .goto_w 26]),
  (26, some [0, 1], [.iload 1, .iconst 50, .if_icmp .ge 58, .aload 0, .getfield 2307, .iload 1, .aload 0, .getfield 2387, .iconst 50, .aload 0, .getfield 2388, .imul, .iload 1, .iadd, .iaload, .iastore, .iinc 1 1, .goto 26]),
  (58, none, [.aload 0, .getfield 2388, .ireturn])]
theorem tk_223 : bl_223.all (fun q => chk 223 q.1 q.2.2) = true := by decide +kernel
theorem py_223 : plainName (mN 223).cls = true := by decide +kernel
theorem ml_223 : mL 223 = 2 := rfl
/-- M.fleet -/
def bl_224 : Tb := [
  (0, none, [.aload 0, .iconst 0, .putfield 2336, .iload 1, .invokestatic 22160, .ifCond .ne 14, .iconst (-1), .ireturn]),
  (14, none, [.iconst 0, .istore 2, .iconst 0, .istore 3, .iconst 0, .istore 4, .goto_w 21]),
  (21, some [0, 1, 2, 3, 4], [.iload 4, .aload 0, .getfield 2308, .if_icmp .ge 70, .aload 0, .getfield 2307, .iconst 6, .iload 4, .iadd, .iaload, .iload 1, .if_icmp .eq 47, .goto 64]),
  (47, none, [.iload 2, .iconst 1, .iload 4, .ishl, .ior, .istore 2, .iload 3, .aload 0, .getfield 2307, .iload 4, .iaload, .iadd, .istore 3, .iinc 4 1, .goto 21]),
  (64, none, [.iinc 4 1, .goto 21]),
  (70, none, [.aload 0, .iconst 0, .putfield 2332, .aload 0, .iload 3, .i2l, .invokevirtual 21785, .aload 0, .aload 0, .aload 0, .getfield 2307, .iload 1, .invokevirtual 27177, .i2l, .invokevirtual 21785, .iload 2, .ireturn])]
theorem tk_224 : bl_224.all (fun q => chk 224 q.1 q.2.2) = true := by decide +kernel
theorem py_224 : plainName (mN 224).cls = true := by decide +kernel
theorem ml_224 : mL 224 = 5 := rfl
/-- M.common -/
def bl_225 : Tb := [
  (0, none, [.lload 2, .ldc2_w 0, .lcmp, .ifCond .ne 10, .lload 0, .goto 17]),
  (10, none, [.lload 2, .lload 0, .lload 2, .lrem, .invokestatic 28832, .lreturn]),
  (17, none, [.lreturn])]
theorem tk_225 : bl_225.all (fun q => chk 225 q.1 q.2.2) = true := by decide +kernel
theorem py_225 : plainName (mN 225).cls = true := by decide +kernel
theorem ml_225 : mL 225 = 4 := rfl
/-- M.tellPart -/
def bl_226 : Tb := [
  (0, none, [.lload 1, .lload 3, .invokestatic 28832, .lstore 5, .aload 0, .iconst 0, .putfield 2332, .aload 0, .lload 1, .lload 5, .ldiv, .invokevirtual 21785, .aload 0, .lload 3, .lload 5, .ldiv, .invokevirtual 21785, .return_])]
theorem tk_226 : bl_226.all (fun q => chk 226 q.1 q.2.2) = true := by decide +kernel
theorem py_226 : plainName (mN 226).cls = true := by decide +kernel
theorem ml_226 : mL 226 = 7 := rfl
/-- M.share -/
def bl_227 : Tb := [
  (0, none, [.aload 0, .iconst 0, .putfield 2336, .iload 1, .invokestatic 22160, .ifCond .eq 19, .aload 0, .getfield 2308, .ifCond .ne 21, .iconst (-1), .ireturn]),
  (19, none, [.iconst (-1), .ireturn]),
  (21, none, [.aload 0, .aload 0, .aload 0, .getfield 2307, .iload 1, .invokevirtual 27177, .i2l, .iconst 12, .aload 0, .getfield 2308, .imul, .i2l, .invokevirtual 28969, .iconst 0, .ireturn])]
theorem tk_227 : bl_227.all (fun q => chk 227 q.1 q.2.2) = true := by decide +kernel
theorem py_227 : plainName (mN 227).cls = true := by decide +kernel
theorem ml_227 : mL 227 = 2 := rfl
/-- M.later -/
def bl_228 : Tb := [
  (0, none, [.aload 0, .iconst 0, .putfield 2336, .aload 0, .iload 1, .invokevirtual 21913, .ifCond .eq 23, .iload 2, .iconst 0, .iconst 99, .invokestatic 21424, .ifCond .ne 25, .iconst (-1), .ireturn]),
  (23, none, [.iconst (-1), .ireturn]),
  (25, none, [.aload 0, .getfield 2307, .aload 0, .getfield 2399, .iconst 0, .invokestatic 26032, .aload 0, .aload 0, .getfield 2399, .iload 2, .invokevirtual 27049, .aload 0, .iconst 0, .putfield 2332, .iconst 0, .istore 3, .goto_w 53]),
  (53, some [0, 1, 3], [.iload 3, .iconst 4, .if_icmp .ge 78, .aload 0, .aload 0, .getfield 2399, .iload 1, .iload 3, .invokestatic 22448, .i2l, .invokevirtual 21785, .iinc 3 1, .goto 53]),
  (78, none, [.aload 0, .getfield 2399, .iconst 6, .iload 1, .iadd, .iaload, .ireturn])]
theorem tk_228 : bl_228.all (fun q => chk 228 q.1 q.2.2) = true := by decide +kernel
theorem py_228 : plainName (mN 228).cls = true := by decide +kernel
theorem ml_228 : mL 228 = 4 := rfl
/-- M.wholeOf -/
def bl_229 : Tb := [
  (0, none, [.iconst 0, .istore 2, .goto_w 2]),
  (2, some [0, 1, 2], [.iload 2, .iconst 4, .if_icmp .ge 26, .aload 0, .iload 1, .iload 2, .invokestatic 22448, .iconst 12, .if_icmp .ne 20, .iload 2, .ireturn]),
  (20, none, [.iinc 2 1, .goto 2]),
  (26, none, [.iconst (-1), .ireturn])]
theorem tk_229 : bl_229.all (fun q => chk 229 q.1 q.2.2) = true := by decide +kernel
theorem py_229 : plainName (mN 229).cls = true := by decide +kernel
theorem ml_229 : mL 229 = 3 := rfl
/-- M.whole -/
def bl_230 : Tb := [
  (0, none, [.aload 0, .iconst 0, .putfield 2336, .aload 0, .iload 1, .invokevirtual 21913, .ifCond .ne 15, .iconst (-1), .ireturn]),
  (15, none, [.aload 0, .getfield 2307, .aload 0, .getfield 2399, .iconst 0, .invokestatic 26032, .iconst 0, .istore 2, .goto_w 29]),
  (29, some [0, 1, 2], [.aload 0, .getfield 2399, .iload 1, .invokestatic 29344, .iconst (-1), .if_icmp .ne 55, .aload 0, .aload 0, .getfield 2399, .invokevirtual 26905, .iinc 2 1, .goto 29]),
  (55, none, [.aload 0, .iconst 0, .putfield 2332, .aload 0, .aload 0, .getfield 2399, .iload 1, .invokestatic 29344, .i2l, .invokevirtual 21785, .iload 2, .ireturn])]
theorem tk_230 : bl_230.all (fun q => chk 230 q.1 q.2.2) = true := by decide +kernel
theorem py_230 : plainName (mN 230).cls = true := by decide +kernel
theorem ml_230 : mL 230 = 3 := rfl
/-- M.sisters -/
def bl_231 : Tb := [
  (0, none, [.aload 0, .iconst 0, .putfield 2336, .iconst 1000000, .istore 1, .iconst (-1), .istore 2, .iconst (-1), .istore 3, .iconst 0, .istore 4, .goto_w 16]),
  (16, some [0, 1, 2, 3, 4], [.iload 4, .aload 0, .getfield 2308, .if_icmp .ge 119, .iload 4, .iconst 1, .iadd, .istore 5, .goto_w 31]),
  (31, some [0, 1, 2, 3, 4, 5], [.iload 5, .aload 0, .getfield 2308, .if_icmp .ge 113, .iconst 0, .istore 6, .iconst 0, .istore 7, .goto_w 46]),
  (46, some [0, 1, 2, 3, 4, 5, 6, 7], [.iload 7, .iconst 4, .if_icmp .ge 89, .iload 6, .aload 0, .getfield 2307, .iload 4, .iload 7, .invokestatic 22448, .aload 0, .getfield 2307, .iload 5, .iload 7, .invokestatic 22448, .isub, .invokestatic 36752, .iadd, .istore 6, .iinc 7 1, .goto 46]),
  (89, none, [.iload 6, .iload 1, .if_icmp .lt 98, .goto 107]),
  (98, none, [.iload 6, .istore 1, .iload 4, .istore 2, .iload 5, .istore 3, .iinc 5 1, .goto 31]),
  (107, none, [.iinc 5 1, .goto 31]),
  (113, none, [.iinc 4 1, .goto 16]),
  (119, none, [.iload 1, .iconst 1000000, .if_icmp .ne 129, .iconst (-2), .ireturn]),
  (129, none, [.aload 0, .iconst 0, .putfield 2332, .aload 0, .iload 2, .i2l, .invokevirtual 21785, .aload 0, .iload 3, .i2l, .invokevirtual 21785, .iload 1, .ireturn])]
theorem tk_231 : bl_231.all (fun q => chk 231 q.1 q.2.2) = true := by decide +kernel
theorem py_231 : plainName (mN 231).cls = true := by decide +kernel
theorem ml_231 : mL 231 = 8 := rfl
/-- M.motley -/
def bl_232 : Tb := [
  (0, none, [.aload 0, .iconst 0, .putfield 2336, .aload 0, .getfield 2308, .ifCond .ne 15, .iconst (-2), .ireturn]),
  (15, none, [.iconst 0, .istore 1, .iconst 1, .istore 2, .goto_w 19]),
  (19, some [0, 1, 2], [.iload 2, .aload 0, .getfield 2308, .if_icmp .ge 58, .aload 0, .getfield 2307, .iload 2, .invokestatic 22560, .aload 0, .getfield 2307, .iload 1, .invokestatic 22560, .if_icmp .ge 50, .iload 2, .goto 51]),
  (50, none, [.iload 1, .istore 1, .iinc 2 1, .goto 19]),
  (51, none, [.istore 1, .iinc 2 1, .goto 19]),
  (58, none, [.iconst 0, .istore 2, .iconst 0, .istore 3, .goto_w 62]),
  (62, some [0, 1, 2, 3], [.iload 3, .iconst 4, .if_icmp .ge 106, .iload 2, .iload 3, .aload 0, .getfield 2307, .iconst 6, .iload 1, .iadd, .iaload, .if_icmp .eq 97, .aload 0, .getfield 2307, .iload 1, .iload 3, .invokestatic 22448, .ifCond .le 97, .iconst 1, .goto 98]),
  (97, none, [.iconst 0, .iadd, .istore 2, .iinc 3 1, .goto 62]),
  (98, none, [.iadd, .istore 2, .iinc 3 1, .goto 62]),
  (106, none, [.aload 0, .iconst 0, .putfield 2332, .aload 0, .iconst 12, .aload 0, .getfield 2307, .iload 1, .invokestatic 22560, .isub, .i2l, .invokevirtual 21785, .aload 0, .iload 2, .i2l, .invokevirtual 21785, .iload 1, .ireturn])]
theorem tk_232 : bl_232.all (fun q => chk 232 q.1 q.2.2) = true := by decide +kernel
theorem py_232 : plainName (mN 232).cls = true := by decide +kernel
theorem ml_232 : mL 232 = 4 := rfl
/-- M.order -/
def bl_233 : Tb := [
  (0, none, [.aload 0, .iconst 0, .putfield 2336, .iload 1, .invokestatic 22160, .ifCond .ne 14, .iconst (-1), .ireturn]),
  (14, none, [.iconst 0, .istore 2, .aload 0, .iconst 0, .putfield 2332, .iconst 12, .istore 3, .goto_w 24]),
  (24, some [0, 1, 2, 3], [.iload 3, .ifCond .lt 88, .iconst 0, .istore 4, .goto_w 31]),
  (31, some [0, 1, 2, 3, 4], [.iload 4, .aload 0, .getfield 2308, .if_icmp .ge 82, .aload 0, .getfield 2307, .iload 4, .iload 1, .invokestatic 22448, .iload 3, .if_icmp .eq 57, .goto 76]),
  (57, none, [.aload 0, .iload 4, .i2l, .invokevirtual 21785, .iload 2, .iload 3, .ifCond .le 73, .iconst 1, .goto 74]),
  (73, none, [.iconst 0, .iadd, .istore 2, .iinc 4 1, .goto 31]),
  (74, none, [.iadd, .istore 2, .iinc 4 1, .goto 31]),
  (76, none, [.iinc 4 1, .goto 31]),
  (82, none, [.iinc 3 (-1), .goto 24]),
  (88, none, [.iload 2, .ireturn])]
theorem tk_233 : bl_233.all (fun q => chk 233 q.1 q.2.2) = true := by decide +kernel
theorem py_233 : plainName (mN 233).cls = true := by decide +kernel
theorem ml_233 : mL 233 = 5 := rfl
/-- M.rivals -/
def bl_234 : Tb := [
  (0, none, [.aload 0, .iconst 0, .putfield 2336, .aload 0, .iload 1, .invokevirtual 21913, .ifCond .ne 15, .iconst (-1), .ireturn]),
  (15, none, [.iconst 0, .istore 2, .iconst 0, .istore 3, .iconst 0, .istore 4, .iconst 0, .istore 5, .goto_w 25]),
  (25, some [0, 1, 2, 3, 4, 5], [.iload 5, .aload 0, .getfield 2308, .if_icmp .ge 119, .iload 5, .iload 1, .if_icmp .ne 45, .iconst (-2), .goto 56]),
  (45, none, [.aload 0, .aload 0, .getfield 2307, .iload 1, .iload 5, .invokevirtual 26425, .istore 6, .iload 2, .iload 6, .iload 1, .if_icmp .ne 72, .iconst 1, .iload 5, .ishl, .goto 73]),
  (56, none, [.istore 6, .iload 2, .iload 6, .iload 1, .if_icmp .ne 72, .iconst 1, .iload 5, .ishl, .goto 73]),
  (72, none, [.iconst 0, .ior, .istore 2, .iload 3, .iload 6, .iload 5, .if_icmp .ne 90, .iconst 1, .iload 5, .ishl, .goto 91]),
  (73, none, [.ior, .istore 2, .iload 3, .iload 6, .iload 5, .if_icmp .ne 90, .iconst 1, .iload 5, .ishl, .goto 91]),
  (90, none, [.iconst 0, .ior, .istore 3, .iload 4, .iload 6, .iconst (-3), .if_icmp .ne 109, .iconst 1, .iload 5, .ishl, .goto 110]),
  (91, none, [.ior, .istore 3, .iload 4, .iload 6, .iconst (-3), .if_icmp .ne 109, .iconst 1, .iload 5, .ishl, .goto 110]),
  (109, none, [.iconst 0, .ior, .istore 4, .iinc 5 1, .goto 25]),
  (110, none, [.ior, .istore 4, .iinc 5 1, .goto 25]),
  (119, none, [.aload 0, .iconst 0, .putfield 2332, .aload 0, .iload 3, .i2l, .invokevirtual 21785, .aload 0, .iload 4, .i2l, .invokevirtual 21785, .iload 2, .ireturn])]
theorem tk_234 : bl_234.all (fun q => chk 234 q.1 q.2.2) = true := by decide +kernel
theorem py_234 : plainName (mN 234).cls = true := by decide +kernel
theorem ml_234 : mL 234 = 7 := rfl
/-- M.duel -/
def bl_235 : Tb := [
  (0, none, [.aload 0, .iconst 0, .putfield 2336, .aload 0, .iload 1, .iload 2, .invokevirtual 22057, .ifCond .eq 24, .iload 3, .iconst 1, .iconst 20, .invokestatic 21424, .ifCond .ne 26, .iconst (-1), .ireturn]),
  (24, none, [.iconst (-1), .ireturn]),
  (26, none, [.aload 0, .getfield 2307, .aload 0, .getfield 2399, .iconst 0, .invokestatic 26032, .iconst 0, .istore 4, .iconst 0, .istore 5, .iconst 1, .istore 6, .goto_w 47]),
  (47, some [0, 1, 2, 3, 4, 5, 6], [.iload 6, .ifCond .eq 120, .iload 4, .iload 3, .if_icmp .ge 120, .aload 0, .aload 0, .getfield 2399, .iload 1, .iload 2, .invokevirtual 26553, .istore 7, .iload 7, .ifCond .lt 79, .iconst 1, .goto 80]),
  (79, none, [.iconst 0, .istore 6, .iload 6, .ifCond .ne 90, .goto 47]),
  (80, none, [.istore 6, .iload 6, .ifCond .ne 90, .goto 47]),
  (90, none, [.iinc 4 1, .iload 5, .iload 7, .iload 1, .if_icmp .ne 105, .iconst 1, .goto 106]),
  (105, none, [.iconst 0, .iadd, .istore 5, .aload 0, .aload 0, .getfield 2399, .invokevirtual 26905, .goto 47]),
  (106, none, [.iadd, .istore 5, .aload 0, .aload 0, .getfield 2399, .invokevirtual 26905, .goto 47]),
  (120, none, [.aload 0, .iconst 0, .putfield 2332, .aload 0, .iload 5, .i2l, .invokevirtual 21785, .aload 0, .aload 0, .getfield 2399, .iconst 6, .iload 1, .iadd, .iaload, .i2l, .invokevirtual 21785, .aload 0, .aload 0, .getfield 2399, .iconst 6, .iload 2, .iadd, .iaload, .i2l, .invokevirtual 21785, .iload 4, .ireturn])]
theorem tk_235 : bl_235.all (fun q => chk 235 q.1 q.2.2) = true := by decide +kernel
theorem py_235 : plainName (mN 235).cls = true := by decide +kernel
theorem ml_235 : mL 235 = 8 := rfl
/-- M.tempts -/
def bl_236 : Tb := [
  (0, none, [.aload 0, .iconst 0, .putfield 2336, .iload 1, .invokestatic 22160, .ifCond .ne 14, .iconst (-1), .ireturn]),
  (14, none, [.iconst 1000000, .istore 2, .iconst (-1), .istore 3, .iconst 0, .istore 4, .goto_w 23]),
  (23, some [0, 1, 2, 3, 4], [.iload 4, .aload 0, .getfield 2308, .if_icmp .ge 116, .iconst 1, .istore 5, .goto_w 35]),
  (35, some [0, 1, 2, 3, 4, 5], [.iload 5, .iload 2, .if_icmp .ge 110, .aload 0, .aload 0, .getfield 2307, .iload 4, .iload 1, .iload 5, .invokevirtual 27465, .ifCond .ne 110, .aload 0, .getfield 2307, .aload 0, .getfield 2399, .iconst 0, .invokestatic 26032, .aload 0, .getfield 2399, .iload 4, .iload 1, .iload 5, .invokestatic 27584, .aload 0, .getfield 2399, .iconst 6, .iload 4, .iadd, .iaload, .iload 1, .if_icmp .eq 98, .goto 104]),
  (98, none, [.iload 5, .istore 2, .iload 4, .istore 3, .iinc 5 1, .goto 35]),
  (104, none, [.iinc 5 1, .goto 35]),
  (110, none, [.iinc 4 1, .goto 23]),
  (116, none, [.iload 3, .iconst (-1), .if_icmp .ne 124, .iconst (-2), .ireturn]),
  (124, none, [.aload 0, .iconst 0, .putfield 2332, .aload 0, .iload 3, .i2l, .invokevirtual 21785, .iload 2, .ireturn])]
theorem tk_236 : bl_236.all (fun q => chk 236 q.1 q.2.2) = true := by decide +kernel
theorem py_236 : plainName (mN 236).cls = true := by decide +kernel
theorem ml_236 : mL 236 = 6 := rfl
/-- M.wins -/
def bl_237 : Tb := [
  (0, none, [.aload 0, .iconst 0, .putfield 2336, .aload 0, .iload 1, .iload 2, .invokevirtual 22057, .ifCond .ne 16, .iconst (-1), .ireturn]),
  (16, none, [.aload 0, .getfield 2307, .aload 0, .getfield 2399, .iconst 0, .invokestatic 26032, .aload 0, .aload 0, .getfield 2399, .iload 1, .iload 2, .invokevirtual 26553, .istore 3, .iload 3, .ifCond .ge 45, .iload 3, .ireturn]),
  (45, none, [.aload 0, .iconst 0, .putfield 2332, .aload 0, .aload 0, .getfield 2399, .iconst 6, .iload 1, .iadd, .iaload, .i2l, .invokevirtual 21785, .aload 0, .aload 0, .getfield 2399, .iconst 6, .iload 2, .iadd, .iaload, .i2l, .invokevirtual 21785, .iload 3, .ireturn])]
theorem tk_237 : bl_237.all (fun q => chk 237 q.1 q.2.2) = true := by decide +kernel
theorem py_237 : plainName (mN 237).cls = true := by decide +kernel
theorem ml_237 : mL 237 = 4 := rfl
/-- M.suits -/
def bl_238 : Tb := [
  (0, none, [.aload 0, .iconst 0, .putfield 2336, .aload 0, .iload 1, .invokevirtual 21913, .ifCond .eq 20, .iload 2, .invokestatic 22160, .ifCond .ne 22, .iconst (-1), .ireturn]),
  (20, none, [.iconst (-1), .ireturn]),
  (22, none, [.iconst (-2), .istore 3, .iconst (-1), .istore 4, .iconst 0, .istore 5, .goto_w 31]),
  (31, some [0, 1, 2, 3, 4, 5], [.iload 5, .aload 0, .getfield 2308, .if_icmp .ge 109, .aload 0, .getfield 2307, .aload 0, .getfield 2399, .iconst 0, .invokestatic 26032, .iload 5, .iload 1, .if_icmp .eq 103, .aload 0, .aload 0, .getfield 2399, .iload 1, .iload 5, .invokevirtual 26553, .ifCond .lt 103, .aload 0, .getfield 2399, .iload 1, .iload 2, .invokestatic 22448, .iload 4, .if_icmp .gt 89, .goto 103]),
  (89, none, [.iload 5, .istore 3, .aload 0, .getfield 2399, .iload 1, .iload 2, .invokestatic 22448, .istore 4, .iinc 5 1, .goto 31]),
  (103, none, [.iinc 5 1, .goto 31]),
  (109, none, [.iload 3, .iconst (-2), .if_icmp .ne 118, .iconst (-2), .ireturn]),
  (118, none, [.aload 0, .iconst 0, .putfield 2332, .aload 0, .iload 4, .i2l, .invokevirtual 21785, .iload 3, .ireturn])]
theorem tk_238 : bl_238.all (fun q => chk 238 q.1 q.2.2) = true := by decide +kernel
theorem py_238 : plainName (mN 238).cls = true := by decide +kernel
theorem ml_238 : mL 238 = 6 := rfl
/-- M.layDeep -/
def bl_239 : Tb := [
  (0, none, [.iconst 0, .istore 2, .goto_w 2]),
  (2, some [0, 1, 2], [.iload 2, .iconst 50, .if_icmp .ge 31, .aload 0, .getfield 2415, .iload 2, .aload 0, .getfield 2407, .iconst 50, .iload 1, .imul, .iload 2, .iadd, .iaload, .iastore, .iinc 2 1, .goto 2]),
  (31, none, [.return_])]
theorem tk_239 : bl_239.all (fun q => chk 239 q.1 q.2.2) = true := by decide +kernel
theorem py_239 : plainName (mN 239).cls = true := by decide +kernel
theorem ml_239 : mL 239 = 3 := rfl
/-- M.isSo -/
def bl_240 : Tb := [
  (0, none, [.iload 1, .iconst (-1), .if_icmp .eq 24, .aload 0, .getfield 2415, .iconst 6, .iload 1, .iadd, .iaload, .iload 2, .if_icmp .ne 22, .iconst 1, .goto 23]),
  (22, none, [.iconst 0, .freturn]),
  (23, none, [.freturn]),
  (24, none, [.iconst 1, .istore 3, .goto_w 26]),
  (26, some [0, 3], [.iload 3, .aload 0, .getfield 2308, .if_icmp .ge 61, .aload 0, .getfield 2415, .iconst 6, .iload 3, .iadd, .iaload, .aload 0, .getfield 2415, .iconst 6, .iaload, .if_icmp .eq 55, .iconst 0, .freturn]),
  (55, none, [.iinc 3 1, .goto 26]),
  (61, none, [.iconst 1, .freturn])]
theorem tk_240 : bl_240.all (fun q => chk 240 q.1 q.2.2) = true := by decide +kernel
theorem py_240 : plainName (mN 240).cls = true := by decide +kernel
theorem ml_240 : mL 240 = 4 := rfl
/-- M.canBe -/
def bl_241 : Tb := [
  (0, none, [.aload 0, .iload 1, .invokevirtual 30617, .iload 1, .iload 2, .if_icmp .ne 18, .aload 0, .iload 3, .iload 4, .invokevirtual 30761, .freturn]),
  (18, none, [.iconst 0, .istore 5, .goto_w 21]),
  (21, some [0, 1, 2, 3, 4, 5], [.iload 5, .aload 0, .getfield 2308, .if_icmp .ge 135, .iload 5, .iconst 1, .iadd, .istore 6, .goto_w 36]),
  (36, some [0, 1, 2, 3, 4, 5, 6], [.iload 6, .aload 0, .getfield 2308, .if_icmp .ge 129, .aload 0, .iload 1, .invokevirtual 30617, .aload 0, .aload 0, .getfield 2415, .iload 5, .iload 6, .invokevirtual 26553, .ifCond .ge 68, .goto 123]),
  (68, none, [.aload 0, .getfield 2415, .aload 0, .getfield 2407, .iconst 50, .iload 1, .iconst 1, .iadd, .imul, .invokestatic 26032, .aload 0, .getfield 2411, .iconst 2, .iload 1, .imul, .iload 5, .iastore, .aload 0, .getfield 2411, .iconst 2, .iload 1, .imul, .iconst 1, .iadd, .iload 6, .iastore, .aload 0, .iload 1, .iconst 1, .iadd, .iload 2, .iload 3, .iload 4, .invokevirtual 30921, .ifCond .eq 123, .iconst 1, .freturn]),
  (123, none, [.iinc 6 1, .goto 36]),
  (129, none, [.iinc 5 1, .goto 21]),
  (135, none, [.iconst 0, .freturn])]
theorem tk_241 : bl_241.all (fun q => chk 241 q.1 q.2.2) = true := by decide +kernel
theorem py_241 : plainName (mN 241).cls = true := by decide +kernel
theorem ml_241 : mL 241 = 7 := rfl
/-- M.fewest -/
def bl_242 : Tb := [
  (0, none, [.aload 0, .getfield 2307, .aload 0, .getfield 2407, .iconst 0, .invokestatic 26032, .iconst 0, .istore 3, .goto_w 14]),
  (14, some [0, 1, 2, 3], [.iload 3, .iconst 3, .if_icmp .gt 75, .aload 0, .iconst 0, .iload 3, .iload 1, .iload 2, .invokevirtual 30921, .ifCond .ne 33, .goto 69]),
  (33, none, [.aload 0, .iconst 0, .putfield 2332, .iconst 0, .istore 4, .goto_w 41]),
  (41, some [0, 3, 4], [.iload 4, .iconst 2, .iload 3, .imul, .if_icmp .ge 67, .aload 0, .aload 0, .getfield 2411, .iload 4, .iaload, .i2l, .invokevirtual 21785, .iinc 4 1, .goto 41]),
  (67, none, [.iload 3, .ireturn]),
  (69, none, [.iinc 3 1, .goto 14]),
  (75, none, [.iconst (-2), .ireturn])]
theorem tk_242 : bl_242.all (fun q => chk 242 q.1 q.2.2) = true := by decide +kernel
theorem py_242 : plainName (mN 242).cls = true := by decide +kernel
theorem ml_242 : mL 242 = 5 := rfl
/-- M.goesOver -/
def bl_243 : Tb := [
  (0, none, [.aload 0, .iconst 0, .putfield 2336, .aload 0, .iload 1, .invokevirtual 21913, .ifCond .eq 29, .iload 2, .invokestatic 22160, .ifCond .eq 29, .aload 0, .iload 1, .iload 2, .invokevirtual 31017, .goto 30]),
  (29, none, [.iconst (-1), .ireturn]),
  (30, none, [.ireturn])]
theorem tk_243 : bl_243.all (fun q => chk 243 q.1 q.2.2) = true := by decide +kernel
theorem py_243 : plainName (mN 243).cls = true := by decide +kernel
theorem ml_243 : mL 243 = 3 := rfl
/-- M.peace -/
def bl_244 : Tb := [
  (0, none, [.aload 0, .iconst 0, .putfield 2336, .aload 0, .iconst (-1), .iconst 0, .invokevirtual 31017, .ireturn])]
theorem tk_244 : bl_244.all (fun q => chk 244 q.1 q.2.2) = true := by decide +kernel
theorem py_244 : plainName (mN 244).cls = true := by decide +kernel
theorem ml_244 : mL 244 = 1 := rfl
/-- M.goRound -/
def bl_245 : Tb := [
  (0, none, [.iconst 0, .istore 2, .goto_w 2]),
  (2, some [0, 1, 2], [.iload 2, .aload 0, .getfield 2308, .if_icmp .ge 45, .iload 2, .iconst 1, .iadd, .istore 3, .goto_w 14]),
  (14, some [0, 1, 2, 3], [.iload 3, .aload 0, .getfield 2308, .if_icmp .ge 39, .aload 0, .aload 1, .iload 2, .iload 3, .invokevirtual 26553, .ifCond .lt 33, .return_]),
  (33, none, [.iinc 3 1, .goto 14]),
  (39, none, [.iinc 2 1, .goto 2]),
  (45, none, [.return_])]
theorem tk_245 : bl_245.all (fun q => chk 245 q.1 q.2.2) = true := by decide +kernel
theorem py_245 : plainName (mN 245).cls = true := by decide +kernel
theorem ml_245 : mL 245 = 4 := rfl
/-- M.campaign -/
def bl_246 : Tb := [
  (0, none, [.aload 0, .iconst 0, .putfield 2336, .iload 1, .iconst 0, .iconst 40, .invokestatic 21424, .ifCond .ne 17, .iconst (-1), .ireturn]),
  (17, none, [.aload 0, .getfield 2307, .aload 0, .getfield 2399, .iconst 0, .invokestatic 26032, .aload 0, .getfield 2399, .iconst 49, .iconst 0, .iastore, .iconst 0, .istore 2, .goto_w 39]),
  (39, some [0, 1, 2], [.iload 2, .iload 1, .if_icmp .ge 66, .aload 0, .aload 0, .getfield 2399, .invokevirtual 31385, .aload 0, .aload 0, .getfield 2399, .invokevirtual 26905, .iinc 2 1, .goto 39]),
  (66, none, [.aload 0, .iconst 0, .putfield 2332, .iconst 0, .istore 2, .goto_w 73]),
  (73, some [0, 2], [.iload 2, .aload 0, .getfield 2308, .if_icmp .ge 101, .aload 0, .aload 0, .getfield 2399, .iconst 6, .iload 2, .iadd, .iaload, .i2l, .invokevirtual 21785, .iinc 2 1, .goto 73]),
  (101, none, [.aload 0, .getfield 2399, .iconst 49, .iaload, .ireturn])]
theorem tk_246 : bl_246.all (fun q => chk 246 q.1 q.2.2) = true := by decide +kernel
theorem py_246 : plainName (mN 246).cls = true := by decide +kernel
theorem ml_246 : mL 246 = 3 := rfl
/-- M.halves -/
def bl_247 : Tb := [
  (0, none, [.aload 0, .iconst 0, .putfield 2336, .iload 1, .invokestatic 22160, .ifCond .ne 14, .iconst (-1), .ireturn]),
  (14, none, [.iconst (-1), .istore 2, .iconst 1, .istore 3, .goto_w 18]),
  (18, some [0, 1, 2, 3], [.iload 3, .aload 0, .invokevirtual 22281, .if_icmp .gt 113, .iconst 0, .istore 4, .iconst 0, .istore 5, .goto_w 32]),
  (32, some [0, 1, 2, 3, 4, 5], [.iload 5, .aload 0, .getfield 2308, .if_icmp .ge 75, .iload 4, .iload 3, .iload 5, .invokestatic 21536, .ifCond .eq 65, .aload 0, .getfield 2307, .iload 5, .iload 1, .invokestatic 22448, .goto 66]),
  (65, none, [.iconst 0, .iadd, .istore 4, .iinc 5 1, .goto 32]),
  (66, none, [.iadd, .istore 4, .iinc 5 1, .goto 32]),
  (75, none, [.iconst 2, .iload 4, .imul, .iconst 12, .iload 3, .invokestatic 36496, .imul, .if_icmp .ne 107, .iload 2, .iconst (-1), .if_icmp .eq 105, .iload 3, .invokestatic 36496, .iload 2, .invokestatic 36496, .if_icmp .ge 107, .iload 3, .istore 2, .iinc 3 1, .goto 18]),
  (105, none, [.iload 3, .istore 2, .iinc 3 1, .goto 18]),
  (107, none, [.iinc 3 1, .goto 18]),
  (113, none, [.iload 2, .iconst (-1), .if_icmp .ne 121, .iconst (-2), .ireturn]),
  (121, none, [.aload 0, .iconst 0, .putfield 2332, .aload 0, .iload 2, .i2l, .invokevirtual 21785, .iload 2, .invokestatic 36496, .ireturn])]
theorem tk_247 : bl_247.all (fun q => chk 247 q.1 q.2.2) = true := by decide +kernel
theorem py_247 : plainName (mN 247).cls = true := by decide +kernel
theorem ml_247 : mL 247 = 6 := rfl
/-- M.strengthOf -/
def bl_248 : Tb := [
  (0, none, [.iconst 0, .istore 2, .iconst 0, .istore 3, .goto_w 4]),
  (4, some [0, 1, 2, 3], [.iload 3, .aload 0, .getfield 2308, .if_icmp .ge 39, .iload 2, .iload 1, .iload 3, .invokestatic 21536, .ifCond .eq 30, .aload 0, .getfield 2307, .iload 3, .iaload, .goto 31]),
  (30, none, [.iconst 0, .iadd, .istore 2, .iinc 3 1, .goto 4]),
  (31, none, [.iadd, .istore 2, .iinc 3 1, .goto 4]),
  (39, none, [.iload 2, .ireturn])]
theorem tk_248 : bl_248.all (fun q => chk 248 q.1 q.2.2) = true := by decide +kernel
theorem py_248 : plainName (mN 248).cls = true := by decide +kernel
theorem ml_248 : mL 248 = 4 := rfl
/-- M.evens -/
def bl_249 : Tb := [
  (0, none, [.aload 0, .iconst 0, .putfield 2336, .aload 0, .aload 0, .invokevirtual 22281, .invokevirtual 31769, .istore 1, .iconst 0, .istore 2, .iconst 2, .istore 3, .goto_w 18]),
  (18, some [0, 1, 2, 3], [.iload 3, .aload 0, .invokevirtual 22281, .if_icmp .gt 61, .iconst 2, .aload 0, .iload 3, .invokevirtual 31769, .imul, .iload 1, .isub, .invokestatic 36752, .iconst 2, .aload 0, .iload 2, .invokevirtual 31769, .imul, .iload 1, .isub, .invokestatic 36752, .if_icmp .ge 55, .iload 3, .istore 2, .iinc 3 2, .goto 18]),
  (55, none, [.iinc 3 2, .goto 18]),
  (61, none, [.aload 0, .iconst 0, .putfield 2332, .aload 0, .iload 2, .i2l, .invokevirtual 21785, .iconst 2, .aload 0, .iload 2, .invokevirtual 31769, .imul, .iload 1, .isub, .invokestatic 36752, .ireturn])]
theorem tk_249 : bl_249.all (fun q => chk 249 q.1 q.2.2) = true := by decide +kernel
theorem py_249 : plainName (mN 249).cls = true := by decide +kernel
theorem ml_249 : mL 249 = 4 := rfl
