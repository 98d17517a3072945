/-! the methods' code, 250 to 292 -/
/-- M.orders -/
def bl_250 : Tb := [
  (0, none, [.iload 0, .ifCond .ne 8, .ldc2_w 1, .goto 17]),
  (8, none, [.iload 0, .i2l, .iload 0, .iconst 1, .isub, .invokestatic 32016, .lmul, .lreturn]),
  (17, none, [.lreturn])]
theorem tk_250 : bl_250.all (fun q => chk 250 q.1 q.2.2) = true := by decide +kernel
theorem py_250 : plainName (mN 250).cls = true := by decide +kernel
theorem ml_250 : mL 250 = 1 := rfl
/-- M.worth -/
def bl_251 : Tb := [
  (0, none, [.aload 0, .iconst 0, .putfield 2336, .aload 0, .iload 1, .invokevirtual 21913, .ifCond .ne 15, .iconst (-1), .ireturn]),
  (15, none, [.aload 0, .aload 0, .invokevirtual 22281, .invokevirtual 31769, .istore 2, .ldc2_w 0, .lstore 3, .iconst 0, .istore 5, .goto_w 29]),
  (29, some [0, 1, 2, 3, 5], [.iload 5, .aload 0, .invokevirtual 22281, .if_icmp .gt 111, .iload 5, .iload 1, .invokestatic 21536, .ifCond .ne 105, .iconst 2, .aload 0, .iload 5, .invokevirtual 31769, .imul, .iload 2, .if_icmp .gt 105, .iconst 2, .aload 0, .iload 5, .iconst 1, .iload 1, .ishl, .ior, .invokevirtual 31769, .imul, .iload 2, .if_icmp .gt 78, .goto 105]),
  (78, none, [.lload 3, .iload 5, .invokestatic 36496, .invokestatic 32016, .aload 0, .getfield 2308, .iconst 1, .isub, .iload 5, .invokestatic 36496, .isub, .invokestatic 32016, .lmul, .ladd, .lstore 3, .iinc 5 1, .goto 29]),
  (105, none, [.iinc 5 1, .goto 29]),
  (111, none, [.aload 0, .lload 3, .aload 0, .getfield 2308, .invokestatic 32016, .invokevirtual 28969, .iconst 0, .ireturn])]
theorem tk_251 : bl_251.all (fun q => chk 251 q.1 q.2.2) = true := by decide +kernel
theorem py_251 : plainName (mN 251).cls = true := by decide +kernel
theorem ml_251 : mL 251 = 6 := rfl
/-- M.patched -/
def bl_252 : Tb := [
  (0, none, [.aload 0, .iconst 0, .putfield 2336, .iload 1, .invokestatic 22160, .ifCond .eq 22, .iload 2, .iconst 0, .iconst 12, .invokestatic 21424, .ifCond .ne 24, .iconst (-1), .ireturn]),
  (22, none, [.iconst (-1), .ireturn]),
  (24, none, [.iconst 0, .istore 3, .iconst 0, .istore 4, .iconst 0, .istore 5, .goto_w 32]),
  (32, some [0, 1, 2, 3, 4, 5], [.iload 5, .aload 0, .getfield 2308, .if_icmp .ge 89, .iload 3, .aload 0, .getfield 2307, .iload 5, .iload 1, .invokestatic 22448, .iload 2, .if_icmp .lt 63, .iconst 1, .iload 5, .ishl, .goto 64]),
  (63, none, [.iconst 0, .ior, .istore 3, .iload 4, .aload 0, .getfield 2307, .iload 5, .iload 1, .invokestatic 22448, .invokestatic 36896, .istore 4, .iinc 5 1, .goto 32]),
  (64, none, [.ior, .istore 3, .iload 4, .aload 0, .getfield 2307, .iload 5, .iload 1, .invokestatic 22448, .invokestatic 36896, .istore 4, .iinc 5 1, .goto 32]),
  (89, none, [.aload 0, .iconst 0, .putfield 2332, .aload 0, .iload 3, .invokestatic 36496, .i2l, .invokevirtual 21785, .aload 0, .iload 4, .i2l, .invokevirtual 21785, .iload 3, .ireturn])]
theorem tk_252 : bl_252.all (fun q => chk 252 q.1 q.2.2) = true := by decide +kernel
theorem py_252 : plainName (mN 252).cls = true := by decide +kernel
theorem ml_252 : mL 252 = 6 := rfl
/-- M.seen -/
def bl_253 : Tb := [
  (0, none, [.aload 0, .iconst 0, .putfield 2336, .iload 1, .ifCond .eq 14, .iload 1, .iconst 2, .if_icmp .ne 18, .iconst 3, .goto 39]),
  (14, none, [.iconst 3, .goto 39]),
  (18, none, [.iload 1, .iconst 1, .if_icmp .ne 28, .iconst 9, .goto 39]),
  (28, none, [.iload 1, .iconst 4, .if_icmp .ne 37, .iconst 1, .goto 39]),
  (37, none, [.iconst 99, .istore 3, .iload 1, .iconst 0, .iconst 4, .invokestatic 21424, .ifCond .eq 67, .iload 2, .iconst 0, .iload 3, .invokestatic 21424, .ifCond .eq 67, .aload 0, .getfield 2424, .iconst 12, .if_icmp .ne 69, .iconst (-1), .ireturn]),
  (39, none, [.istore 3, .iload 1, .iconst 0, .iconst 4, .invokestatic 21424, .ifCond .eq 67, .iload 2, .iconst 0, .iload 3, .invokestatic 21424, .ifCond .eq 67, .aload 0, .getfield 2424, .iconst 12, .if_icmp .ne 69, .iconst (-1), .ireturn]),
  (67, none, [.iconst (-1), .ireturn]),
  (69, none, [.aload 0, .getfield 2419, .aload 0, .getfield 2424, .iload 1, .iastore, .aload 0, .getfield 2423, .aload 0, .getfield 2424, .iload 2, .iastore, .aload 0, .dup, .getfield 2424, .iconst 1, .iadd, .putfield 2424, .aload 0, .getfield 2424, .ireturn])]
theorem tk_253 : bl_253.all (fun q => chk 253 q.1 q.2.2) = true := by decide +kernel
theorem py_253 : plainName (mN 253).cls = true := by decide +kernel
theorem ml_253 : mL 253 = 4 := rfl
/-- M.forget -/
def bl_254 : Tb := [
  (0, none, [.aload 0, .iconst 0, .putfield 2336, .aload 0, .getfield 2424, .istore 1, .aload 0, .iconst 0, .putfield 2424, .iload 1, .ireturn])]
theorem tk_254 : bl_254.all (fun q => chk 254 q.1 q.2.2) = true := by decide +kernel
theorem py_254 : plainName (mN 254).cls = true := by decide +kernel
theorem ml_254 : mL 254 = 2 := rfl
/-- M.fits3 -/
def bl_255 : Tb := [
  (0, none, [.iload 2, .lookupswitch 104 #[(0, 32), (1, 51), (2, 67), (3, 85)]]),
  (32, none, [.aload 0, .getfield 2307, .iconst 6, .iload 1, .iadd, .iaload, .iload 3, .if_icmp .ne 49, .iconst 1, .goto 50]),
  (49, none, [.iconst 0, .freturn]),
  (50, none, [.freturn]),
  (51, none, [.aload 0, .getfield 2307, .iload 1, .iaload, .iload 3, .if_icmp .lt 65, .iconst 1, .goto 66]),
  (65, none, [.iconst 0, .freturn]),
  (66, none, [.freturn]),
  (67, none, [.aload 0, .getfield 2307, .iload 1, .iload 3, .invokestatic 22448, .ifCond .le 83, .iconst 1, .goto 84]),
  (83, none, [.iconst 0, .freturn]),
  (84, none, [.freturn]),
  (85, none, [.aload 0, .getfield 2307, .iconst 36, .iload 1, .iadd, .iaload, .iload 3, .if_icmp .lt 102, .iconst 1, .goto 103]),
  (102, none, [.iconst 0, .freturn]),
  (103, none, [.freturn]),
  (104, none, [.aload 0, .getfield 2307, .iconst 42, .iload 1, .iadd, .iaload, .ifCond .le 120, .iconst 1, .goto 121]),
  (120, none, [.iconst 0, .iload 3, .iconst 1, .if_icmp .ne 130, .iconst 1, .goto 131]),
  (121, none, [.iload 3, .iconst 1, .if_icmp .ne 130, .iconst 1, .goto 131]),
  (130, none, [.iconst 0, .if_icmp .ne 138, .iconst 1, .goto 139]),
  (131, none, [.if_icmp .ne 138, .iconst 1, .goto 139]),
  (138, none, [.iconst 0, .freturn]),
  (139, none, [.freturn])]
theorem tk_255 : bl_255.all (fun q => chk 255 q.1 q.2.2) = true := by decide +kernel
theorem py_255 : plainName (mN 255).cls = true := by decide +kernel
theorem ml_255 : mL 255 = 4 := rfl
/-- M.fitting -/
def bl_256 : Tb := [
  (0, none, [.iconst 0, .istore 1, .iconst 0, .istore 2, .goto_w 4]),
  (4, some [0, 1, 2], [.iload 2, .aload 0, .getfield 2308, .if_icmp .ge 84, .iconst 1, .istore 3, .iconst 0, .istore 4, .goto_w 17]),
  (17, some [0, 1, 2, 3, 4], [.iload 4, .aload 0, .getfield 2424, .if_icmp .ge 64, .iload 3, .ifCond .eq 56, .aload 0, .iload 2, .aload 0, .getfield 2419, .iload 4, .iaload, .aload 0, .getfield 2423, .iload 4, .iaload, .invokevirtual 32697, .ifCond .eq 56, .iconst 1, .goto 57]),
  (56, none, [.iconst 0, .istore 3, .iinc 4 1, .goto 17]),
  (57, none, [.istore 3, .iinc 4 1, .goto 17]),
  (64, none, [.iload 1, .iload 3, .ifCond .eq 75, .iconst 1, .iload 2, .ishl, .goto 76]),
  (75, none, [.iconst 0, .ior, .istore 1, .iinc 2 1, .goto 4]),
  (76, none, [.ior, .istore 1, .iinc 2 1, .goto 4]),
  (84, none, [.iload 1, .ireturn])]
theorem tk_256 : bl_256.all (fun q => chk 256 q.1 q.2.2) = true := by decide +kernel
theorem py_256 : plainName (mN 256).cls = true := by decide +kernel
theorem ml_256 : mL 256 = 5 := rfl
/-- M.fits0 -/
def bl_257 : Tb := [
  (0, none, [.aload 0, .iconst 0, .putfield 2336, .aload 0, .invokevirtual 32777, .istore 1, .aload 0, .iconst 0, .putfield 2332, .aload 0, .iload 1, .invokestatic 36496, .i2l, .invokevirtual 21785, .iload 1, .ireturn])]
theorem tk_257 : bl_257.all (fun q => chk 257 q.1 q.2.2) = true := by decide +kernel
theorem py_257 : plainName (mN 257).cls = true := by decide +kernel
theorem ml_257 : mL 257 = 2 := rfl
/-- M.looks -/
def bl_258 : Tb := [
  (0, none, [.aload 0, .iconst 0, .putfield 2336, .aload 0, .invokevirtual 32777, .istore 1, .iload 1, .ifCond .ne 17, .iconst (-2), .ireturn]),
  (17, none, [.iconst (-1), .istore 2, .iconst 1000000, .istore 3, .iconst 0, .istore 4, .goto_w 26]),
  (26, some [0, 1, 2, 3, 4], [.iload 4, .iconst 4, .if_icmp .ge 121, .iconst 0, .istore 5, .iconst 0, .istore 6, .goto_w 38]),
  (38, some [0, 1, 2, 3, 4, 5, 6], [.iload 6, .aload 0, .getfield 2308, .if_icmp .ge 86, .iload 5, .iload 1, .iload 6, .invokestatic 21536, .ifCond .eq 76, .aload 0, .getfield 2307, .iload 6, .iload 4, .invokestatic 22448, .ifCond .le 76, .iconst 1, .goto 77]),
  (76, none, [.iconst 0, .iadd, .istore 5, .iinc 6 1, .goto 38]),
  (77, none, [.iadd, .istore 5, .iinc 6 1, .goto 38]),
  (86, none, [.iload 5, .iload 1, .invokestatic 36496, .iload 5, .isub, .invokestatic 36896, .istore 6, .iload 6, .iload 3, .if_icmp .lt 109, .goto 115]),
  (109, none, [.iload 4, .istore 2, .iload 6, .istore 3, .iinc 4 1, .goto 26]),
  (115, none, [.iinc 4 1, .goto 26]),
  (121, none, [.aload 0, .iconst 0, .putfield 2332, .aload 0, .iload 3, .i2l, .invokevirtual 21785, .iload 2, .ireturn])]
theorem tk_258 : bl_258.all (fun q => chk 258 q.1 q.2.2) = true := by decide +kernel
theorem py_258 : plainName (mN 258).cls = true := by decide +kernel
theorem ml_258 : mL 258 = 7 := rfl
/-- M.told -/
def bl_259 : Tb := [
  (0, none, [.aload 0, .iconst 0, .putfield 2336, .iload 1, .iconst 0, .iconst 12, .invokestatic 21424, .ifCond .eq 45, .iload 2, .iconst 0, .iconst 12, .iload 1, .isub, .invokestatic 21424, .ifCond .eq 45, .iload 3, .iconst 0, .iconst 1, .invokestatic 21424, .ifCond .eq 45, .aload 0, .getfield 2440, .iconst 12, .if_icmp .ne 47, .iconst (-1), .ireturn]),
  (45, none, [.iconst (-1), .ireturn]),
  (47, none, [.aload 0, .getfield 2431, .aload 0, .getfield 2440, .iload 1, .iastore, .aload 0, .getfield 2435, .aload 0, .getfield 2440, .iload 2, .iastore, .aload 0, .aload 0, .getfield 2436, .iconst 1, .aload 0, .getfield 2440, .ishl, .iconst (-1), .ixor, .iand, .iload 3, .aload 0, .getfield 2440, .ishl, .ior, .putfield 2436, .aload 0, .dup, .getfield 2440, .iconst 1, .iadd, .putfield 2440, .aload 0, .getfield 2440, .ireturn])]
theorem tk_259 : bl_259.all (fun q => chk 259 q.1 q.2.2) = true := by decide +kernel
theorem py_259 : plainName (mN 259).cls = true := by decide +kernel
theorem ml_259 : mL 259 = 4 := rfl
/-- M.deny -/
def bl_260 : Tb := [
  (0, none, [.aload 0, .iconst 0, .putfield 2336, .aload 0, .getfield 2440, .istore 1, .aload 0, .iconst 0, .putfield 2440, .iload 1, .ireturn])]
theorem tk_260 : bl_260.all (fun q => chk 260 q.1 q.2.2) = true := by decide +kernel
theorem py_260 : plainName (mN 260).cls = true := by decide +kernel
theorem ml_260 : mL 260 = 2 := rfl
/-- M.goesBy -/
def bl_261 : Tb := [
  (0, none, [.iload 2, .iload 0, .if_icmp .lt 12, .iload 3, .iload 2, .iload 1, .iadd, .if_icmp .lt 16, .iconst 1, .goto 17]),
  (12, none, [.iconst 1, .goto 17]),
  (16, none, [.iconst 0, .freturn]),
  (17, none, [.freturn])]
theorem tk_261 : bl_261.all (fun q => chk 261 q.1 q.2.2) = true := by decide +kernel
theorem py_261 : plainName (mN 261).cls = true := by decide +kernel
theorem ml_261 : mL 261 = 4 := rfl
/-- M.isLaw -/
def bl_262 : Tb := [
  (0, none, [.iconst 0, .istore 3, .goto_w 2]),
  (2, some [0, 1, 2, 3], [.iload 3, .aload 0, .getfield 2440, .if_icmp .ge 46, .iload 1, .iload 2, .aload 0, .getfield 2431, .iload 3, .iaload, .aload 0, .getfield 2435, .iload 3, .iaload, .invokestatic 33472, .aload 0, .getfield 2436, .iload 3, .invokestatic 21536, .if_icmp .eq 40, .iconst 0, .freturn]),
  (40, none, [.iinc 3 1, .goto 2]),
  (46, none, [.iconst 1, .freturn])]
theorem tk_262 : bl_262.all (fun q => chk 262 q.1 q.2.2) = true := by decide +kernel
theorem py_262 : plainName (mN 262).cls = true := by decide +kernel
theorem ml_262 : mL 262 = 4 := rfl
/-- M.laws -/
def bl_263 : Tb := [
  (0, none, [.aload 0, .iconst 0, .putfield 2336, .iconst 0, .istore 1, .aload 0, .iconst 0, .putfield 2332, .iconst 0, .istore 2, .goto_w 14]),
  (14, some [0, 1, 2], [.iload 2, .iconst 12, .if_icmp .gt 71, .iconst 0, .istore 3, .goto_w 22]),
  (22, some [0, 1, 2, 3], [.iload 3, .iconst 12, .if_icmp .gt 65, .aload 0, .iload 2, .iload 3, .invokevirtual 33577, .ifCond .ne 40, .goto 59]),
  (40, none, [.iload 1, .ifCond .ne 56, .aload 0, .iload 2, .i2l, .invokevirtual 21785, .aload 0, .iload 3, .i2l, .invokevirtual 21785, .iinc 1 1, .iinc 3 1, .goto 22]),
  (56, none, [.iinc 1 1, .iinc 3 1, .goto 22]),
  (59, none, [.iinc 3 1, .goto 22]),
  (65, none, [.iinc 2 1, .goto 14]),
  (71, none, [.iload 1, .ireturn])]
theorem tk_263 : bl_263.all (fun q => chk 263 q.1 q.2.2) = true := by decide +kernel
theorem py_263 : plainName (mN 263).cls = true := by decide +kernel
theorem ml_263 : mL 263 = 4 := rfl
/-- M.leftBy -/
def bl_264 : Tb := [
  (0, none, [.iconst 0, .istore 3, .iconst 0, .istore 4, .iconst 0, .istore 5, .goto_w 8]),
  (8, some [0, 1, 2, 3, 4, 5], [.iload 5, .iconst 12, .if_icmp .gt 72, .iconst 0, .istore 6, .goto_w 18]),
  (18, some [0, 1, 2, 3, 4, 5, 6], [.iload 6, .iconst 12, .if_icmp .gt 66, .aload 0, .iload 5, .iload 6, .invokevirtual 33577, .ifCond .ne 39, .goto 60]),
  (39, none, [.iload 5, .iload 6, .iload 1, .iload 2, .invokestatic 33472, .ifCond .eq 57, .iinc 3 1, .goto 60]),
  (57, none, [.iinc 4 1, .iinc 6 1, .goto 18]),
  (60, none, [.iinc 6 1, .goto 18]),
  (66, none, [.iinc 5 1, .goto 8]),
  (72, none, [.iload 3, .iload 4, .invokestatic 36896, .ireturn])]
theorem tk_264 : bl_264.all (fun q => chk 264 q.1 q.2.2) = true := by decide +kernel
theorem py_264 : plainName (mN 264).cls = true := by decide +kernel
theorem ml_264 : mL 264 = 7 := rfl
/-- M.asks -/
def bl_265 : Tb := [
  (0, none, [.aload 0, .iconst 0, .putfield 2336, .iconst (-1), .istore 1, .iconst 1000000, .istore 2, .iconst 0, .istore 3, .goto_w 13]),
  (13, some [0, 1, 2, 3], [.iload 3, .iconst 12, .if_icmp .gt 72, .iconst 0, .istore 4, .goto_w 22]),
  (22, some [0, 1, 2, 3, 4], [.iload 4, .iconst 12, .iload 3, .isub, .if_icmp .gt 66, .aload 0, .iload 3, .iload 4, .invokevirtual 33833, .istore 5, .iload 5, .iload 2, .if_icmp .lt 49, .goto 60]),
  (49, none, [.iconst 13, .iload 3, .imul, .iload 4, .iadd, .istore 1, .iload 5, .istore 2, .iinc 4 1, .goto 22]),
  (60, none, [.iinc 4 1, .goto 22]),
  (66, none, [.iinc 3 1, .goto 13]),
  (72, none, [.iload 2, .ifCond .ne 79, .iconst (-2), .ireturn]),
  (79, none, [.aload 0, .iconst 0, .putfield 2332, .aload 0, .iload 2, .i2l, .invokevirtual 21785, .iload 1, .ireturn])]
theorem tk_265 : bl_265.all (fun q => chk 265 q.1 q.2.2) = true := by decide +kernel
theorem py_265 : plainName (mN 265).cls = true := by decide +kernel
theorem ml_265 : mL 265 = 6 := rfl
/-- M.isLost -/
def bl_266 : Tb := [
  (0, none, [.aload 0, .getfield 2447, .iconst 31, .iload 1, .imul, .iload 2, .iadd, .saload, .freturn])]
theorem tk_266 : bl_266.all (fun q => chk 266 q.1 q.2.2) = true := by decide +kernel
theorem py_266 : plainName (mN 266).cls = true := by decide +kernel
theorem ml_266 : mL 266 = 3 := rfl
/-- M.bestMove -/
def bl_267 : Tb := [
  (0, none, [.iconst 0, .istore 3, .goto_w 2]),
  (2, some [0, 1, 2, 3], [.iload 3, .iload 1, .if_icmp .gt 76, .iload 3, .ifCond .ne 15, .iconst 1, .goto 16]),
  (15, none, [.iconst 0, .istore 4, .goto_w 18]),
  (16, none, [.istore 4, .goto_w 18]),
  (18, some [0, 1, 2, 3, 4], [.iload 4, .iload 2, .if_icmp .gt 70, .iload 3, .ifCond .le 42, .iload 4, .ifCond .le 42, .iload 3, .iload 4, .if_icmp .eq 42, .goto 64]),
  (42, none, [.aload 0, .iload 1, .iload 3, .isub, .iload 2, .iload 4, .isub, .invokevirtual 34089, .ifCond .eq 64, .iconst 31, .iload 3, .imul, .iload 4, .iadd, .ireturn]),
  (64, none, [.iinc 4 1, .goto 18]),
  (70, none, [.iinc 3 1, .goto 2]),
  (76, none, [.iconst 0, .ireturn])]
theorem tk_267 : bl_267.all (fun q => chk 267 q.1 q.2.2) = true := by decide +kernel
theorem py_267 : plainName (mN 267).cls = true := by decide +kernel
theorem ml_267 : mL 267 = 5 := rfl
/-- M.treaty -/
def bl_268 : Tb := [
  (0, none, [.aload 0, .iconst 0, .putfield 2336, .iload 1, .iconst 0, .iconst 30, .invokestatic 21424, .ifCond .eq 25, .iload 2, .iconst 0, .iconst 30, .invokestatic 21424, .ifCond .ne 27, .iconst (-1), .ireturn]),
  (25, none, [.iconst (-1), .ireturn]),
  (27, none, [.iconst 0, .istore 3, .goto_w 29]),
  (29, some [0, 1, 2, 3], [.iload 3, .iload 1, .if_icmp .gt 82, .iconst 0, .istore 4, .goto_w 37]),
  (37, some [0, 1, 2, 3, 4], [.iload 4, .iload 2, .if_icmp .gt 76, .aload 0, .getfield 2447, .iconst 31, .iload 3, .imul, .iload 4, .iadd, .aload 0, .iload 3, .iload 4, .invokevirtual 34217, .ifCond .ne 68, .iconst 1, .goto 69]),
  (68, none, [.iconst 0, .sastore, .iinc 4 1, .goto 37]),
  (69, none, [.sastore, .iinc 4 1, .goto 37]),
  (76, none, [.iinc 3 1, .goto 29]),
  (82, none, [.aload 0, .iload 1, .iload 2, .invokevirtual 34217, .istore 3, .aload 0, .iconst 0, .putfield 2332, .iload 3, .ifCond .ne 100, .iconst 0, .ireturn]),
  (100, none, [.aload 0, .iload 3, .iconst 31, .idiv, .i2l, .invokevirtual 21785, .aload 0, .iload 3, .iconst 31, .irem, .i2l, .invokevirtual 21785, .iconst 1, .ireturn])]
theorem tk_268 : bl_268.all (fun q => chk 268 q.1 q.2.2) = true := by decide +kernel
theorem py_268 : plainName (mN 268).cls = true := by decide +kernel
theorem ml_268 : mL 268 = 5 := rfl
/-- M.power -/
def bl_269 : Tb := [
  (0, none, [.ldc2_w 1, .lstore 3, .iconst 0, .istore 5, .goto_w 5]),
  (5, some [0, 2, 3, 5], [.iload 5, .iload 2, .if_icmp .ge 21, .lload 3, .lload 0, .lmul, .lstore 3, .iinc 5 1, .goto 5]),
  (21, none, [.lload 3, .lreturn])]
theorem tk_269 : bl_269.all (fun q => chk 269 q.1 q.2.2) = true := by decide +kernel
theorem py_269 : plainName (mN 269).cls = true := by decide +kernel
theorem ml_269 : mL 269 = 6 := rfl
/-- M.series -/
def bl_270 : Tb := [
  (0, none, [.aload 0, .iconst 0, .putfield 2336, .iload 1, .iconst 1, .iconst 8, .invokestatic 21424, .ifCond .eq 35, .iload 2, .iconst 1, .iconst 8, .invokestatic 21424, .ifCond .eq 35, .iload 3, .iconst 0, .iconst 10, .invokestatic 21424, .ifCond .ne 37, .iconst (-1), .ireturn]),
  (35, none, [.iconst (-1), .ireturn]),
  (37, none, [.iload 1, .iload 2, .iadd, .iconst 1, .isub, .istore 4, .ldc2_w 0, .lstore 5, .ldc2_w 1, .lstore 7, .iconst 0, .istore 9, .goto_w 53]),
  (53, some [0, 1, 3, 4, 5, 7, 9], [.iload 9, .iload 4, .if_icmp .gt 122, .lload 5, .iload 9, .iload 1, .if_icmp .lt 95, .lload 7, .iload 3, .i2l, .iload 9, .invokestatic 34464, .lmul, .iconst 10, .iload 3, .isub, .i2l, .iload 4, .iload 9, .isub, .invokestatic 34464, .lmul, .goto 96]),
  (95, none, [.ldc2_w 0, .ladd, .lstore 5, .lload 7, .iload 4, .iload 9, .isub, .i2l, .lmul, .iload 9, .iconst 1, .iadd, .i2l, .ldiv, .lstore 7, .iinc 9 1, .goto 53]),
  (96, none, [.ladd, .lstore 5, .lload 7, .iload 4, .iload 9, .isub, .i2l, .lmul, .iload 9, .iconst 1, .iadd, .i2l, .ldiv, .lstore 7, .iinc 9 1, .goto 53]),
  (122, none, [.aload 0, .lload 5, .ldc2_w 10, .iload 4, .invokestatic 34464, .invokevirtual 28969, .iconst 0, .ireturn])]
theorem tk_270 : bl_270.all (fun q => chk 270 q.1 q.2.2) = true := by decide +kernel
theorem py_270 : plainName (mN 270).cls = true := by decide +kernel
theorem ml_270 : mL 270 = 10 := rfl
/-- M.gets -/
def bl_271 : Tb := [
  (0, none, [.iload 0, .iload 1, .if_icmp .le 9, .iload 2, .goto 21]),
  (9, none, [.iload 0, .iload 1, .if_icmp .ne 20, .iload 2, .iconst 2, .idiv, .goto 21]),
  (20, none, [.iconst 0, .iload 0, .isub, .iload 0, .iload 1, .iconst 3, .iadd, .if_icmp .lt 34, .iconst 2, .goto 35]),
  (21, none, [.iload 0, .isub, .iload 0, .iload 1, .iconst 3, .iadd, .if_icmp .lt 34, .iconst 2, .goto 35]),
  (34, none, [.iconst 0, .isub, .ireturn]),
  (35, none, [.isub, .ireturn])]
theorem tk_271 : bl_271.all (fun q => chk 271 q.1 q.2.2) = true := by decide +kernel
theorem py_271 : plainName (mN 271).cls = true := by decide +kernel
theorem ml_271 : mL 271 = 3 := rfl
/-- M.isBest -/
def bl_272 : Tb := [
  (0, none, [.iconst 0, .istore 3, .goto_w 2]),
  (2, some [0, 1, 2, 3], [.iload 3, .iconst 9, .if_icmp .gt 31, .iload 3, .iload 1, .iload 2, .invokestatic 34736, .iload 0, .iload 1, .iload 2, .invokestatic 34736, .if_icmp .le 25, .iconst 0, .freturn]),
  (25, none, [.iinc 3 1, .goto 2]),
  (31, none, [.iconst 1, .freturn])]
theorem tk_272 : bl_272.all (fun q => chk 272 q.1 q.2.2) = true := by decide +kernel
theorem py_272 : plainName (mN 272).cls = true := by decide +kernel
theorem ml_272 : mL 272 = 4 := rfl
/-- M.rests -/
def bl_273 : Tb := [
  (0, none, [.aload 0, .iconst 0, .putfield 2336, .iload 1, .iconst 0, .iconst 20, .invokestatic 21424, .ifCond .ne 17, .iconst (-1), .ireturn]),
  (17, none, [.iconst 0, .istore 2, .aload 0, .iconst 0, .putfield 2332, .iconst 0, .istore 3, .goto_w 26]),
  (26, some [0, 1, 2, 3], [.iload 3, .iconst 9, .if_icmp .gt 97, .iconst 0, .istore 4, .goto_w 35]),
  (35, some [0, 1, 2, 3, 4], [.iload 4, .iconst 9, .if_icmp .gt 91, .iload 3, .iload 4, .iload 1, .invokestatic 34864, .ifCond .eq 85, .iload 4, .iload 3, .iload 1, .invokestatic 34864, .ifCond .ne 65, .goto 85]),
  (65, none, [.iload 2, .ifCond .ne 82, .aload 0, .iload 3, .i2l, .invokevirtual 21785, .aload 0, .iload 4, .i2l, .invokevirtual 21785, .iinc 2 1, .iinc 4 1, .goto 35]),
  (82, none, [.iinc 2 1, .iinc 4 1, .goto 35]),
  (85, none, [.iinc 4 1, .goto 35]),
  (91, none, [.iinc 3 1, .goto 26]),
  (97, none, [.iload 2, .ireturn])]
theorem tk_273 : bl_273.all (fun q => chk 273 q.1 q.2.2) = true := by decide +kernel
theorem py_273 : plainName (mN 273).cls = true := by decide +kernel
theorem ml_273 : mL 273 = 5 := rfl
/-- M.lesserWins -/
def bl_274 : Tb := [
  (0, none, [.iconst 0, .istore 1, .iconst 0, .istore 2, .goto_w 4]),
  (4, some [0, 1, 2], [.iload 2, .aload 0, .getfield 2308, .if_icmp .ge 58, .iload 2, .iconst 1, .iadd, .istore 3, .goto_w 16]),
  (16, some [0, 1, 2, 3], [.iload 3, .aload 0, .getfield 2308, .if_icmp .ge 52, .iload 1, .aload 0, .aload 0, .getfield 2307, .iload 2, .iload 3, .invokevirtual 26425, .iload 2, .if_icmp .ne 43, .iconst 1, .goto 44]),
  (43, none, [.iconst 0, .iadd, .istore 1, .iinc 3 1, .goto 16]),
  (44, none, [.iadd, .istore 1, .iinc 3 1, .goto 16]),
  (52, none, [.iinc 2 1, .goto 4]),
  (58, none, [.iload 1, .ireturn])]
theorem tk_274 : bl_274.all (fun q => chk 274 q.1 q.2.2) = true := by decide +kernel
theorem py_274 : plainName (mN 274).cls = true := by decide +kernel
theorem ml_274 : mL 274 = 4 := rfl
/-- M.law -/
def bl_275 : Tb := [
  (0, none, [.aload 0, .iconst 0, .putfield 2336, .aload 0, .getfield 2324, .istore 1, .aload 0, .invokevirtual 24969, .ifCond .ne 26, .iconst (-10000), .aload 0, .getfield 2356, .isub, .ireturn]),
  (26, none, [.aload 0, .invokevirtual 35081, .istore 2, .aload 0, .getfield 2366, .astore 3, .aload 0, .getfield 2372, .istore 4, .aload 0, .aload 0, .getfield 2370, .putfield 2366, .aload 0, .iload 1, .putfield 2372, .iconst 0, .istore 5, .goto_w 58]),
  (58, some [0, 1, 2, 3, 4, 5], [.iload 5, .iload 1, .if_icmp .ge 84, .aload 0, .getfield 2366, .iload 5, .aload 0, .getfield 2323, .iload 5, .baload, .bastore, .iinc 5 1, .goto 58]),
  (84, none, [.aload 0, .invokevirtual 35081, .istore 5, .aload 0, .aload 3, .putfield 2366, .aload 0, .iload 4, .putfield 2372, .aload 0, .iconst 0, .putfield 2332, .aload 0, .iload 5, .i2l, .invokevirtual 21785, .aload 0, .iload 2, .i2l, .invokevirtual 21785, .iload 5, .iload 2, .isub, .ireturn])]
theorem tk_275 : bl_275.all (fun q => chk 275 q.1 q.2.2) = true := by decide +kernel
theorem py_275 : plainName (mN 275).cls = true := by decide +kernel
theorem ml_275 : mL 275 = 6 := rfl
/-- M.draw -/
def bl_276 : Tb := [
  (0, none, [.aload 0, .aload 0, .getfield 2448, .iconst 1103515245, .imul, .iconst 12345, .iadd, .putfield 2448, .aload 0, .getfield 2448, .iconst 16, .iushr, .iload 1, .irem, .ireturn])]
theorem tk_276 : bl_276.all (fun q => chk 276 q.1 q.2.2) = true := by decide +kernel
theorem py_276 : plainName (mN 276).cls = true := by decide +kernel
theorem ml_276 : mL 276 = 2 := rfl
/-- M.years -/
def bl_277 : Tb := [
  (0, none, [.aload 0, .iconst 0, .putfield 2336, .iload 2, .iconst 1, .iconst 60, .invokestatic 21424, .ifCond .ne 17, .iconst (-1), .ireturn]),
  (17, none, [.aload 0, .iload 1, .putfield 2448, .aload 0, .getfield 2307, .aload 0, .getfield 2399, .iconst 0, .invokestatic 26032, .aload 0, .getfield 2399, .iconst 49, .iconst 0, .iastore, .iconst 0, .istore 3, .goto_w 44]),
  (44, some [0, 2, 3], [.iload 3, .iload 2, .if_icmp .ge 180, .aload 0, .iconst 4, .invokevirtual 35353, .istore 4, .iload 4, .ifCond .ne 69, .aload 0, .aload 0, .getfield 2399, .invokevirtual 26905, .iload 4, .ifCond .eq 174, .aload 0, .getfield 2308, .ifCond .ne 84, .goto 174]),
  (69, none, [.iload 4, .ifCond .eq 174, .aload 0, .getfield 2308, .ifCond .ne 84, .goto 174]),
  (84, none, [.aload 0, .aload 0, .getfield 2308, .invokevirtual 35353, .istore 5, .aload 0, .iload 4, .iconst 3, .if_icmp .ne 105, .iconst 4, .goto 109]),
  (105, none, [.aload 0, .getfield 2308, .invokevirtual 35353, .istore 6, .iload 4, .iconst 3, .if_icmp .ne 148, .aload 0, .aload 0, .getfield 2399, .iload 5, .iload 6, .iconst 1, .invokevirtual 27465, .ifCond .ne 148, .aload 0, .getfield 2399, .iload 5, .iload 6, .iconst 1, .invokestatic 27584, .iload 4, .iconst 3, .if_icmp .ge 174, .iload 5, .iload 6, .if_icmp .eq 174, .aload 0, .aload 0, .getfield 2399, .iload 5, .iload 6, .invokevirtual 26553, .pop, .iinc 3 1, .goto 44]),
  (109, none, [.invokevirtual 35353, .istore 6, .iload 4, .iconst 3, .if_icmp .ne 148, .aload 0, .aload 0, .getfield 2399, .iload 5, .iload 6, .iconst 1, .invokevirtual 27465, .ifCond .ne 148, .aload 0, .getfield 2399, .iload 5, .iload 6, .iconst 1, .invokestatic 27584, .iload 4, .iconst 3, .if_icmp .ge 174, .iload 5, .iload 6, .if_icmp .eq 174, .aload 0, .aload 0, .getfield 2399, .iload 5, .iload 6, .invokevirtual 26553, .pop, .iinc 3 1, .goto 44]),
  (148, none, [.iload 4, .iconst 3, .if_icmp .ge 174, .iload 5, .iload 6, .if_icmp .eq 174, .aload 0, .aload 0, .getfield 2399, .iload 5, .iload 6, .invokevirtual 26553, .pop, .iinc 3 1, .goto 44]),
  (174, none, [.iinc 3 1, .goto 44]),
  (180, none, [.aload 0, .iconst 0, .putfield 2332, .aload 0, .aload 0, .aload 0, .getfield 2399, .iconst 0, .invokevirtual 25769, .i2l, .invokevirtual 21785, .aload 0, .aload 0, .aload 0, .getfield 2399, .iconst 36, .invokevirtual 25769, .i2l, .invokevirtual 21785, .aload 0, .getfield 2399, .iconst 49, .iaload, .ireturn])]
theorem tk_277 : bl_277.all (fun q => chk 277 q.1 q.2.2) = true := by decide +kernel
theorem py_277 : plainName (mN 277).cls = true := by decide +kernel
theorem ml_277 : mL 277 = 7 := rfl
/-- M.keep -/
def bl_278 : Tb := [
  (0, none, [.aload 0, .iconst 0, .putfield 2336, .iload 1, .iconst 0, .iconst 1, .invokestatic 21424, .ifCond .ne 16, .iconst 0, .freturn]),
  (16, none, [.aload 0, .getfield 2463, .iload 1, .iconst 1, .sastore, .aload 0, .getfield 2467, .iload 1, .aload 0, .getfield 2452, .iastore, .aload 0, .getfield 2307, .aload 0, .getfield 2459, .iconst 50, .iload 1, .imul, .invokestatic 26032, .iconst 1, .freturn])]
theorem tk_278 : bl_278.all (fun q => chk 278 q.1 q.2.2) = true := by decide +kernel
theorem py_278 : plainName (mN 278).cls = true := by decide +kernel
theorem ml_278 : mL 278 = 2 := rfl
/-- M.again -/
def bl_279 : Tb := [
  (0, none, [.aload 0, .iconst 0, .putfield 2336, .iload 1, .iconst 0, .iconst 1, .invokestatic 21424, .ifCond .eq 36, .aload 0, .getfield 2463, .iload 1, .saload, .ifCond .eq 36, .aload 0, .getfield 2467, .iload 1, .iaload, .aload 0, .getfield 2452, .if_icmp .eq 38, .iconst 0, .freturn]),
  (36, none, [.iconst 0, .freturn]),
  (38, none, [.iconst 0, .istore 2, .goto_w 40]),
  (40, some [0, 1, 2], [.iload 2, .iconst 50, .if_icmp .ge 69, .aload 0, .getfield 2307, .iload 2, .aload 0, .getfield 2459, .iconst 50, .iload 1, .imul, .iload 2, .iadd, .iaload, .iastore, .iinc 2 1, .goto 40]),
  (69, none, [.aload 0, .iconst 0, .putfield 2388, .iconst 1, .freturn])]
theorem tk_279 : bl_279.all (fun q => chk 279 q.1 q.2.2) = true := by decide +kernel
theorem py_279 : plainName (mN 279).cls = true := by decide +kernel
theorem ml_279 : mL 279 = 3 := rfl
/-- M.foreign -/
def bl_280 : Tb := [
  (0, none, [.iconst 0, .istore 1, .iconst 0, .istore 2, .goto_w 4]),
  (4, some [0, 1, 2], [.iload 2, .aload 0, .getfield 2308, .if_icmp .ge 32, .iload 1, .iconst 12, .aload 0, .getfield 2307, .iload 2, .invokestatic 22560, .isub, .iadd, .istore 1, .iinc 2 1, .goto 4]),
  (32, none, [.iload 1, .ireturn])]
theorem tk_280 : bl_280.all (fun q => chk 280 q.1 q.2.2) = true := by decide +kernel
theorem py_280 : plainName (mN 280).cls = true := by decide +kernel
theorem ml_280 : mL 280 = 3 := rfl
/-- M.wholes -/
def bl_281 : Tb := [
  (0, none, [.iconst 0, .istore 1, .iconst 0, .istore 2, .goto_w 4]),
  (4, some [0, 1, 2], [.iload 2, .aload 0, .getfield 2308, .if_icmp .ge 40, .iload 1, .aload 0, .getfield 2307, .iload 2, .invokestatic 29344, .iconst (-1), .if_icmp .ne 29, .iconst 0, .goto 32]),
  (29, none, [.iconst 1, .iload 2, .ishl, .ior, .istore 1, .iinc 2 1, .goto 4]),
  (32, none, [.ior, .istore 1, .iinc 2 1, .goto 4]),
  (40, none, [.iload 1, .ireturn])]
theorem tk_281 : bl_281.all (fun q => chk 281 q.1 q.2.2) = true := by decide +kernel
theorem py_281 : plainName (mN 281).cls = true := by decide +kernel
theorem ml_281 : mL 281 = 3 := rfl
/-- M.count -/
def bl_282 : Tb := [
  (0, none, [.aload 0, .iconst 0, .putfield 2336, .iload 1, .lookupswitch 169 #[(0, 76), (1, 81), (2, 86), (3, 94), (4, 102), (5, 112), (6, 123), (7, 134), (8, 139), (9, 144), (10, 149), (11, 154), (12, 159), (13, 164)]]),
  (76, none, [.aload 0, .getfield 2308, .ireturn]),
  (81, none, [.aload 0, .getfield 2312, .ireturn]),
  (86, none, [.aload 0, .getfield 2307, .iconst 48, .iaload, .ireturn]),
  (94, none, [.aload 0, .getfield 2307, .iconst 49, .iaload, .ireturn]),
  (102, none, [.aload 0, .aload 0, .getfield 2307, .iconst 0, .invokevirtual 25769, .ireturn]),
  (112, none, [.aload 0, .aload 0, .getfield 2307, .iconst 36, .invokevirtual 25769, .ireturn]),
  (123, none, [.aload 0, .aload 0, .getfield 2307, .iconst 42, .invokevirtual 25769, .ireturn]),
  (134, none, [.aload 0, .getfield 2424, .ireturn]),
  (139, none, [.aload 0, .getfield 2440, .ireturn]),
  (144, none, [.aload 0, .getfield 2388, .ireturn]),
  (149, none, [.aload 0, .getfield 2332, .ireturn]),
  (154, none, [.aload 0, .getfield 2324, .ireturn]),
  (159, none, [.aload 0, .invokevirtual 35849, .ireturn]),
  (164, none, [.aload 0, .invokevirtual 35977, .ireturn]),
  (169, none, [.iconst (-1), .ireturn])]
theorem tk_282 : bl_282.all (fun q => chk 282 q.1 q.2.2) = true := by decide +kernel
theorem py_282 : plainName (mN 282).cls = true := by decide +kernel
theorem ml_282 : mL 282 = 2 := rfl
/-- M.row -/
def bl_283 : Tb := [
  (0, none, [.aload 0, .iconst 0, .putfield 2336, .iload 1, .iconst 0, .aload 0, .getfield 2332, .iconst 1, .isub, .invokestatic 21424, .ifCond .eq 28, .aload 0, .getfield 2331, .iload 1, .laload, .goto 33]),
  (28, none, [.aload 0, .invokevirtual 21641, .i2l, .lreturn]),
  (33, none, [.lreturn])]
theorem tk_283 : bl_283.all (fun q => chk 283 q.1 q.2.2) = true := by decide +kernel
theorem py_283 : plainName (mN 283).cls = true := by decide +kernel
theorem ml_283 : mL 283 = 2 := rfl
/-- Integer.compare -/
def bl_284 : Tb := [
  (0, none, [.iload 0, .iload 1, .if_icmp .ge 9, .iconst (-1), .goto 19]),
  (9, none, [.iload 0, .iload 1, .if_icmp .ne 18, .iconst 0, .goto 19]),
  (18, none, [.iconst 1, .ireturn]),
  (19, none, [.ireturn])]
theorem tk_284 : bl_284.all (fun q => chk 284 q.1 q.2.2) = true := by decide +kernel
theorem py_284 : plainName (mN 284).cls = true := by decide +kernel
theorem ml_284 : mL 284 = 2 := rfl
/-- Integer.bitCount -/
def bl_285 : Tb := [
  (0, none, [.iload 0, .iload 0, .iconst 1, .iushr, .iconst 1431655765, .iand, .isub, .istore 0, .iload 0, .iconst 858993459, .iand, .iload 0, .iconst 2, .iushr, .iconst 858993459, .iand, .iadd, .istore 0, .iload 0, .iload 0, .iconst 4, .iushr, .iadd, .iconst 252645135, .iand, .istore 0, .iload 0, .iload 0, .iconst 8, .iushr, .iadd, .istore 0, .iload 0, .iload 0, .iconst 16, .iushr, .iadd, .istore 0, .iload 0, .iconst 63, .iand, .ireturn])]
theorem tk_285 : bl_285.all (fun q => chk 285 q.1 q.2.2) = true := by decide +kernel
theorem py_285 : plainName (mN 285).cls = true := by decide +kernel
theorem ml_285 : mL 285 = 1 := rfl
/-- Math.floorMod -/
def bl_286 : Tb := [
  (0, none, [.iload 0, .iload 1, .irem, .istore 2, .iload 0, .iload 1, .ixor, .ifCond .ge 18, .iload 2, .ifCond .eq 18, .iload 2, .iload 1, .iadd, .ireturn]),
  (18, none, [.iload 2, .ireturn])]
theorem tk_286 : bl_286.all (fun q => chk 286 q.1 q.2.2) = true := by decide +kernel
theorem py_286 : plainFor (mN 286) = true := by decide +kernel
theorem ml_286 : mL 286 = 3 := rfl
/-- Math.abs -/
def bl_287 : Tb := [
  (0, none, [.iload 0, .ifCond .ge 9, .iload 0, .ineg, .goto 10]),
  (9, none, [.iload 0, .ireturn]),
  (10, none, [.ireturn])]
theorem tk_287 : bl_287.all (fun q => chk 287 q.1 q.2.2) = true := by decide +kernel
theorem py_287 : plainFor (mN 287) = true := by decide +kernel
theorem ml_287 : mL 287 = 1 := rfl
/-- Math.max -/
def bl_288 : Tb := [
  (0, none, [.iload 0, .iload 1, .if_icmp .lt 9, .iload 0, .goto 10]),
  (9, none, [.iload 1, .ireturn]),
  (10, none, [.ireturn])]
theorem tk_288 : bl_288.all (fun q => chk 288 q.1 q.2.2) = true := by decide +kernel
theorem py_288 : plainFor (mN 288) = true := by decide +kernel
theorem ml_288 : mL 288 = 2 := rfl
/-- Math.min -/
def bl_289 : Tb := [
  (0, none, [.iload 0, .iload 1, .if_icmp .gt 9, .iload 0, .goto 10]),
  (9, none, [.iload 1, .ireturn]),
  (10, none, [.ireturn])]
theorem tk_289 : bl_289.all (fun q => chk 289 q.1 q.2.2) = true := by decide +kernel
theorem py_289 : plainFor (mN 289) = true := by decide +kernel
theorem ml_289 : mL 289 = 2 := rfl
/-- L.ship -/
def bl_290 : Tb := [
  (0, none, [.aload 3, .iconst 0, .aload 0, .iload 1, .iload 2, .invokevirtual 11432, .i2l, .lastore, .goto 17]),
  (17, none, [.iconst 0, .ireturn])]
theorem tk_290 : bl_290.all (fun q => chk 290 q.1 q.2.2) = true := by decide +kernel
theorem py_290 : plainName (mN 290).cls = true := by decide +kernel
theorem ml_290 : mL 290 = 5 := rfl
/-- L.row -/
def bl_291 : Tb := [
  (0, none, [.aload 2, .iconst 0, .aload 0, .iload 1, .invokevirtual 17176, .lastore, .goto 14]),
  (14, none, [.iconst 0, .ireturn])]
theorem tk_291 : bl_291.all (fun q => chk 291 q.1 q.2.2) = true := by decide +kernel
theorem py_291 : plainName (mN 291).cls = true := by decide +kernel
theorem ml_291 : mL 291 = 4 := rfl
