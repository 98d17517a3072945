/-! code lists in pieces, cut behind calls that change memory -/
/-- M.evens -/
def sg_249_61_1 : List Instr := .iconst 2 :: .aload 0 :: .iload 2 :: .invokevirtual 31769 :: .imul :: .iload 1 :: .isub :: .invokestatic 36752 :: .ireturn :: []
def bs_249 : Tb := [
  (0, none, .aload 0 :: .iconst 0 :: .putfield 2336 :: .aload 0 :: .aload 0 :: .invokevirtual 22281 :: .invokevirtual 31769 :: .istore 1 :: .iconst 0 :: .istore 2 :: .iconst 2 :: .istore 3 :: .goto_w 18 :: []),
  (18, some [0, 1, 2, 3], .iload 3 :: .aload 0 :: .invokevirtual 22281 :: .if_icmp .gt 61 :: .iconst 2 :: .aload 0 :: .iload 3 :: .invokevirtual 31769 :: .imul :: .iload 1 :: .isub :: .invokestatic 36752 :: .iconst 2 :: .aload 0 :: .iload 2 :: .invokevirtual 31769 :: .imul :: .iload 1 :: .isub :: .invokestatic 36752 :: .if_icmp .ge 55 :: .iload 3 :: .istore 2 :: .iinc 3 2 :: .goto 18 :: []),
  (55, none, .iinc 3 2 :: .goto 18 :: []),
  (61, none, .aload 0 :: .iconst 0 :: .putfield 2332 :: .aload 0 :: .iload 2 :: .i2l :: .invokevirtual 21785 :: sg_249_61_1)]
theorem ts_249 : bs_249.all (fun q => chk 249 q.1 q.2.2) = true := by decide +kernel
/-- M.worth -/
def sg_251_111_1 : List Instr := .iconst 0 :: .ireturn :: []
def bs_251 : Tb := [
  (0, none, .aload 0 :: .iconst 0 :: .putfield 2336 :: .aload 0 :: .iload 1 :: .invokevirtual 21913 :: .ifCond .ne 15 :: .iconst (-1) :: .ireturn :: []),
  (15, none, .aload 0 :: .aload 0 :: .invokevirtual 22281 :: .invokevirtual 31769 :: .istore 2 :: .ldc2_w 0 :: .lstore 3 :: .iconst 0 :: .istore 5 :: .goto_w 29 :: []),
  (29, some [0, 1, 2, 3, 5], .iload 5 :: .aload 0 :: .invokevirtual 22281 :: .if_icmp .gt 111 :: .iload 5 :: .iload 1 :: .invokestatic 21536 :: .ifCond .ne 105 :: .iconst 2 :: .aload 0 :: .iload 5 :: .invokevirtual 31769 :: .imul :: .iload 2 :: .if_icmp .gt 105 :: .iconst 2 :: .aload 0 :: .iload 5 :: .iconst 1 :: .iload 1 :: .ishl :: .ior :: .invokevirtual 31769 :: .imul :: .iload 2 :: .if_icmp .gt 78 :: .goto 105 :: []),
  (78, none, .lload 3 :: .iload 5 :: .invokestatic 36496 :: .invokestatic 32016 :: .aload 0 :: .getfield 2308 :: .iconst 1 :: .isub :: .iload 5 :: .invokestatic 36496 :: .isub :: .invokestatic 32016 :: .lmul :: .ladd :: .lstore 3 :: .iinc 5 1 :: .goto 29 :: []),
  (105, none, .iinc 5 1 :: .goto 29 :: []),
  (111, none, .aload 0 :: .lload 3 :: .aload 0 :: .getfield 2308 :: .invokestatic 32016 :: .invokevirtual 28969 :: sg_251_111_1)]
theorem ts_251 : bs_251.all (fun q => chk 251 q.1 q.2.2) = true := by decide +kernel
/-- M.patched -/
def sg_252_89_2 : List Instr := .iload 3 :: .ireturn :: []
def sg_252_89_1 : List Instr := .aload 0 :: .iload 4 :: .i2l :: .invokevirtual 21785 :: sg_252_89_2
def bs_252 : Tb := [
  (0, none, .aload 0 :: .iconst 0 :: .putfield 2336 :: .iload 1 :: .invokestatic 22160 :: .ifCond .eq 22 :: .iload 2 :: .iconst 0 :: .iconst 12 :: .invokestatic 21424 :: .ifCond .ne 24 :: .iconst (-1) :: .ireturn :: []),
  (22, none, .iconst (-1) :: .ireturn :: []),
  (24, none, .iconst 0 :: .istore 3 :: .iconst 0 :: .istore 4 :: .iconst 0 :: .istore 5 :: .goto_w 32 :: []),
  (32, some [0, 1, 2, 3, 4, 5], .iload 5 :: .aload 0 :: .getfield 2308 :: .if_icmp .ge 89 :: .iload 3 :: .aload 0 :: .getfield 2307 :: .iload 5 :: .iload 1 :: .invokestatic 22448 :: .iload 2 :: .if_icmp .lt 63 :: .iconst 1 :: .iload 5 :: .ishl :: .goto 64 :: []),
  (63, none, .iconst 0 :: .ior :: .istore 3 :: .iload 4 :: .aload 0 :: .getfield 2307 :: .iload 5 :: .iload 1 :: .invokestatic 22448 :: .invokestatic 36896 :: .istore 4 :: .iinc 5 1 :: .goto 32 :: []),
  (64, none, .ior :: .istore 3 :: .iload 4 :: .aload 0 :: .getfield 2307 :: .iload 5 :: .iload 1 :: .invokestatic 22448 :: .invokestatic 36896 :: .istore 4 :: .iinc 5 1 :: .goto 32 :: []),
  (89, none, .aload 0 :: .iconst 0 :: .putfield 2332 :: .aload 0 :: .iload 3 :: .invokestatic 36496 :: .i2l :: .invokevirtual 21785 :: sg_252_89_1)]
theorem ts_252 : bs_252.all (fun q => chk 252 q.1 q.2.2) = true := by decide +kernel
/-- M.fits0 -/
def sg_257_0_1 : List Instr := .iload 1 :: .ireturn :: []
def bs_257 : Tb := [
  (0, none, .aload 0 :: .iconst 0 :: .putfield 2336 :: .aload 0 :: .invokevirtual 32777 :: .istore 1 :: .aload 0 :: .iconst 0 :: .putfield 2332 :: .aload 0 :: .iload 1 :: .invokestatic 36496 :: .i2l :: .invokevirtual 21785 :: sg_257_0_1)]
theorem ts_257 : bs_257.all (fun q => chk 257 q.1 q.2.2) = true := by decide +kernel
/-- M.looks -/
def sg_258_121_1 : List Instr := .iload 2 :: .ireturn :: []
def bs_258 : Tb := [
  (0, none, .aload 0 :: .iconst 0 :: .putfield 2336 :: .aload 0 :: .invokevirtual 32777 :: .istore 1 :: .iload 1 :: .ifCond .ne 17 :: .iconst (-2) :: .ireturn :: []),
  (17, none, .iconst (-1) :: .istore 2 :: .iconst 1000000 :: .istore 3 :: .iconst 0 :: .istore 4 :: .goto_w 26 :: []),
  (26, some [0, 1, 2, 3, 4], .iload 4 :: .iconst 4 :: .if_icmp .ge 121 :: .iconst 0 :: .istore 5 :: .iconst 0 :: .istore 6 :: .goto_w 38 :: []),
  (38, some [0, 1, 2, 3, 4, 5, 6], .iload 6 :: .aload 0 :: .getfield 2308 :: .if_icmp .ge 86 :: .iload 5 :: .iload 1 :: .iload 6 :: .invokestatic 21536 :: .ifCond .eq 76 :: .aload 0 :: .getfield 2307 :: .iload 6 :: .iload 4 :: .invokestatic 22448 :: .ifCond .le 76 :: .iconst 1 :: .goto 77 :: []),
  (76, none, .iconst 0 :: .iadd :: .istore 5 :: .iinc 6 1 :: .goto 38 :: []),
  (77, none, .iadd :: .istore 5 :: .iinc 6 1 :: .goto 38 :: []),
  (86, none, .iload 5 :: .iload 1 :: .invokestatic 36496 :: .iload 5 :: .isub :: .invokestatic 36896 :: .istore 6 :: .iload 6 :: .iload 3 :: .if_icmp .lt 109 :: .goto 115 :: []),
  (109, none, .iload 4 :: .istore 2 :: .iload 6 :: .istore 3 :: .iinc 4 1 :: .goto 26 :: []),
  (115, none, .iinc 4 1 :: .goto 26 :: []),
  (121, none, .aload 0 :: .iconst 0 :: .putfield 2332 :: .aload 0 :: .iload 3 :: .i2l :: .invokevirtual 21785 :: sg_258_121_1)]
theorem ts_258 : bs_258.all (fun q => chk 258 q.1 q.2.2) = true := by decide +kernel
/-- M.laws -/
def sg_263_40_2 : List Instr := .iinc 1 1 :: .iinc 3 1 :: .goto 22 :: []
def sg_263_40_1 : List Instr := .aload 0 :: .iload 3 :: .i2l :: .invokevirtual 21785 :: sg_263_40_2
def bs_263 : Tb := [
  (0, none, .aload 0 :: .iconst 0 :: .putfield 2336 :: .iconst 0 :: .istore 1 :: .aload 0 :: .iconst 0 :: .putfield 2332 :: .iconst 0 :: .istore 2 :: .goto_w 14 :: []),
  (14, some [0, 1, 2], .iload 2 :: .iconst 12 :: .if_icmp .gt 71 :: .iconst 0 :: .istore 3 :: .goto_w 22 :: []),
  (22, some [0, 1, 2, 3], .iload 3 :: .iconst 12 :: .if_icmp .gt 65 :: .aload 0 :: .iload 2 :: .iload 3 :: .invokevirtual 33577 :: .ifCond .ne 40 :: .goto 59 :: []),
  (40, none, .iload 1 :: .ifCond .ne 56 :: .aload 0 :: .iload 2 :: .i2l :: .invokevirtual 21785 :: sg_263_40_1),
  (56, none, .iinc 1 1 :: .iinc 3 1 :: .goto 22 :: []),
  (59, none, .iinc 3 1 :: .goto 22 :: []),
  (65, none, .iinc 2 1 :: .goto 14 :: []),
  (71, none, .iload 1 :: .ireturn :: [])]
theorem ts_263 : bs_263.all (fun q => chk 263 q.1 q.2.2) = true := by decide +kernel
/-- M.asks -/
def sg_265_79_1 : List Instr := .iload 1 :: .ireturn :: []
def bs_265 : Tb := [
  (0, none, .aload 0 :: .iconst 0 :: .putfield 2336 :: .iconst (-1) :: .istore 1 :: .iconst 1000000 :: .istore 2 :: .iconst 0 :: .istore 3 :: .goto_w 13 :: []),
  (13, some [0, 1, 2, 3], .iload 3 :: .iconst 12 :: .if_icmp .gt 72 :: .iconst 0 :: .istore 4 :: .goto_w 22 :: []),
  (22, some [0, 1, 2, 3, 4], .iload 4 :: .iconst 12 :: .iload 3 :: .isub :: .if_icmp .gt 66 :: .aload 0 :: .iload 3 :: .iload 4 :: .invokevirtual 33833 :: .istore 5 :: .iload 5 :: .iload 2 :: .if_icmp .lt 49 :: .goto 60 :: []),
  (49, none, .iconst 13 :: .iload 3 :: .imul :: .iload 4 :: .iadd :: .istore 1 :: .iload 5 :: .istore 2 :: .iinc 4 1 :: .goto 22 :: []),
  (60, none, .iinc 4 1 :: .goto 22 :: []),
  (66, none, .iinc 3 1 :: .goto 13 :: []),
  (72, none, .iload 2 :: .ifCond .ne 79 :: .iconst (-2) :: .ireturn :: []),
  (79, none, .aload 0 :: .iconst 0 :: .putfield 2332 :: .aload 0 :: .iload 2 :: .i2l :: .invokevirtual 21785 :: sg_265_79_1)]
theorem ts_265 : bs_265.all (fun q => chk 265 q.1 q.2.2) = true := by decide +kernel
/-- M.treaty -/
def sg_268_100_2 : List Instr := .iconst 1 :: .ireturn :: []
def sg_268_100_1 : List Instr := .aload 0 :: .iload 3 :: .iconst 31 :: .irem :: .i2l :: .invokevirtual 21785 :: sg_268_100_2
def bs_268 : Tb := [
  (0, none, .aload 0 :: .iconst 0 :: .putfield 2336 :: .iload 1 :: .iconst 0 :: .iconst 30 :: .invokestatic 21424 :: .ifCond .eq 25 :: .iload 2 :: .iconst 0 :: .iconst 30 :: .invokestatic 21424 :: .ifCond .ne 27 :: .iconst (-1) :: .ireturn :: []),
  (25, none, .iconst (-1) :: .ireturn :: []),
  (27, none, .iconst 0 :: .istore 3 :: .goto_w 29 :: []),
  (29, some [0, 1, 2, 3], .iload 3 :: .iload 1 :: .if_icmp .gt 82 :: .iconst 0 :: .istore 4 :: .goto_w 37 :: []),
  (37, some [0, 1, 2, 3, 4], .iload 4 :: .iload 2 :: .if_icmp .gt 76 :: .aload 0 :: .getfield 2447 :: .iconst 31 :: .iload 3 :: .imul :: .iload 4 :: .iadd :: .aload 0 :: .iload 3 :: .iload 4 :: .invokevirtual 34217 :: .ifCond .ne 68 :: .iconst 1 :: .goto 69 :: []),
  (68, none, .iconst 0 :: .sastore :: .iinc 4 1 :: .goto 37 :: []),
  (69, none, .sastore :: .iinc 4 1 :: .goto 37 :: []),
  (76, none, .iinc 3 1 :: .goto 29 :: []),
  (82, none, .aload 0 :: .iload 1 :: .iload 2 :: .invokevirtual 34217 :: .istore 3 :: .aload 0 :: .iconst 0 :: .putfield 2332 :: .iload 3 :: .ifCond .ne 100 :: .iconst 0 :: .ireturn :: []),
  (100, none, .aload 0 :: .iload 3 :: .iconst 31 :: .idiv :: .i2l :: .invokevirtual 21785 :: sg_268_100_1)]
theorem ts_268 : bs_268.all (fun q => chk 268 q.1 q.2.2) = true := by decide +kernel
/-- M.series -/
def sg_270_122_1 : List Instr := .iconst 0 :: .ireturn :: []
def bs_270 : Tb := [
  (0, none, .aload 0 :: .iconst 0 :: .putfield 2336 :: .iload 1 :: .iconst 1 :: .iconst 8 :: .invokestatic 21424 :: .ifCond .eq 35 :: .iload 2 :: .iconst 1 :: .iconst 8 :: .invokestatic 21424 :: .ifCond .eq 35 :: .iload 3 :: .iconst 0 :: .iconst 10 :: .invokestatic 21424 :: .ifCond .ne 37 :: .iconst (-1) :: .ireturn :: []),
  (35, none, .iconst (-1) :: .ireturn :: []),
  (37, none, .iload 1 :: .iload 2 :: .iadd :: .iconst 1 :: .isub :: .istore 4 :: .ldc2_w 0 :: .lstore 5 :: .ldc2_w 1 :: .lstore 7 :: .iconst 0 :: .istore 9 :: .goto_w 53 :: []),
  (53, some [0, 1, 3, 4, 5, 7, 9], .iload 9 :: .iload 4 :: .if_icmp .gt 122 :: .lload 5 :: .iload 9 :: .iload 1 :: .if_icmp .lt 95 :: .lload 7 :: .iload 3 :: .i2l :: .iload 9 :: .invokestatic 34464 :: .lmul :: .iconst 10 :: .iload 3 :: .isub :: .i2l :: .iload 4 :: .iload 9 :: .isub :: .invokestatic 34464 :: .lmul :: .goto 96 :: []),
  (95, none, .ldc2_w 0 :: .ladd :: .lstore 5 :: .lload 7 :: .iload 4 :: .iload 9 :: .isub :: .i2l :: .lmul :: .iload 9 :: .iconst 1 :: .iadd :: .i2l :: .ldiv :: .lstore 7 :: .iinc 9 1 :: .goto 53 :: []),
  (96, none, .ladd :: .lstore 5 :: .lload 7 :: .iload 4 :: .iload 9 :: .isub :: .i2l :: .lmul :: .iload 9 :: .iconst 1 :: .iadd :: .i2l :: .ldiv :: .lstore 7 :: .iinc 9 1 :: .goto 53 :: []),
  (122, none, .aload 0 :: .lload 5 :: .ldc2_w 10 :: .iload 4 :: .invokestatic 34464 :: .invokevirtual 28969 :: sg_270_122_1)]
theorem ts_270 : bs_270.all (fun q => chk 270 q.1 q.2.2) = true := by decide +kernel
/-- M.rests -/
def sg_273_65_2 : List Instr := .iinc 2 1 :: .iinc 4 1 :: .goto 35 :: []
def sg_273_65_1 : List Instr := .aload 0 :: .iload 4 :: .i2l :: .invokevirtual 21785 :: sg_273_65_2
def bs_273 : Tb := [
  (0, none, .aload 0 :: .iconst 0 :: .putfield 2336 :: .iload 1 :: .iconst 0 :: .iconst 20 :: .invokestatic 21424 :: .ifCond .ne 17 :: .iconst (-1) :: .ireturn :: []),
  (17, none, .iconst 0 :: .istore 2 :: .aload 0 :: .iconst 0 :: .putfield 2332 :: .iconst 0 :: .istore 3 :: .goto_w 26 :: []),
  (26, some [0, 1, 2, 3], .iload 3 :: .iconst 9 :: .if_icmp .gt 97 :: .iconst 0 :: .istore 4 :: .goto_w 35 :: []),
  (35, some [0, 1, 2, 3, 4], .iload 4 :: .iconst 9 :: .if_icmp .gt 91 :: .iload 3 :: .iload 4 :: .iload 1 :: .invokestatic 34864 :: .ifCond .eq 85 :: .iload 4 :: .iload 3 :: .iload 1 :: .invokestatic 34864 :: .ifCond .ne 65 :: .goto 85 :: []),
  (65, none, .iload 2 :: .ifCond .ne 82 :: .aload 0 :: .iload 3 :: .i2l :: .invokevirtual 21785 :: sg_273_65_1),
  (82, none, .iinc 2 1 :: .iinc 4 1 :: .goto 35 :: []),
  (85, none, .iinc 4 1 :: .goto 35 :: []),
  (91, none, .iinc 3 1 :: .goto 26 :: []),
  (97, none, .iload 2 :: .ireturn :: [])]
theorem ts_273 : bs_273.all (fun q => chk 273 q.1 q.2.2) = true := by decide +kernel
/-- M.lesserWins -/
def sg_274_16_1 : List Instr := .iload 2 :: .if_icmp .ne 43 :: .iconst 1 :: .goto 44 :: []
def bs_274 : Tb := [
  (0, none, .iconst 0 :: .istore 1 :: .iconst 0 :: .istore 2 :: .goto_w 4 :: []),
  (4, some [0, 1, 2], .iload 2 :: .aload 0 :: .getfield 2308 :: .if_icmp .ge 58 :: .iload 2 :: .iconst 1 :: .iadd :: .istore 3 :: .goto_w 16 :: []),
  (16, some [0, 1, 2, 3], .iload 3 :: .aload 0 :: .getfield 2308 :: .if_icmp .ge 52 :: .iload 1 :: .aload 0 :: .aload 0 :: .getfield 2307 :: .iload 2 :: .iload 3 :: .invokevirtual 26425 :: sg_274_16_1),
  (43, none, .iconst 0 :: .iadd :: .istore 1 :: .iinc 3 1 :: .goto 16 :: []),
  (44, none, .iadd :: .istore 1 :: .iinc 3 1 :: .goto 16 :: []),
  (52, none, .iinc 2 1 :: .goto 4 :: []),
  (58, none, .iload 1 :: .ireturn :: [])]
theorem ts_274 : bs_274.all (fun q => chk 274 q.1 q.2.2) = true := by decide +kernel
/-- M.law -/
def sg_275_0_1 : List Instr := .ifCond .ne 26 :: .iconst (-10000) :: .aload 0 :: .getfield 2356 :: .isub :: .ireturn :: []
def sg_275_26_1 : List Instr := .istore 2 :: .aload 0 :: .getfield 2366 :: .astore 3 :: .aload 0 :: .getfield 2372 :: .istore 4 :: .aload 0 :: .aload 0 :: .getfield 2370 :: .putfield 2366 :: .aload 0 :: .iload 1 :: .putfield 2372 :: .iconst 0 :: .istore 5 :: .goto_w 58 :: []
def sg_275_84_3 : List Instr := .iload 5 :: .iload 2 :: .isub :: .ireturn :: []
def sg_275_84_2 : List Instr := .aload 0 :: .iload 2 :: .i2l :: .invokevirtual 21785 :: sg_275_84_3
def sg_275_84_1 : List Instr := .istore 5 :: .aload 0 :: .aload 3 :: .putfield 2366 :: .aload 0 :: .iload 4 :: .putfield 2372 :: .aload 0 :: .iconst 0 :: .putfield 2332 :: .aload 0 :: .iload 5 :: .i2l :: .invokevirtual 21785 :: sg_275_84_2
def bs_275 : Tb := [
  (0, none, .aload 0 :: .iconst 0 :: .putfield 2336 :: .aload 0 :: .getfield 2324 :: .istore 1 :: .aload 0 :: .invokevirtual 24969 :: sg_275_0_1),
  (26, none, .aload 0 :: .invokevirtual 35081 :: sg_275_26_1),
  (58, some [0, 1, 2, 3, 4, 5], .iload 5 :: .iload 1 :: .if_icmp .ge 84 :: .aload 0 :: .getfield 2366 :: .iload 5 :: .aload 0 :: .getfield 2323 :: .iload 5 :: .baload :: .bastore :: .iinc 5 1 :: .goto 58 :: []),
  (84, none, .aload 0 :: .invokevirtual 35081 :: sg_275_84_1)]
theorem ts_275 : bs_275.all (fun q => chk 275 q.1 q.2.2) = true := by decide +kernel
/-- M.years -/
def sg_277_17_1 : List Instr := .aload 0 :: .getfield 2399 :: .iconst 49 :: .iconst 0 :: .iastore :: .iconst 0 :: .istore 3 :: .goto_w 44 :: []
def sg_277_44_2 : List Instr := .iload 4 :: .ifCond .eq 174 :: .aload 0 :: .getfield 2308 :: .ifCond .ne 84 :: .goto 174 :: []
def sg_277_44_1 : List Instr := .istore 4 :: .iload 4 :: .ifCond .ne 69 :: .aload 0 :: .aload 0 :: .getfield 2399 :: .invokevirtual 26905 :: sg_277_44_2
def sg_277_84_1 : List Instr := .istore 5 :: .aload 0 :: .iload 4 :: .iconst 3 :: .if_icmp .ne 105 :: .iconst 4 :: .goto 109 :: []
def sg_277_105_3 : List Instr := .pop :: .iinc 3 1 :: .goto 44 :: []
def sg_277_105_2 : List Instr := .iload 4 :: .iconst 3 :: .if_icmp .ge 174 :: .iload 5 :: .iload 6 :: .if_icmp .eq 174 :: .aload 0 :: .aload 0 :: .getfield 2399 :: .iload 5 :: .iload 6 :: .invokevirtual 26553 :: sg_277_105_3
def sg_277_105_1 : List Instr := .istore 6 :: .iload 4 :: .iconst 3 :: .if_icmp .ne 148 :: .aload 0 :: .aload 0 :: .getfield 2399 :: .iload 5 :: .iload 6 :: .iconst 1 :: .invokevirtual 27465 :: .ifCond .ne 148 :: .aload 0 :: .getfield 2399 :: .iload 5 :: .iload 6 :: .iconst 1 :: .invokestatic 27584 :: sg_277_105_2
def sg_277_109_3 : List Instr := .pop :: .iinc 3 1 :: .goto 44 :: []
def sg_277_109_2 : List Instr := .iload 4 :: .iconst 3 :: .if_icmp .ge 174 :: .iload 5 :: .iload 6 :: .if_icmp .eq 174 :: .aload 0 :: .aload 0 :: .getfield 2399 :: .iload 5 :: .iload 6 :: .invokevirtual 26553 :: sg_277_109_3
def sg_277_109_1 : List Instr := .istore 6 :: .iload 4 :: .iconst 3 :: .if_icmp .ne 148 :: .aload 0 :: .aload 0 :: .getfield 2399 :: .iload 5 :: .iload 6 :: .iconst 1 :: .invokevirtual 27465 :: .ifCond .ne 148 :: .aload 0 :: .getfield 2399 :: .iload 5 :: .iload 6 :: .iconst 1 :: .invokestatic 27584 :: sg_277_109_2
def sg_277_148_1 : List Instr := .pop :: .iinc 3 1 :: .goto 44 :: []
def sg_277_180_2 : List Instr := .aload 0 :: .getfield 2399 :: .iconst 49 :: .iaload :: .ireturn :: []
def sg_277_180_1 : List Instr := .aload 0 :: .aload 0 :: .aload 0 :: .getfield 2399 :: .iconst 36 :: .invokevirtual 25769 :: .i2l :: .invokevirtual 21785 :: sg_277_180_2
def bs_277 : Tb := [
  (0, none, .aload 0 :: .iconst 0 :: .putfield 2336 :: .iload 2 :: .iconst 1 :: .iconst 60 :: .invokestatic 21424 :: .ifCond .ne 17 :: .iconst (-1) :: .ireturn :: []),
  (17, none, .aload 0 :: .iload 1 :: .putfield 2448 :: .aload 0 :: .getfield 2307 :: .aload 0 :: .getfield 2399 :: .iconst 0 :: .invokestatic 26032 :: sg_277_17_1),
  (44, some [0, 2, 3], .iload 3 :: .iload 2 :: .if_icmp .ge 180 :: .aload 0 :: .iconst 4 :: .invokevirtual 35353 :: sg_277_44_1),
  (69, none, .iload 4 :: .ifCond .eq 174 :: .aload 0 :: .getfield 2308 :: .ifCond .ne 84 :: .goto 174 :: []),
  (84, none, .aload 0 :: .aload 0 :: .getfield 2308 :: .invokevirtual 35353 :: sg_277_84_1),
  (105, none, .aload 0 :: .getfield 2308 :: .invokevirtual 35353 :: sg_277_105_1),
  (109, none, .invokevirtual 35353 :: sg_277_109_1),
  (148, none, .iload 4 :: .iconst 3 :: .if_icmp .ge 174 :: .iload 5 :: .iload 6 :: .if_icmp .eq 174 :: .aload 0 :: .aload 0 :: .getfield 2399 :: .iload 5 :: .iload 6 :: .invokevirtual 26553 :: sg_277_148_1),
  (174, none, .iinc 3 1 :: .goto 44 :: []),
  (180, none, .aload 0 :: .iconst 0 :: .putfield 2332 :: .aload 0 :: .aload 0 :: .aload 0 :: .getfield 2399 :: .iconst 0 :: .invokevirtual 25769 :: .i2l :: .invokevirtual 21785 :: sg_277_180_1)]
theorem ts_277 : bs_277.all (fun q => chk 277 q.1 q.2.2) = true := by decide +kernel
/-- M.keep -/
def sg_278_16_1 : List Instr := .iconst 1 :: .freturn :: []
def bs_278 : Tb := [
  (0, none, .aload 0 :: .iconst 0 :: .putfield 2336 :: .iload 1 :: .iconst 0 :: .iconst 1 :: .invokestatic 21424 :: .ifCond .ne 16 :: .iconst 0 :: .freturn :: []),
  (16, none, .aload 0 :: .getfield 2463 :: .iload 1 :: .iconst 1 :: .sastore :: .aload 0 :: .getfield 2467 :: .iload 1 :: .aload 0 :: .getfield 2452 :: .iastore :: .aload 0 :: .getfield 2307 :: .aload 0 :: .getfield 2459 :: .iconst 50 :: .iload 1 :: .imul :: .invokestatic 26032 :: sg_278_16_1)]
theorem ts_278 : bs_278.all (fun q => chk 278 q.1 q.2.2) = true := by decide +kernel
/-- M.row -/
def sg_283_28_1 : List Instr := .i2l :: .lreturn :: []
def bs_283 : Tb := [
  (0, none, .aload 0 :: .iconst 0 :: .putfield 2336 :: .iload 1 :: .iconst 0 :: .aload 0 :: .getfield 2332 :: .iconst 1 :: .isub :: .invokestatic 21424 :: .ifCond .eq 28 :: .aload 0 :: .getfield 2331 :: .iload 1 :: .laload :: .goto 33 :: []),
  (28, none, .aload 0 :: .invokevirtual 21641 :: sg_283_28_1),
  (33, none, .lreturn :: [])]
theorem ts_283 : bs_283.all (fun q => chk 283 q.1 q.2.2) = true := by decide +kernel
/-- L.ship -/
def sg_290_0_1 : List Instr := .i2l :: .lastore :: .goto 17 :: []
def bs_290 : Tb := [
  (0, none, .aload 3 :: .iconst 0 :: .aload 0 :: .iload 1 :: .iload 2 :: .invokevirtual 11432 :: sg_290_0_1),
  (17, none, .iconst 0 :: .ireturn :: [])]
theorem ts_290 : bs_290.all (fun q => chk 290 q.1 q.2.2) = true := by decide +kernel
/-- L.row -/
def sg_291_0_1 : List Instr := .lastore :: .goto 14 :: []
def bs_291 : Tb := [
  (0, none, .aload 2 :: .iconst 0 :: .aload 0 :: .iload 1 :: .invokevirtual 17176 :: sg_291_0_1),
  (14, none, .iconst 0 :: .ireturn :: [])]
theorem ts_291 : bs_291.all (fun q => chk 291 q.1 q.2.2) = true := by decide +kernel
