/-! code lists in pieces, cut behind calls that change memory -/
/-- M.product -/
def sg_192_0_1 : List Instr := .istore 2 :: .goto_w 6 :: []
def sg_192_44_1 : List Instr := .istore 4 :: .iload 3 :: .ifCond .eq 74 :: .iload 2 :: .iload 4 :: .imul :: .goto 87 :: []
def sg_192_45_1 : List Instr := .istore 4 :: .iload 3 :: .ifCond .eq 74 :: .iload 2 :: .iload 4 :: .imul :: .goto 87 :: []
def bs_192 : Tb := [
  (0, none, .aload 0 :: .iload 1 :: .invokevirtual 24857 :: sg_192_0_1),
  (6, some [0, 1, 2], .aload 0 :: .invokevirtual 23305 :: .ifCond .eq 91 :: .aload 0 :: .invokevirtual 23177 :: .iconst 42 :: .if_icmp .eq 31 :: .aload 0 :: .invokevirtual 23177 :: .iconst 47 :: .if_icmp .ne 91 :: .aload 0 :: .invokevirtual 23177 :: .iconst 42 :: .if_icmp .ne 44 :: .iconst 1 :: .goto 45 :: []),
  (31, none, .aload 0 :: .invokevirtual 23177 :: .iconst 42 :: .if_icmp .ne 44 :: .iconst 1 :: .goto 45 :: []),
  (44, none, .iconst 0 :: .istore 3 :: .aload 0 :: .dup :: .getfield 2352 :: .iconst 1 :: .iadd :: .putfield 2352 :: .aload 0 :: .iload 1 :: .invokevirtual 24857 :: sg_192_44_1),
  (45, none, .istore 3 :: .aload 0 :: .dup :: .getfield 2352 :: .iconst 1 :: .iadd :: .putfield 2352 :: .aload 0 :: .iload 1 :: .invokevirtual 24857 :: sg_192_45_1),
  (74, none, .iload 4 :: .ifCond .ne 83 :: .iconst 0 :: .goto 87 :: []),
  (83, none, .iload 2 :: .iload 4 :: .idiv :: .istore 2 :: .goto 6 :: []),
  (87, none, .istore 2 :: .goto 6 :: []),
  (91, none, .iload 2 :: .ireturn :: [])]
theorem ts_192 : bs_192.all (fun q => chk 192 q.1 q.2.2) = true := by decide +kernel
/-- M.thing -/
def sg_194_0_2 : List Instr := .ineg :: .ireturn :: []
def sg_194_0_1 : List Instr := .ifCond .eq 16 :: .aload 0 :: .iload 1 :: .invokevirtual 24857 :: sg_194_0_2
def sg_194_25_2 : List Instr := .iload 3 :: .ireturn :: []
def sg_194_25_1 : List Instr := .istore 3 :: .aload 0 :: .iconst 41 :: .invokevirtual 23705 :: sg_194_25_2
def sg_194_67_1 : List Instr := .ireturn :: []
def sg_194_84_1 : List Instr := .iconst 0 :: .ireturn :: []
def bs_194 : Tb := [
  (0, none, .aload 0 :: .iconst 45 :: .invokevirtual 23577 :: sg_194_0_1),
  (16, none, .aload 0 :: .invokevirtual 23305 :: .ifCond .ne 25 :: .iconst 0 :: .ireturn :: []),
  (25, none, .aload 0 :: .invokevirtual 23177 :: .istore 2 :: .iload 2 :: .iconst 40 :: .if_icmp .ne 67 :: .iload 1 :: .iconst 4 :: .if_icmp .ge 67 :: .aload 0 :: .dup :: .getfield 2352 :: .iconst 1 :: .iadd :: .putfield 2352 :: .aload 0 :: .iload 1 :: .iconst 1 :: .iadd :: .invokevirtual 24345 :: sg_194_25_1),
  (67, none, .iload 2 :: .iconst 48 :: .iconst 57 :: .invokestatic 21424 :: .ifCond .eq 84 :: .aload 0 :: .iconst 3 :: .invokevirtual 23961 :: sg_194_67_1),
  (84, none, .iload 2 :: .invokestatic 24720 :: .iconst (-1) :: .if_icmp .ne 102 :: .aload 0 :: .aload 0 :: .getfield 2352 :: .invokevirtual 23449 :: sg_194_84_1),
  (102, none, .aload 0 :: .dup :: .getfield 2352 :: .iconst 1 :: .iadd :: .putfield 2352 :: .aload 0 :: .getfield 2377 :: .ifCond .eq 131 :: .aload 0 :: .getfield 2383 :: .iload 2 :: .invokestatic 24720 :: .iaload :: .goto 132 :: []),
  (131, none, .iconst 0 :: .ireturn :: []),
  (132, none, .ireturn :: [])]
theorem ts_194 : bs_194.all (fun q => chk 194 q.1 q.2.2) = true := by decide +kernel
/-- M.readRule -/
def sg_195_0_3 : List Instr := .freturn :: []
def sg_195_0_2 : List Instr := .pop :: .aload 0 :: .invokevirtual 24073 :: sg_195_0_3
def sg_195_0_1 : List Instr := .aload 0 :: .iconst 0 :: .putfield 2377 :: .aload 0 :: .getfield 2344 :: .ifCond .le 24 :: .aload 0 :: .iconst 0 :: .invokevirtual 24345 :: sg_195_0_2
def sg_195_24_1 : List Instr := .freturn :: []
def bs_195 : Tb := [
  (0, none, .aload 0 :: .iconst 40 :: .invokevirtual 23065 :: sg_195_0_1),
  (24, none, .aload 0 :: .invokevirtual 24073 :: sg_195_24_1)]
theorem ts_195 : bs_195.all (fun q => chk 195 q.1 q.2.2) = true := by decide +kernel
/-- M.rule -/
def sg_196_0_1 : List Instr := .ifCond .ne 24 :: .iconst (-1) :: .aload 0 :: .getfield 2356 :: .isub :: .ireturn :: []
def bs_196 : Tb := [
  (0, none, .aload 0 :: .iconst 0 :: .putfield 2336 :: .aload 0 :: .getfield 2324 :: .istore 1 :: .aload 0 :: .invokevirtual 24969 :: sg_196_0_1),
  (24, none, .iconst 0 :: .istore 2 :: .goto_w 26 :: []),
  (26, some [0, 1, 2], .iload 2 :: .iload 1 :: .if_icmp .ge 49 :: .aload 0 :: .getfield 2366 :: .iload 2 :: .aload 0 :: .getfield 2323 :: .iload 2 :: .baload :: .bastore :: .iinc 2 1 :: .goto 26 :: []),
  (49, none, .aload 0 :: .iload 1 :: .putfield 2372 :: .iconst 0 :: .ireturn :: [])]
theorem ts_196 : bs_196.all (fun q => chk 196 q.1 q.2.2) = true := by decide +kernel
/-- M.forceOf -/
def sg_197_35_2 : List Instr := .istore 5 :: .aload 0 :: .iconst 0 :: .putfield 2377 :: .iload 5 :: .ireturn :: []
def sg_197_35_1 : List Instr := .aload 0 :: .iconst 1 :: .putfield 2377 :: .aload 0 :: .iconst 0 :: .invokevirtual 24345 :: sg_197_35_2
def bs_197 : Tb := [
  (0, none, .aload 1 :: .iload 2 :: .aload 1 :: .iconst 6 :: .iload 3 :: .iadd :: .iaload :: .invokestatic 22448 :: .istore 4 :: .aload 0 :: .getfield 2372 :: .ifCond .ne 35 :: .aload 1 :: .iload 2 :: .iaload :: .iconst 2 :: .imul :: .aload 1 :: .iload 2 :: .invokestatic 22560 :: .iadd :: .iload 4 :: .isub :: .ireturn :: []),
  (35, none, .aload 0 :: .getfield 2383 :: .iconst 0 :: .aload 1 :: .iload 2 :: .iaload :: .iastore :: .aload 0 :: .getfield 2383 :: .iconst 1 :: .aload 1 :: .iload 2 :: .invokestatic 22560 :: .iastore :: .aload 0 :: .getfield 2383 :: .iconst 2 :: .iload 4 :: .iastore :: .aload 0 :: .getfield 2383 :: .iconst 3 :: .aload 1 :: .iconst 36 :: .iload 2 :: .iadd :: .iaload :: .iastore :: .aload 0 :: .getfield 2383 :: .iconst 4 :: .aload 1 :: .iconst 42 :: .iload 2 :: .iadd :: .iaload :: .iastore :: .aload 0 :: .getfield 2383 :: .iconst 5 :: .aload 1 :: .iconst 48 :: .iaload :: .iconst 7 :: .irem :: .iastore :: .aload 0 :: .aload 0 :: .getfield 2366 :: .aload 0 :: .getfield 2372 :: .iconst 40 :: .invokevirtual 22969 :: sg_197_35_1)]
theorem ts_197 : bs_197.all (fun q => chk 197 q.1 q.2.2) = true := by decide +kernel
/-- M.ship -/
def sg_198_0_1 : List Instr := .ireturn :: []
def sg_198_23_1 : List Instr := .ireturn :: []
def bs_198 : Tb := [
  (0, none, .aload 0 :: .iconst 0 :: .putfield 2336 :: .aload 0 :: .iload 1 :: .invokevirtual 21913 :: .ifCond .eq 23 :: .iload 2 :: .iconst 0 :: .iconst 8 :: .invokestatic 21424 :: .ifCond .ne 28 :: .aload 0 :: .invokevirtual 21641 :: sg_198_0_1),
  (23, none, .aload 0 :: .invokevirtual 21641 :: sg_198_23_1),
  (28, none, .iload 2 :: .lookupswitch 124 #[(0, 80), (1, 87), (2, 94), (3, 124), (4, 124), (5, 124), (6, 124), (7, 104), (8, 114)] :: []),
  (80, none, .aload 0 :: .getfield 2319 :: .iload 1 :: .iaload :: .ireturn :: []),
  (87, none, .aload 0 :: .getfield 2307 :: .iload 1 :: .iaload :: .ireturn :: []),
  (94, none, .aload 0 :: .getfield 2307 :: .iconst 6 :: .iload 1 :: .iadd :: .iaload :: .ireturn :: []),
  (104, none, .aload 0 :: .getfield 2307 :: .iconst 36 :: .iload 1 :: .iadd :: .iaload :: .ireturn :: []),
  (114, none, .aload 0 :: .getfield 2307 :: .iconst 42 :: .iload 1 :: .iadd :: .iaload :: .ireturn :: []),
  (124, none, .aload 0 :: .getfield 2307 :: .iload 1 :: .iload 2 :: .iconst 3 :: .isub :: .invokestatic 22448 :: .ireturn :: [])]
theorem ts_198 : bs_198.all (fun q => chk 198 q.1 q.2.2) = true := by decide +kernel
/-- M.force -/
def sg_199_0_1 : List Instr := .invokestatic 37024 :: .invokestatic 36896 :: .iadd :: .goto 44 :: []
def bs_199 : Tb := [
  (0, none, .aload 0 :: .iconst 0 :: .putfield 2336 :: .aload 0 :: .iload 1 :: .iload 2 :: .invokevirtual 22057 :: .ifCond .eq 43 :: .iconst 1000 :: .iconst (-999) :: .iconst 999 :: .aload 0 :: .aload 0 :: .getfield 2307 :: .iload 1 :: .iload 2 :: .invokevirtual 25273 :: sg_199_0_1),
  (43, none, .iconst (-1) :: .ireturn :: []),
  (44, none, .ireturn :: [])]
theorem ts_199 : bs_199.all (fun q => chk 199 q.1 q.2.2) = true := by decide +kernel
/-- M.remember -/
def sg_204_39_1 : List Instr := .aload 0 :: .dup :: .getfield 2388 :: .iconst 1 :: .iadd :: .putfield 2388 :: .return_ :: []
def sg_204_49_1 : List Instr := .aload 0 :: .dup :: .getfield 2388 :: .iconst 1 :: .iadd :: .putfield 2388 :: .return_ :: []
def bs_204 : Tb := [
  (0, none, .aload 0 :: .getfield 2388 :: .iconst 12 :: .if_icmp .ne 49 :: .iconst 0 :: .istore 2 :: .goto_w 11 :: []),
  (11, some [0, 1, 2], .iload 2 :: .iconst 550 :: .if_icmp .ge 39 :: .aload 0 :: .getfield 2387 :: .iload 2 :: .aload 0 :: .getfield 2387 :: .iload 2 :: .iconst 50 :: .iadd :: .iaload :: .iastore :: .iinc 2 1 :: .goto 11 :: []),
  (39, none, .aload 0 :: .dup :: .getfield 2388 :: .iconst 1 :: .isub :: .putfield 2388 :: .aload 1 :: .aload 0 :: .getfield 2387 :: .iconst 50 :: .aload 0 :: .getfield 2388 :: .imul :: .invokestatic 26032 :: sg_204_39_1),
  (49, none, .aload 1 :: .aload 0 :: .getfield 2387 :: .iconst 50 :: .aload 0 :: .getfield 2388 :: .imul :: .invokestatic 26032 :: sg_204_49_1)]
theorem ts_204 : bs_204.all (fun q => chk 204 q.1 q.2.2) = true := by decide +kernel
/-- M.winnerOf -/
def sg_206_18_2 : List Instr := .invokestatic 36384 :: .istore 4 :: .iload 4 :: .ifCond .ne 47 :: .iconst (-3) :: .goto 57 :: []
def sg_206_18_1 : List Instr := .aload 0 :: .aload 1 :: .iload 3 :: .iload 2 :: .invokevirtual 25273 :: sg_206_18_2
def bs_206 : Tb := [
  (0, none, .aload 1 :: .iconst 6 :: .iload 2 :: .iadd :: .iaload :: .aload 1 :: .iconst 6 :: .iload 3 :: .iadd :: .iaload :: .if_icmp .ne 18 :: .iconst (-2) :: .ireturn :: []),
  (18, none, .aload 0 :: .aload 1 :: .iload 2 :: .iload 3 :: .invokevirtual 25273 :: sg_206_18_1),
  (47, none, .iload 4 :: .ifCond .le 56 :: .iload 2 :: .goto 57 :: []),
  (56, none, .iload 3 :: .ireturn :: []),
  (57, none, .ireturn :: [])]
theorem ts_206 : bs_206.all (fun q => chk 206 q.1 q.2.2) = true := by decide +kernel
/-- M.goFight -/
def sg_207_0_1 : List Instr := .istore 4 :: .iload 4 :: .ifCond .ge 17 :: .iload 4 :: .ireturn :: []
def sg_207_27_2 : List Instr := .iload 4 :: .ireturn :: []
def sg_207_27_1 : List Instr := .aload 1 :: .iload 5 :: .invokestatic 26272 :: sg_207_27_2
def sg_207_28_2 : List Instr := .iload 4 :: .ireturn :: []
def sg_207_28_1 : List Instr := .aload 1 :: .iload 5 :: .invokestatic 26272 :: sg_207_28_2
def bs_207 : Tb := [
  (0, none, .aload 0 :: .aload 1 :: .iload 2 :: .iload 3 :: .invokevirtual 26425 :: sg_207_0_1),
  (17, none, .iload 4 :: .iload 2 :: .if_icmp .ne 27 :: .iload 3 :: .goto 28 :: []),
  (27, none, .iload 2 :: .istore 5 :: .iconst 12 :: .iconst 4 :: .iload 4 :: .imul :: .iadd :: .istore 6 :: .aload 0 :: .getfield 2312 :: .aload 1 :: .iload 4 :: .invokestatic 22560 :: .invokestatic 37024 :: .istore 7 :: .aload 1 :: .iload 6 :: .aload 1 :: .iconst 6 :: .iload 4 :: .iadd :: .iaload :: .iadd :: .dup2 :: .iaload :: .iload 7 :: .isub :: .iastore :: .aload 1 :: .iload 6 :: .aload 1 :: .iconst 6 :: .iload 5 :: .iadd :: .iaload :: .iadd :: .dup2 :: .iaload :: .iload 7 :: .iadd :: .iastore :: .aload 1 :: .iconst 36 :: .iload 4 :: .iadd :: .iconst 99 :: .aload 1 :: .iconst 36 :: .iload 4 :: .iadd :: .iaload :: .iconst 1 :: .iadd :: .invokestatic 37024 :: .iastore :: .aload 1 :: .iload 5 :: .iconst 0 :: .aload 1 :: .iload 5 :: .iaload :: .iconst 1 :: .isub :: .invokestatic 36896 :: .iastore :: .aload 1 :: .iconst 42 :: .iload 5 :: .iadd :: .iconst 99 :: .aload 1 :: .iconst 42 :: .iload 5 :: .iadd :: .iaload :: .iconst 1 :: .iadd :: .invokestatic 37024 :: .iastore :: .aload 1 :: .iload 4 :: .invokestatic 26272 :: sg_207_27_1),
  (28, none, .istore 5 :: .iconst 12 :: .iconst 4 :: .iload 4 :: .imul :: .iadd :: .istore 6 :: .aload 0 :: .getfield 2312 :: .aload 1 :: .iload 4 :: .invokestatic 22560 :: .invokestatic 37024 :: .istore 7 :: .aload 1 :: .iload 6 :: .aload 1 :: .iconst 6 :: .iload 4 :: .iadd :: .iaload :: .iadd :: .dup2 :: .iaload :: .iload 7 :: .isub :: .iastore :: .aload 1 :: .iload 6 :: .aload 1 :: .iconst 6 :: .iload 5 :: .iadd :: .iaload :: .iadd :: .dup2 :: .iaload :: .iload 7 :: .iadd :: .iastore :: .aload 1 :: .iconst 36 :: .iload 4 :: .iadd :: .iconst 99 :: .aload 1 :: .iconst 36 :: .iload 4 :: .iadd :: .iaload :: .iconst 1 :: .iadd :: .invokestatic 37024 :: .iastore :: .aload 1 :: .iload 5 :: .iconst 0 :: .aload 1 :: .iload 5 :: .iaload :: .iconst 1 :: .isub :: .invokestatic 36896 :: .iastore :: .aload 1 :: .iconst 42 :: .iload 5 :: .iadd :: .iconst 99 :: .aload 1 :: .iconst 42 :: .iload 5 :: .iadd :: .iaload :: .iconst 1 :: .iadd :: .invokestatic 37024 :: .iastore :: .aload 1 :: .iload 4 :: .invokestatic 26272 :: sg_207_28_1)]
theorem ts_207 : bs_207.all (fun q => chk 207 q.1 q.2.2) = true := by decide +kernel
/-- M.fight -/
def sg_208_16_1 : List Instr := .istore 3 :: .iload 3 :: .ifCond .ge 33 :: .iload 3 :: .ireturn :: []
def sg_208_33_2 : List Instr := .ireturn :: []
def sg_208_33_1 : List Instr := .aload 0 :: .aload 0 :: .getfield 2307 :: .iload 1 :: .iload 2 :: .invokevirtual 26553 :: sg_208_33_2
def bs_208 : Tb := [
  (0, none, .aload 0 :: .iconst 0 :: .putfield 2336 :: .aload 0 :: .iload 1 :: .iload 2 :: .invokevirtual 22057 :: .ifCond .ne 16 :: .iconst (-1) :: .ireturn :: []),
  (16, none, .aload 0 :: .aload 0 :: .getfield 2307 :: .iload 1 :: .iload 2 :: .invokevirtual 26425 :: sg_208_16_1),
  (33, none, .aload 0 :: .aload 0 :: .getfield 2307 :: .invokevirtual 26137 :: sg_208_33_1)]
theorem ts_208 : bs_208.all (fun q => chk 208 q.1 q.2.2) = true := by decide +kernel
/-- M.goDay -/
def sg_210_2_1 : List Instr := .iinc 2 1 :: .goto 2 :: []
def bs_210 : Tb := [
  (0, none, .iconst 0 :: .istore 2 :: .goto_w 2 :: []),
  (2, some [0, 1, 2], .iload 2 :: .aload 0 :: .getfield 2308 :: .if_icmp .ge 39 :: .aload 1 :: .iload 2 :: .aload 0 :: .getfield 2319 :: .iload 2 :: .iaload :: .aload 1 :: .iload 2 :: .iaload :: .iconst 1 :: .iadd :: .invokestatic 37024 :: .iastore :: .aload 0 :: .aload 1 :: .iload 2 :: .invokevirtual 26793 :: sg_210_2_1),
  (39, none, .aload 1 :: .iconst 48 :: .dup2 :: .iaload :: .iconst 1 :: .iadd :: .iastore :: .return_ :: [])]
theorem ts_210 : bs_210.all (fun q => chk 210 q.1 q.2.2) = true := by decide +kernel
/-- M.goDays -/
def sg_211_2_1 : List Instr := .iinc 3 1 :: .goto 2 :: []
def bs_211 : Tb := [
  (0, none, .iconst 0 :: .istore 3 :: .goto_w 2 :: []),
  (2, some [0, 1, 2, 3], .iload 3 :: .iload 2 :: .if_icmp .ge 18 :: .aload 0 :: .aload 1 :: .invokevirtual 26905 :: sg_211_2_1),
  (18, none, .return_ :: [])]
theorem ts_211 : bs_211.all (fun q => chk 211 q.1 q.2.2) = true := by decide +kernel
/-- M.days -/
def sg_213_17_2 : List Instr := .aload 0 :: .iconst 0 :: .putfield 2332 :: .iconst 0 :: .istore 2 :: .goto_w 45 :: []
def sg_213_17_1 : List Instr := .aload 0 :: .aload 0 :: .getfield 2307 :: .iload 1 :: .invokevirtual 27049 :: sg_213_17_2
def sg_213_29_1 : List Instr := .aload 0 :: .iconst 0 :: .putfield 2332 :: .iconst 0 :: .istore 2 :: .goto_w 45 :: []
def sg_213_45_1 : List Instr := .iinc 2 1 :: .goto 45 :: []
def bs_213 : Tb := [
  (0, none, .aload 0 :: .iconst 0 :: .putfield 2336 :: .iload 1 :: .iconst 0 :: .iconst 60 :: .invokestatic 21424 :: .ifCond .ne 17 :: .iconst (-1) :: .ireturn :: []),
  (17, none, .iload 1 :: .ifCond .le 29 :: .aload 0 :: .aload 0 :: .getfield 2307 :: .invokevirtual 26137 :: sg_213_17_1),
  (29, none, .aload 0 :: .aload 0 :: .getfield 2307 :: .iload 1 :: .invokevirtual 27049 :: sg_213_29_1),
  (45, some [0, 2], .iload 2 :: .iconst 4 :: .if_icmp .ge 70 :: .aload 0 :: .aload 0 :: .aload 0 :: .getfield 2307 :: .iload 2 :: .invokevirtual 27177 :: .i2l :: .invokevirtual 21785 :: sg_213_45_1),
  (70, none, .aload 0 :: .aload 0 :: .getfield 2307 :: .iconst 0 :: .invokevirtual 25769 :: .ireturn :: [])]
theorem ts_213 : bs_213.all (fun q => chk 213 q.1 q.2.2) = true := by decide +kernel
/-- M.goSewing -/
def sg_215_0_1 : List Instr := .return_ :: []
def bs_215 : Tb := [
  (0, none, .aload 0 :: .iconst 12 :: .iconst 4 :: .iload 1 :: .imul :: .iadd :: .aload 0 :: .iconst 6 :: .iload 1 :: .iadd :: .iaload :: .iadd :: .dup2 :: .iaload :: .iload 3 :: .isub :: .iastore :: .aload 0 :: .iconst 12 :: .iconst 4 :: .iload 1 :: .imul :: .iadd :: .iload 2 :: .iadd :: .dup2 :: .iaload :: .iload 3 :: .iadd :: .iastore :: .aload 0 :: .iload 1 :: .invokestatic 26272 :: sg_215_0_1)]
theorem ts_215 : bs_215.all (fun q => chk 215 q.1 q.2.2) = true := by decide +kernel
/-- M.sews -/
def sg_216_26_2 : List Instr := .aload 0 :: .getfield 2307 :: .iconst 6 :: .iload 1 :: .iadd :: .iaload :: .ireturn :: []
def sg_216_26_1 : List Instr := .aload 0 :: .getfield 2307 :: .iload 1 :: .iload 2 :: .iload 3 :: .invokestatic 27584 :: sg_216_26_2
def bs_216 : Tb := [
  (0, none, .aload 0 :: .iconst 0 :: .putfield 2336 :: .aload 0 :: .aload 0 :: .getfield 2307 :: .iload 1 :: .iload 2 :: .iload 3 :: .invokevirtual 27465 :: .istore 4 :: .iload 4 :: .ifCond .ge 26 :: .iload 4 :: .ireturn :: []),
  (26, none, .aload 0 :: .aload 0 :: .getfield 2307 :: .invokevirtual 26137 :: sg_216_26_1)]
theorem ts_216 : bs_216.all (fun q => chk 216 q.1 q.2.2) = true := by decide +kernel
/-- M.yields -/
def sg_219_18_2 : List Instr := .iload 4 :: .ireturn :: []
def sg_219_18_1 : List Instr := .iconst 12 :: .aload 0 :: .getfield 2307 :: .iload 1 :: .iload 2 :: .invokestatic 22448 :: .isub :: .istore 4 :: .aload 0 :: .iload 1 :: .iload 2 :: .invokevirtual 27945 :: sg_219_18_2
def bs_219 : Tb := [
  (0, none, .aload 0 :: .iconst 0 :: .putfield 2336 :: .aload 0 :: .iload 1 :: .iload 2 :: .invokevirtual 27817 :: .istore 3 :: .iload 3 :: .ifCond .ge 18 :: .iload 3 :: .ireturn :: []),
  (18, none, .aload 0 :: .aload 0 :: .getfield 2307 :: .invokevirtual 26137 :: sg_219_18_1)]
theorem ts_219 : bs_219.all (fun q => chk 219 q.1 q.2.2) = true := by decide +kernel
/-- M.war -/
def sg_220_0_1 : List Instr := .iconst 0 :: .istore 1 :: .goto_w 13 :: []
def sg_220_13_1 : List Instr := .iinc 1 1 :: .goto 13 :: []
def sg_220_44_1 : List Instr := .ifCond .ne 58 :: .iconst (-1) :: .aload 0 :: .getfield 2356 :: .isub :: .ireturn :: []
def sg_220_58_1 : List Instr := .iconst 0 :: .istore 2 :: .goto_w 72 :: []
def sg_220_72_1 : List Instr := .ifCond .eq 93 :: .iinc 2 1 :: .goto 72 :: []
def sg_220_93_1 : List Instr := .aload 0 :: .iconst 0 :: .putfield 2332 :: .aload 0 :: .iload 2 :: .iload 1 :: .if_icmp .ge 120 :: .ldc2_w 1 :: .goto 121 :: []
def sg_220_120_2 : List Instr := .iload 2 :: .ireturn :: []
def sg_220_120_1 : List Instr := .aload 0 :: .aload 0 :: .getfield 2307 :: .iconst 49 :: .iaload :: .i2l :: .invokevirtual 21785 :: sg_220_120_2
def sg_220_121_2 : List Instr := .iload 2 :: .ireturn :: []
def sg_220_121_1 : List Instr := .aload 0 :: .aload 0 :: .getfield 2307 :: .iconst 49 :: .iaload :: .i2l :: .invokevirtual 21785 :: sg_220_121_2
def bs_220 : Tb := [
  (0, none, .aload 0 :: .iconst 0 :: .putfield 2336 :: .aload 0 :: .iconst 60 :: .invokevirtual 23065 :: sg_220_0_1),
  (13, some [0, 1], .aload 0 :: .invokevirtual 23305 :: .ifCond .eq 44 :: .aload 0 :: .getfield 2352 :: .aload 0 :: .getfield 2344 :: .if_icmp .ge 44 :: .aload 0 :: .iconst 4 :: .iload 1 :: .imul :: .invokevirtual 28313 :: sg_220_13_1),
  (44, none, .aload 0 :: .invokevirtual 24073 :: sg_220_44_1),
  (58, none, .aload 0 :: .getfield 2307 :: .aload 0 :: .getfield 2395 :: .iconst 0 :: .invokestatic 26032 :: sg_220_58_1),
  (72, some [0, 1, 2], .iload 2 :: .iload 1 :: .if_icmp .ge 93 :: .aload 0 :: .iconst 4 :: .iload 2 :: .imul :: .invokevirtual 28441 :: sg_220_72_1),
  (93, none, .iload 2 :: .ifCond .le 105 :: .aload 0 :: .aload 0 :: .getfield 2395 :: .invokevirtual 26137 :: sg_220_93_1),
  (105, none, .aload 0 :: .iconst 0 :: .putfield 2332 :: .aload 0 :: .iload 2 :: .iload 1 :: .if_icmp .ge 120 :: .ldc2_w 1 :: .goto 121 :: []),
  (120, none, .ldc2_w 0 :: .invokevirtual 21785 :: sg_220_120_1),
  (121, none, .invokevirtual 21785 :: sg_220_121_1)]
theorem ts_220 : bs_220.all (fun q => chk 220 q.1 q.2.2) = true := by decide +kernel
/-- M.readAct -/
def sg_221_0_1 : List Instr := .return_ :: []
def sg_221_38_4 : List Instr := .iconst 1 :: .iadd :: .iastore :: .return_ :: []
def sg_221_38_3 : List Instr := .iastore :: .iload 2 :: .iconst 115 :: .if_icmp .ne 144 :: .aload 0 :: .getfield 2403 :: .iload 1 :: .iconst 3 :: .iadd :: .aload 0 :: .iconst 49 :: .iconst 9 :: .invokevirtual 23849 :: sg_221_38_4
def sg_221_38_2 : List Instr := .iastore :: .iload 2 :: .iconst 115 :: .if_icmp .eq 105 :: .iload 2 :: .iconst 121 :: .if_icmp .ne 120 :: .aload 0 :: .getfield 2403 :: .iload 1 :: .iconst 2 :: .iadd :: .aload 0 :: .iconst 97 :: .iconst 4 :: .invokevirtual 23849 :: sg_221_38_3
def sg_221_38_1 : List Instr := .iastore :: .iload 2 :: .iconst 102 :: .if_icmp .ne 93 :: .aload 0 :: .getfield 2403 :: .iload 1 :: .iconst 2 :: .iadd :: .aload 0 :: .iconst 48 :: .iconst 10 :: .invokevirtual 23849 :: sg_221_38_2
def sg_221_93_2 : List Instr := .iconst 1 :: .iadd :: .iastore :: .return_ :: []
def sg_221_93_1 : List Instr := .iastore :: .iload 2 :: .iconst 115 :: .if_icmp .ne 144 :: .aload 0 :: .getfield 2403 :: .iload 1 :: .iconst 3 :: .iadd :: .aload 0 :: .iconst 49 :: .iconst 9 :: .invokevirtual 23849 :: sg_221_93_2
def sg_221_105_2 : List Instr := .iconst 1 :: .iadd :: .iastore :: .return_ :: []
def sg_221_105_1 : List Instr := .iastore :: .iload 2 :: .iconst 115 :: .if_icmp .ne 144 :: .aload 0 :: .getfield 2403 :: .iload 1 :: .iconst 3 :: .iadd :: .aload 0 :: .iconst 49 :: .iconst 9 :: .invokevirtual 23849 :: sg_221_105_2
def sg_221_120_1 : List Instr := .iconst 1 :: .iadd :: .iastore :: .return_ :: []
def bs_221 : Tb := [
  (0, none, .aload 0 :: .invokevirtual 23177 :: .istore 2 :: .iload 2 :: .iconst 102 :: .if_icmp .eq 38 :: .iload 2 :: .iconst 110 :: .if_icmp .eq 38 :: .iload 2 :: .iconst 115 :: .if_icmp .eq 38 :: .iload 2 :: .iconst 121 :: .if_icmp .eq 38 :: .aload 0 :: .aload 0 :: .getfield 2352 :: .invokevirtual 23449 :: sg_221_0_1),
  (38, none, .aload 0 :: .dup :: .getfield 2352 :: .iconst 1 :: .iadd :: .putfield 2352 :: .aload 0 :: .getfield 2403 :: .iload 1 :: .iload 2 :: .iastore :: .aload 0 :: .getfield 2403 :: .iload 1 :: .iconst 1 :: .iadd :: .aload 0 :: .iconst 48 :: .iconst 10 :: .invokevirtual 23849 :: sg_221_38_1),
  (93, none, .iload 2 :: .iconst 115 :: .if_icmp .eq 105 :: .iload 2 :: .iconst 121 :: .if_icmp .ne 120 :: .aload 0 :: .getfield 2403 :: .iload 1 :: .iconst 2 :: .iadd :: .aload 0 :: .iconst 97 :: .iconst 4 :: .invokevirtual 23849 :: sg_221_93_1),
  (105, none, .aload 0 :: .getfield 2403 :: .iload 1 :: .iconst 2 :: .iadd :: .aload 0 :: .iconst 97 :: .iconst 4 :: .invokevirtual 23849 :: sg_221_105_1),
  (120, none, .iload 2 :: .iconst 115 :: .if_icmp .ne 144 :: .aload 0 :: .getfield 2403 :: .iload 1 :: .iconst 3 :: .iadd :: .aload 0 :: .iconst 49 :: .iconst 9 :: .invokevirtual 23849 :: sg_221_120_1),
  (144, none, .return_ :: [])]
theorem ts_221 : bs_221.all (fun q => chk 221 q.1 q.2.2) = true := by decide +kernel
/-- M.act -/
def sg_222_60_1 : List Instr := .iconst (-2) :: .if_icmp .eq 88 :: .iconst 1 :: .goto 89 :: []
def sg_222_90_1 : List Instr := .iconst 1 :: .freturn :: []
def sg_222_124_1 : List Instr := .iconst 1 :: .freturn :: []
def sg_222_154_1 : List Instr := .iconst 1 :: .freturn :: []
def bs_222 : Tb := [
  (0, none, .aload 0 :: .getfield 2403 :: .iload 1 :: .iconst 1 :: .iadd :: .iaload :: .istore 2 :: .aload 0 :: .getfield 2403 :: .iload 1 :: .iconst 2 :: .iadd :: .iaload :: .istore 3 :: .aload 0 :: .getfield 2403 :: .iload 1 :: .iaload :: .lookupswitch 143 #[(102, 60), (110, 90), (115, 101)] :: []),
  (60, none, .aload 0 :: .iload 2 :: .iload 3 :: .invokevirtual 22057 :: .ifCond .eq 88 :: .aload 0 :: .aload 0 :: .getfield 2307 :: .iload 2 :: .iload 3 :: .invokevirtual 26553 :: sg_222_60_1),
  (88, none, .iconst 0 :: .freturn :: []),
  (89, none, .freturn :: []),
  (90, none, .aload 0 :: .aload 0 :: .getfield 2307 :: .iload 2 :: .invokevirtual 27049 :: sg_222_90_1),
  (101, none, .aload 0 :: .aload 0 :: .getfield 2307 :: .iload 2 :: .iload 3 :: .aload 0 :: .getfield 2403 :: .iload 1 :: .iconst 3 :: .iadd :: .iaload :: .invokevirtual 27465 :: .ifCond .ge 124 :: .iconst 0 :: .freturn :: []),
  (124, none, .aload 0 :: .getfield 2307 :: .iload 2 :: .iload 3 :: .aload 0 :: .getfield 2403 :: .iload 1 :: .iconst 3 :: .iadd :: .iaload :: .invokestatic 27584 :: sg_222_124_1),
  (143, none, .aload 0 :: .iload 2 :: .iload 3 :: .invokevirtual 27817 :: .ifCond .ge 154 :: .iconst 0 :: .freturn :: []),
  (154, none, .aload 0 :: .iload 2 :: .iload 3 :: .invokevirtual 27945 :: sg_222_154_1)]
theorem ts_222 : bs_222.all (fun q => chk 222 q.1 q.2.2) = true := by decide +kernel
/-- M.fleet -/
def sg_224_70_2 : List Instr := .iload 2 :: .ireturn :: []
def sg_224_70_1 : List Instr := .aload 0 :: .aload 0 :: .aload 0 :: .getfield 2307 :: .iload 1 :: .invokevirtual 27177 :: .i2l :: .invokevirtual 21785 :: sg_224_70_2
def bs_224 : Tb := [
  (0, none, .aload 0 :: .iconst 0 :: .putfield 2336 :: .iload 1 :: .invokestatic 22160 :: .ifCond .ne 14 :: .iconst (-1) :: .ireturn :: []),
  (14, none, .iconst 0 :: .istore 2 :: .iconst 0 :: .istore 3 :: .iconst 0 :: .istore 4 :: .goto_w 21 :: []),
  (21, some [0, 1, 2, 3, 4], .iload 4 :: .aload 0 :: .getfield 2308 :: .if_icmp .ge 70 :: .aload 0 :: .getfield 2307 :: .iconst 6 :: .iload 4 :: .iadd :: .iaload :: .iload 1 :: .if_icmp .eq 47 :: .goto 64 :: []),
  (47, none, .iload 2 :: .iconst 1 :: .iload 4 :: .ishl :: .ior :: .istore 2 :: .iload 3 :: .aload 0 :: .getfield 2307 :: .iload 4 :: .iaload :: .iadd :: .istore 3 :: .iinc 4 1 :: .goto 21 :: []),
  (64, none, .iinc 4 1 :: .goto 21 :: []),
  (70, none, .aload 0 :: .iconst 0 :: .putfield 2332 :: .aload 0 :: .iload 3 :: .i2l :: .invokevirtual 21785 :: sg_224_70_1)]
theorem ts_224 : bs_224.all (fun q => chk 224 q.1 q.2.2) = true := by decide +kernel
/-- M.tellPart -/
def sg_226_0_2 : List Instr := .return_ :: []
def sg_226_0_1 : List Instr := .aload 0 :: .lload 3 :: .lload 5 :: .ldiv :: .invokevirtual 21785 :: sg_226_0_2
def bs_226 : Tb := [
  (0, none, .lload 1 :: .lload 3 :: .invokestatic 28832 :: .lstore 5 :: .aload 0 :: .iconst 0 :: .putfield 2332 :: .aload 0 :: .lload 1 :: .lload 5 :: .ldiv :: .invokevirtual 21785 :: sg_226_0_1)]
theorem ts_226 : bs_226.all (fun q => chk 226 q.1 q.2.2) = true := by decide +kernel
/-- M.share -/
def sg_227_21_1 : List Instr := .iconst 0 :: .ireturn :: []
def bs_227 : Tb := [
  (0, none, .aload 0 :: .iconst 0 :: .putfield 2336 :: .iload 1 :: .invokestatic 22160 :: .ifCond .eq 19 :: .aload 0 :: .getfield 2308 :: .ifCond .ne 21 :: .iconst (-1) :: .ireturn :: []),
  (19, none, .iconst (-1) :: .ireturn :: []),
  (21, none, .aload 0 :: .aload 0 :: .aload 0 :: .getfield 2307 :: .iload 1 :: .invokevirtual 27177 :: .i2l :: .iconst 12 :: .aload 0 :: .getfield 2308 :: .imul :: .i2l :: .invokevirtual 28969 :: sg_227_21_1)]
theorem ts_227 : bs_227.all (fun q => chk 227 q.1 q.2.2) = true := by decide +kernel
/-- M.later -/
def sg_228_25_2 : List Instr := .aload 0 :: .iconst 0 :: .putfield 2332 :: .iconst 0 :: .istore 3 :: .goto_w 53 :: []
def sg_228_25_1 : List Instr := .aload 0 :: .aload 0 :: .getfield 2399 :: .iload 2 :: .invokevirtual 27049 :: sg_228_25_2
def sg_228_53_1 : List Instr := .iinc 3 1 :: .goto 53 :: []
def bs_228 : Tb := [
  (0, none, .aload 0 :: .iconst 0 :: .putfield 2336 :: .aload 0 :: .iload 1 :: .invokevirtual 21913 :: .ifCond .eq 23 :: .iload 2 :: .iconst 0 :: .iconst 99 :: .invokestatic 21424 :: .ifCond .ne 25 :: .iconst (-1) :: .ireturn :: []),
  (23, none, .iconst (-1) :: .ireturn :: []),
  (25, none, .aload 0 :: .getfield 2307 :: .aload 0 :: .getfield 2399 :: .iconst 0 :: .invokestatic 26032 :: sg_228_25_1),
  (53, some [0, 1, 3], .iload 3 :: .iconst 4 :: .if_icmp .ge 78 :: .aload 0 :: .aload 0 :: .getfield 2399 :: .iload 1 :: .iload 3 :: .invokestatic 22448 :: .i2l :: .invokevirtual 21785 :: sg_228_53_1),
  (78, none, .aload 0 :: .getfield 2399 :: .iconst 6 :: .iload 1 :: .iadd :: .iaload :: .ireturn :: [])]
theorem ts_228 : bs_228.all (fun q => chk 228 q.1 q.2.2) = true := by decide +kernel
/-- M.whole -/
def sg_230_15_1 : List Instr := .iconst 0 :: .istore 2 :: .goto_w 29 :: []
def sg_230_29_1 : List Instr := .iinc 2 1 :: .goto 29 :: []
def sg_230_55_1 : List Instr := .iload 2 :: .ireturn :: []
def bs_230 : Tb := [
  (0, none, .aload 0 :: .iconst 0 :: .putfield 2336 :: .aload 0 :: .iload 1 :: .invokevirtual 21913 :: .ifCond .ne 15 :: .iconst (-1) :: .ireturn :: []),
  (15, none, .aload 0 :: .getfield 2307 :: .aload 0 :: .getfield 2399 :: .iconst 0 :: .invokestatic 26032 :: sg_230_15_1),
  (29, some [0, 1, 2], .aload 0 :: .getfield 2399 :: .iload 1 :: .invokestatic 29344 :: .iconst (-1) :: .if_icmp .ne 55 :: .aload 0 :: .aload 0 :: .getfield 2399 :: .invokevirtual 26905 :: sg_230_29_1),
  (55, none, .aload 0 :: .iconst 0 :: .putfield 2332 :: .aload 0 :: .aload 0 :: .getfield 2399 :: .iload 1 :: .invokestatic 29344 :: .i2l :: .invokevirtual 21785 :: sg_230_55_1)]
theorem ts_230 : bs_230.all (fun q => chk 230 q.1 q.2.2) = true := by decide +kernel
/-- M.sisters -/
def sg_231_129_2 : List Instr := .iload 1 :: .ireturn :: []
def sg_231_129_1 : List Instr := .aload 0 :: .iload 3 :: .i2l :: .invokevirtual 21785 :: sg_231_129_2
def bs_231 : Tb := [
  (0, none, .aload 0 :: .iconst 0 :: .putfield 2336 :: .iconst 1000000 :: .istore 1 :: .iconst (-1) :: .istore 2 :: .iconst (-1) :: .istore 3 :: .iconst 0 :: .istore 4 :: .goto_w 16 :: []),
  (16, some [0, 1, 2, 3, 4], .iload 4 :: .aload 0 :: .getfield 2308 :: .if_icmp .ge 119 :: .iload 4 :: .iconst 1 :: .iadd :: .istore 5 :: .goto_w 31 :: []),
  (31, some [0, 1, 2, 3, 4, 5], .iload 5 :: .aload 0 :: .getfield 2308 :: .if_icmp .ge 113 :: .iconst 0 :: .istore 6 :: .iconst 0 :: .istore 7 :: .goto_w 46 :: []),
  (46, some [0, 1, 2, 3, 4, 5, 6, 7], .iload 7 :: .iconst 4 :: .if_icmp .ge 89 :: .iload 6 :: .aload 0 :: .getfield 2307 :: .iload 4 :: .iload 7 :: .invokestatic 22448 :: .aload 0 :: .getfield 2307 :: .iload 5 :: .iload 7 :: .invokestatic 22448 :: .isub :: .invokestatic 36752 :: .iadd :: .istore 6 :: .iinc 7 1 :: .goto 46 :: []),
  (89, none, .iload 6 :: .iload 1 :: .if_icmp .lt 98 :: .goto 107 :: []),
  (98, none, .iload 6 :: .istore 1 :: .iload 4 :: .istore 2 :: .iload 5 :: .istore 3 :: .iinc 5 1 :: .goto 31 :: []),
  (107, none, .iinc 5 1 :: .goto 31 :: []),
  (113, none, .iinc 4 1 :: .goto 16 :: []),
  (119, none, .iload 1 :: .iconst 1000000 :: .if_icmp .ne 129 :: .iconst (-2) :: .ireturn :: []),
  (129, none, .aload 0 :: .iconst 0 :: .putfield 2332 :: .aload 0 :: .iload 2 :: .i2l :: .invokevirtual 21785 :: sg_231_129_1)]
theorem ts_231 : bs_231.all (fun q => chk 231 q.1 q.2.2) = true := by decide +kernel
/-- M.motley -/
def sg_232_106_2 : List Instr := .iload 1 :: .ireturn :: []
def sg_232_106_1 : List Instr := .aload 0 :: .iload 2 :: .i2l :: .invokevirtual 21785 :: sg_232_106_2
def bs_232 : Tb := [
  (0, none, .aload 0 :: .iconst 0 :: .putfield 2336 :: .aload 0 :: .getfield 2308 :: .ifCond .ne 15 :: .iconst (-2) :: .ireturn :: []),
  (15, none, .iconst 0 :: .istore 1 :: .iconst 1 :: .istore 2 :: .goto_w 19 :: []),
  (19, some [0, 1, 2], .iload 2 :: .aload 0 :: .getfield 2308 :: .if_icmp .ge 58 :: .aload 0 :: .getfield 2307 :: .iload 2 :: .invokestatic 22560 :: .aload 0 :: .getfield 2307 :: .iload 1 :: .invokestatic 22560 :: .if_icmp .ge 50 :: .iload 2 :: .goto 51 :: []),
  (50, none, .iload 1 :: .istore 1 :: .iinc 2 1 :: .goto 19 :: []),
  (51, none, .istore 1 :: .iinc 2 1 :: .goto 19 :: []),
  (58, none, .iconst 0 :: .istore 2 :: .iconst 0 :: .istore 3 :: .goto_w 62 :: []),
  (62, some [0, 1, 2, 3], .iload 3 :: .iconst 4 :: .if_icmp .ge 106 :: .iload 2 :: .iload 3 :: .aload 0 :: .getfield 2307 :: .iconst 6 :: .iload 1 :: .iadd :: .iaload :: .if_icmp .eq 97 :: .aload 0 :: .getfield 2307 :: .iload 1 :: .iload 3 :: .invokestatic 22448 :: .ifCond .le 97 :: .iconst 1 :: .goto 98 :: []),
  (97, none, .iconst 0 :: .iadd :: .istore 2 :: .iinc 3 1 :: .goto 62 :: []),
  (98, none, .iadd :: .istore 2 :: .iinc 3 1 :: .goto 62 :: []),
  (106, none, .aload 0 :: .iconst 0 :: .putfield 2332 :: .aload 0 :: .iconst 12 :: .aload 0 :: .getfield 2307 :: .iload 1 :: .invokestatic 22560 :: .isub :: .i2l :: .invokevirtual 21785 :: sg_232_106_1)]
theorem ts_232 : bs_232.all (fun q => chk 232 q.1 q.2.2) = true := by decide +kernel
/-- M.order -/
def sg_233_57_1 : List Instr := .iload 2 :: .iload 3 :: .ifCond .le 73 :: .iconst 1 :: .goto 74 :: []
def bs_233 : Tb := [
  (0, none, .aload 0 :: .iconst 0 :: .putfield 2336 :: .iload 1 :: .invokestatic 22160 :: .ifCond .ne 14 :: .iconst (-1) :: .ireturn :: []),
  (14, none, .iconst 0 :: .istore 2 :: .aload 0 :: .iconst 0 :: .putfield 2332 :: .iconst 12 :: .istore 3 :: .goto_w 24 :: []),
  (24, some [0, 1, 2, 3], .iload 3 :: .ifCond .lt 88 :: .iconst 0 :: .istore 4 :: .goto_w 31 :: []),
  (31, some [0, 1, 2, 3, 4], .iload 4 :: .aload 0 :: .getfield 2308 :: .if_icmp .ge 82 :: .aload 0 :: .getfield 2307 :: .iload 4 :: .iload 1 :: .invokestatic 22448 :: .iload 3 :: .if_icmp .eq 57 :: .goto 76 :: []),
  (57, none, .aload 0 :: .iload 4 :: .i2l :: .invokevirtual 21785 :: sg_233_57_1),
  (73, none, .iconst 0 :: .iadd :: .istore 2 :: .iinc 4 1 :: .goto 31 :: []),
  (74, none, .iadd :: .istore 2 :: .iinc 4 1 :: .goto 31 :: []),
  (76, none, .iinc 4 1 :: .goto 31 :: []),
  (82, none, .iinc 3 (-1) :: .goto 24 :: []),
  (88, none, .iload 2 :: .ireturn :: [])]
theorem ts_233 : bs_233.all (fun q => chk 233 q.1 q.2.2) = true := by decide +kernel
/-- M.rivals -/
def sg_234_45_1 : List Instr := .istore 6 :: .iload 2 :: .iload 6 :: .iload 1 :: .if_icmp .ne 72 :: .iconst 1 :: .iload 5 :: .ishl :: .goto 73 :: []
def sg_234_119_2 : List Instr := .iload 2 :: .ireturn :: []
def sg_234_119_1 : List Instr := .aload 0 :: .iload 4 :: .i2l :: .invokevirtual 21785 :: sg_234_119_2
def bs_234 : Tb := [
  (0, none, .aload 0 :: .iconst 0 :: .putfield 2336 :: .aload 0 :: .iload 1 :: .invokevirtual 21913 :: .ifCond .ne 15 :: .iconst (-1) :: .ireturn :: []),
  (15, none, .iconst 0 :: .istore 2 :: .iconst 0 :: .istore 3 :: .iconst 0 :: .istore 4 :: .iconst 0 :: .istore 5 :: .goto_w 25 :: []),
  (25, some [0, 1, 2, 3, 4, 5], .iload 5 :: .aload 0 :: .getfield 2308 :: .if_icmp .ge 119 :: .iload 5 :: .iload 1 :: .if_icmp .ne 45 :: .iconst (-2) :: .goto 56 :: []),
  (45, none, .aload 0 :: .aload 0 :: .getfield 2307 :: .iload 1 :: .iload 5 :: .invokevirtual 26425 :: sg_234_45_1),
  (56, none, .istore 6 :: .iload 2 :: .iload 6 :: .iload 1 :: .if_icmp .ne 72 :: .iconst 1 :: .iload 5 :: .ishl :: .goto 73 :: []),
  (72, none, .iconst 0 :: .ior :: .istore 2 :: .iload 3 :: .iload 6 :: .iload 5 :: .if_icmp .ne 90 :: .iconst 1 :: .iload 5 :: .ishl :: .goto 91 :: []),
  (73, none, .ior :: .istore 2 :: .iload 3 :: .iload 6 :: .iload 5 :: .if_icmp .ne 90 :: .iconst 1 :: .iload 5 :: .ishl :: .goto 91 :: []),
  (90, none, .iconst 0 :: .ior :: .istore 3 :: .iload 4 :: .iload 6 :: .iconst (-3) :: .if_icmp .ne 109 :: .iconst 1 :: .iload 5 :: .ishl :: .goto 110 :: []),
  (91, none, .ior :: .istore 3 :: .iload 4 :: .iload 6 :: .iconst (-3) :: .if_icmp .ne 109 :: .iconst 1 :: .iload 5 :: .ishl :: .goto 110 :: []),
  (109, none, .iconst 0 :: .ior :: .istore 4 :: .iinc 5 1 :: .goto 25 :: []),
  (110, none, .ior :: .istore 4 :: .iinc 5 1 :: .goto 25 :: []),
  (119, none, .aload 0 :: .iconst 0 :: .putfield 2332 :: .aload 0 :: .iload 3 :: .i2l :: .invokevirtual 21785 :: sg_234_119_1)]
theorem ts_234 : bs_234.all (fun q => chk 234 q.1 q.2.2) = true := by decide +kernel
/-- M.duel -/
def sg_235_26_1 : List Instr := .iconst 0 :: .istore 4 :: .iconst 0 :: .istore 5 :: .iconst 1 :: .istore 6 :: .goto_w 47 :: []
def sg_235_47_1 : List Instr := .istore 7 :: .iload 7 :: .ifCond .lt 79 :: .iconst 1 :: .goto 80 :: []
def sg_235_105_1 : List Instr := .goto 47 :: []
def sg_235_106_1 : List Instr := .goto 47 :: []
def sg_235_120_3 : List Instr := .iload 4 :: .ireturn :: []
def sg_235_120_2 : List Instr := .aload 0 :: .aload 0 :: .getfield 2399 :: .iconst 6 :: .iload 2 :: .iadd :: .iaload :: .i2l :: .invokevirtual 21785 :: sg_235_120_3
def sg_235_120_1 : List Instr := .aload 0 :: .aload 0 :: .getfield 2399 :: .iconst 6 :: .iload 1 :: .iadd :: .iaload :: .i2l :: .invokevirtual 21785 :: sg_235_120_2
def bs_235 : Tb := [
  (0, none, .aload 0 :: .iconst 0 :: .putfield 2336 :: .aload 0 :: .iload 1 :: .iload 2 :: .invokevirtual 22057 :: .ifCond .eq 24 :: .iload 3 :: .iconst 1 :: .iconst 20 :: .invokestatic 21424 :: .ifCond .ne 26 :: .iconst (-1) :: .ireturn :: []),
  (24, none, .iconst (-1) :: .ireturn :: []),
  (26, none, .aload 0 :: .getfield 2307 :: .aload 0 :: .getfield 2399 :: .iconst 0 :: .invokestatic 26032 :: sg_235_26_1),
  (47, some [0, 1, 2, 3, 4, 5, 6], .iload 6 :: .ifCond .eq 120 :: .iload 4 :: .iload 3 :: .if_icmp .ge 120 :: .aload 0 :: .aload 0 :: .getfield 2399 :: .iload 1 :: .iload 2 :: .invokevirtual 26553 :: sg_235_47_1),
  (79, none, .iconst 0 :: .istore 6 :: .iload 6 :: .ifCond .ne 90 :: .goto 47 :: []),
  (80, none, .istore 6 :: .iload 6 :: .ifCond .ne 90 :: .goto 47 :: []),
  (90, none, .iinc 4 1 :: .iload 5 :: .iload 7 :: .iload 1 :: .if_icmp .ne 105 :: .iconst 1 :: .goto 106 :: []),
  (105, none, .iconst 0 :: .iadd :: .istore 5 :: .aload 0 :: .aload 0 :: .getfield 2399 :: .invokevirtual 26905 :: sg_235_105_1),
  (106, none, .iadd :: .istore 5 :: .aload 0 :: .aload 0 :: .getfield 2399 :: .invokevirtual 26905 :: sg_235_106_1),
  (120, none, .aload 0 :: .iconst 0 :: .putfield 2332 :: .aload 0 :: .iload 5 :: .i2l :: .invokevirtual 21785 :: sg_235_120_1)]
theorem ts_235 : bs_235.all (fun q => chk 235 q.1 q.2.2) = true := by decide +kernel
/-- M.tempts -/
def sg_236_35_2 : List Instr := .aload 0 :: .getfield 2399 :: .iconst 6 :: .iload 4 :: .iadd :: .iaload :: .iload 1 :: .if_icmp .eq 98 :: .goto 104 :: []
def sg_236_35_1 : List Instr := .aload 0 :: .getfield 2399 :: .iload 4 :: .iload 1 :: .iload 5 :: .invokestatic 27584 :: sg_236_35_2
def sg_236_124_1 : List Instr := .iload 2 :: .ireturn :: []
def bs_236 : Tb := [
  (0, none, .aload 0 :: .iconst 0 :: .putfield 2336 :: .iload 1 :: .invokestatic 22160 :: .ifCond .ne 14 :: .iconst (-1) :: .ireturn :: []),
  (14, none, .iconst 1000000 :: .istore 2 :: .iconst (-1) :: .istore 3 :: .iconst 0 :: .istore 4 :: .goto_w 23 :: []),
  (23, some [0, 1, 2, 3, 4], .iload 4 :: .aload 0 :: .getfield 2308 :: .if_icmp .ge 116 :: .iconst 1 :: .istore 5 :: .goto_w 35 :: []),
  (35, some [0, 1, 2, 3, 4, 5], .iload 5 :: .iload 2 :: .if_icmp .ge 110 :: .aload 0 :: .aload 0 :: .getfield 2307 :: .iload 4 :: .iload 1 :: .iload 5 :: .invokevirtual 27465 :: .ifCond .ne 110 :: .aload 0 :: .getfield 2307 :: .aload 0 :: .getfield 2399 :: .iconst 0 :: .invokestatic 26032 :: sg_236_35_1),
  (98, none, .iload 5 :: .istore 2 :: .iload 4 :: .istore 3 :: .iinc 5 1 :: .goto 35 :: []),
  (104, none, .iinc 5 1 :: .goto 35 :: []),
  (110, none, .iinc 4 1 :: .goto 23 :: []),
  (116, none, .iload 3 :: .iconst (-1) :: .if_icmp .ne 124 :: .iconst (-2) :: .ireturn :: []),
  (124, none, .aload 0 :: .iconst 0 :: .putfield 2332 :: .aload 0 :: .iload 3 :: .i2l :: .invokevirtual 21785 :: sg_236_124_1)]
theorem ts_236 : bs_236.all (fun q => chk 236 q.1 q.2.2) = true := by decide +kernel
/-- M.wins -/
def sg_237_16_2 : List Instr := .istore 3 :: .iload 3 :: .ifCond .ge 45 :: .iload 3 :: .ireturn :: []
def sg_237_16_1 : List Instr := .aload 0 :: .aload 0 :: .getfield 2399 :: .iload 1 :: .iload 2 :: .invokevirtual 26553 :: sg_237_16_2
def sg_237_45_2 : List Instr := .iload 3 :: .ireturn :: []
def sg_237_45_1 : List Instr := .aload 0 :: .aload 0 :: .getfield 2399 :: .iconst 6 :: .iload 2 :: .iadd :: .iaload :: .i2l :: .invokevirtual 21785 :: sg_237_45_2
def bs_237 : Tb := [
  (0, none, .aload 0 :: .iconst 0 :: .putfield 2336 :: .aload 0 :: .iload 1 :: .iload 2 :: .invokevirtual 22057 :: .ifCond .ne 16 :: .iconst (-1) :: .ireturn :: []),
  (16, none, .aload 0 :: .getfield 2307 :: .aload 0 :: .getfield 2399 :: .iconst 0 :: .invokestatic 26032 :: sg_237_16_1),
  (45, none, .aload 0 :: .iconst 0 :: .putfield 2332 :: .aload 0 :: .aload 0 :: .getfield 2399 :: .iconst 6 :: .iload 1 :: .iadd :: .iaload :: .i2l :: .invokevirtual 21785 :: sg_237_45_1)]
theorem ts_237 : bs_237.all (fun q => chk 237 q.1 q.2.2) = true := by decide +kernel
/-- M.suits -/
def sg_238_31_2 : List Instr := .ifCond .lt 103 :: .aload 0 :: .getfield 2399 :: .iload 1 :: .iload 2 :: .invokestatic 22448 :: .iload 4 :: .if_icmp .gt 89 :: .goto 103 :: []
def sg_238_31_1 : List Instr := .iload 5 :: .iload 1 :: .if_icmp .eq 103 :: .aload 0 :: .aload 0 :: .getfield 2399 :: .iload 1 :: .iload 5 :: .invokevirtual 26553 :: sg_238_31_2
def sg_238_118_1 : List Instr := .iload 3 :: .ireturn :: []
def bs_238 : Tb := [
  (0, none, .aload 0 :: .iconst 0 :: .putfield 2336 :: .aload 0 :: .iload 1 :: .invokevirtual 21913 :: .ifCond .eq 20 :: .iload 2 :: .invokestatic 22160 :: .ifCond .ne 22 :: .iconst (-1) :: .ireturn :: []),
  (20, none, .iconst (-1) :: .ireturn :: []),
  (22, none, .iconst (-2) :: .istore 3 :: .iconst (-1) :: .istore 4 :: .iconst 0 :: .istore 5 :: .goto_w 31 :: []),
  (31, some [0, 1, 2, 3, 4, 5], .iload 5 :: .aload 0 :: .getfield 2308 :: .if_icmp .ge 109 :: .aload 0 :: .getfield 2307 :: .aload 0 :: .getfield 2399 :: .iconst 0 :: .invokestatic 26032 :: sg_238_31_1),
  (89, none, .iload 5 :: .istore 3 :: .aload 0 :: .getfield 2399 :: .iload 1 :: .iload 2 :: .invokestatic 22448 :: .istore 4 :: .iinc 5 1 :: .goto 31 :: []),
  (103, none, .iinc 5 1 :: .goto 31 :: []),
  (109, none, .iload 3 :: .iconst (-2) :: .if_icmp .ne 118 :: .iconst (-2) :: .ireturn :: []),
  (118, none, .aload 0 :: .iconst 0 :: .putfield 2332 :: .aload 0 :: .iload 4 :: .i2l :: .invokevirtual 21785 :: sg_238_118_1)]
theorem ts_238 : bs_238.all (fun q => chk 238 q.1 q.2.2) = true := by decide +kernel
/-- M.canBe -/
def sg_241_0_1 : List Instr := .iload 1 :: .iload 2 :: .if_icmp .ne 18 :: .aload 0 :: .iload 3 :: .iload 4 :: .invokevirtual 30761 :: .freturn :: []
def sg_241_36_2 : List Instr := .ifCond .ge 68 :: .goto 123 :: []
def sg_241_36_1 : List Instr := .aload 0 :: .aload 0 :: .getfield 2415 :: .iload 5 :: .iload 6 :: .invokevirtual 26553 :: sg_241_36_2
def sg_241_68_2 : List Instr := .ifCond .eq 123 :: .iconst 1 :: .freturn :: []
def sg_241_68_1 : List Instr := .aload 0 :: .getfield 2411 :: .iconst 2 :: .iload 1 :: .imul :: .iload 5 :: .iastore :: .aload 0 :: .getfield 2411 :: .iconst 2 :: .iload 1 :: .imul :: .iconst 1 :: .iadd :: .iload 6 :: .iastore :: .aload 0 :: .iload 1 :: .iconst 1 :: .iadd :: .iload 2 :: .iload 3 :: .iload 4 :: .invokevirtual 30921 :: sg_241_68_2
def bs_241 : Tb := [
  (0, none, .aload 0 :: .iload 1 :: .invokevirtual 30617 :: sg_241_0_1),
  (18, none, .iconst 0 :: .istore 5 :: .goto_w 21 :: []),
  (21, some [0, 1, 2, 3, 4, 5], .iload 5 :: .aload 0 :: .getfield 2308 :: .if_icmp .ge 135 :: .iload 5 :: .iconst 1 :: .iadd :: .istore 6 :: .goto_w 36 :: []),
  (36, some [0, 1, 2, 3, 4, 5, 6], .iload 6 :: .aload 0 :: .getfield 2308 :: .if_icmp .ge 129 :: .aload 0 :: .iload 1 :: .invokevirtual 30617 :: sg_241_36_1),
  (68, none, .aload 0 :: .getfield 2415 :: .aload 0 :: .getfield 2407 :: .iconst 50 :: .iload 1 :: .iconst 1 :: .iadd :: .imul :: .invokestatic 26032 :: sg_241_68_1),
  (123, none, .iinc 6 1 :: .goto 36 :: []),
  (129, none, .iinc 5 1 :: .goto 21 :: []),
  (135, none, .iconst 0 :: .freturn :: [])]
theorem ts_241 : bs_241.all (fun q => chk 241 q.1 q.2.2) = true := by decide +kernel
/-- M.fewest -/
def sg_242_0_1 : List Instr := .iconst 0 :: .istore 3 :: .goto_w 14 :: []
def sg_242_14_1 : List Instr := .ifCond .ne 33 :: .goto 69 :: []
def sg_242_41_1 : List Instr := .iinc 4 1 :: .goto 41 :: []
def bs_242 : Tb := [
  (0, none, .aload 0 :: .getfield 2307 :: .aload 0 :: .getfield 2407 :: .iconst 0 :: .invokestatic 26032 :: sg_242_0_1),
  (14, some [0, 1, 2, 3], .iload 3 :: .iconst 3 :: .if_icmp .gt 75 :: .aload 0 :: .iconst 0 :: .iload 3 :: .iload 1 :: .iload 2 :: .invokevirtual 30921 :: sg_242_14_1),
  (33, none, .aload 0 :: .iconst 0 :: .putfield 2332 :: .iconst 0 :: .istore 4 :: .goto_w 41 :: []),
  (41, some [0, 3, 4], .iload 4 :: .iconst 2 :: .iload 3 :: .imul :: .if_icmp .ge 67 :: .aload 0 :: .aload 0 :: .getfield 2411 :: .iload 4 :: .iaload :: .i2l :: .invokevirtual 21785 :: sg_242_41_1),
  (67, none, .iload 3 :: .ireturn :: []),
  (69, none, .iinc 3 1 :: .goto 14 :: []),
  (75, none, .iconst (-2) :: .ireturn :: [])]
theorem ts_242 : bs_242.all (fun q => chk 242 q.1 q.2.2) = true := by decide +kernel
/-- M.goesOver -/
def sg_243_0_1 : List Instr := .goto 30 :: []
def bs_243 : Tb := [
  (0, none, .aload 0 :: .iconst 0 :: .putfield 2336 :: .aload 0 :: .iload 1 :: .invokevirtual 21913 :: .ifCond .eq 29 :: .iload 2 :: .invokestatic 22160 :: .ifCond .eq 29 :: .aload 0 :: .iload 1 :: .iload 2 :: .invokevirtual 31017 :: sg_243_0_1),
  (29, none, .iconst (-1) :: .ireturn :: []),
  (30, none, .ireturn :: [])]
theorem ts_243 : bs_243.all (fun q => chk 243 q.1 q.2.2) = true := by decide +kernel
/-- M.peace -/
def sg_244_0_1 : List Instr := .ireturn :: []
def bs_244 : Tb := [
  (0, none, .aload 0 :: .iconst 0 :: .putfield 2336 :: .aload 0 :: .iconst (-1) :: .iconst 0 :: .invokevirtual 31017 :: sg_244_0_1)]
theorem ts_244 : bs_244.all (fun q => chk 244 q.1 q.2.2) = true := by decide +kernel
/-- M.goRound -/
def sg_245_14_1 : List Instr := .ifCond .lt 33 :: .return_ :: []
def bs_245 : Tb := [
  (0, none, .iconst 0 :: .istore 2 :: .goto_w 2 :: []),
  (2, some [0, 1, 2], .iload 2 :: .aload 0 :: .getfield 2308 :: .if_icmp .ge 45 :: .iload 2 :: .iconst 1 :: .iadd :: .istore 3 :: .goto_w 14 :: []),
  (14, some [0, 1, 2, 3], .iload 3 :: .aload 0 :: .getfield 2308 :: .if_icmp .ge 39 :: .aload 0 :: .aload 1 :: .iload 2 :: .iload 3 :: .invokevirtual 26553 :: sg_245_14_1),
  (33, none, .iinc 3 1 :: .goto 14 :: []),
  (39, none, .iinc 2 1 :: .goto 2 :: []),
  (45, none, .return_ :: [])]
theorem ts_245 : bs_245.all (fun q => chk 245 q.1 q.2.2) = true := by decide +kernel
/-- M.campaign -/
def sg_246_17_1 : List Instr := .aload 0 :: .getfield 2399 :: .iconst 49 :: .iconst 0 :: .iastore :: .iconst 0 :: .istore 2 :: .goto_w 39 :: []
def sg_246_39_2 : List Instr := .iinc 2 1 :: .goto 39 :: []
def sg_246_39_1 : List Instr := .aload 0 :: .aload 0 :: .getfield 2399 :: .invokevirtual 26905 :: sg_246_39_2
def sg_246_73_1 : List Instr := .iinc 2 1 :: .goto 73 :: []
def bs_246 : Tb := [
  (0, none, .aload 0 :: .iconst 0 :: .putfield 2336 :: .iload 1 :: .iconst 0 :: .iconst 40 :: .invokestatic 21424 :: .ifCond .ne 17 :: .iconst (-1) :: .ireturn :: []),
  (17, none, .aload 0 :: .getfield 2307 :: .aload 0 :: .getfield 2399 :: .iconst 0 :: .invokestatic 26032 :: sg_246_17_1),
  (39, some [0, 1, 2], .iload 2 :: .iload 1 :: .if_icmp .ge 66 :: .aload 0 :: .aload 0 :: .getfield 2399 :: .invokevirtual 31385 :: sg_246_39_1),
  (66, none, .aload 0 :: .iconst 0 :: .putfield 2332 :: .iconst 0 :: .istore 2 :: .goto_w 73 :: []),
  (73, some [0, 2], .iload 2 :: .aload 0 :: .getfield 2308 :: .if_icmp .ge 101 :: .aload 0 :: .aload 0 :: .getfield 2399 :: .iconst 6 :: .iload 2 :: .iadd :: .iaload :: .i2l :: .invokevirtual 21785 :: sg_246_73_1),
  (101, none, .aload 0 :: .getfield 2399 :: .iconst 49 :: .iaload :: .ireturn :: [])]
theorem ts_246 : bs_246.all (fun q => chk 246 q.1 q.2.2) = true := by decide +kernel
/-- M.halves -/
def sg_247_121_1 : List Instr := .iload 2 :: .invokestatic 36496 :: .ireturn :: []
def bs_247 : Tb := [
  (0, none, .aload 0 :: .iconst 0 :: .putfield 2336 :: .iload 1 :: .invokestatic 22160 :: .ifCond .ne 14 :: .iconst (-1) :: .ireturn :: []),
  (14, none, .iconst (-1) :: .istore 2 :: .iconst 1 :: .istore 3 :: .goto_w 18 :: []),
  (18, some [0, 1, 2, 3], .iload 3 :: .aload 0 :: .invokevirtual 22281 :: .if_icmp .gt 113 :: .iconst 0 :: .istore 4 :: .iconst 0 :: .istore 5 :: .goto_w 32 :: []),
  (32, some [0, 1, 2, 3, 4, 5], .iload 5 :: .aload 0 :: .getfield 2308 :: .if_icmp .ge 75 :: .iload 4 :: .iload 3 :: .iload 5 :: .invokestatic 21536 :: .ifCond .eq 65 :: .aload 0 :: .getfield 2307 :: .iload 5 :: .iload 1 :: .invokestatic 22448 :: .goto 66 :: []),
  (65, none, .iconst 0 :: .iadd :: .istore 4 :: .iinc 5 1 :: .goto 32 :: []),
  (66, none, .iadd :: .istore 4 :: .iinc 5 1 :: .goto 32 :: []),
  (75, none, .iconst 2 :: .iload 4 :: .imul :: .iconst 12 :: .iload 3 :: .invokestatic 36496 :: .imul :: .if_icmp .ne 107 :: .iload 2 :: .iconst (-1) :: .if_icmp .eq 105 :: .iload 3 :: .invokestatic 36496 :: .iload 2 :: .invokestatic 36496 :: .if_icmp .ge 107 :: .iload 3 :: .istore 2 :: .iinc 3 1 :: .goto 18 :: []),
  (105, none, .iload 3 :: .istore 2 :: .iinc 3 1 :: .goto 18 :: []),
  (107, none, .iinc 3 1 :: .goto 18 :: []),
  (113, none, .iload 2 :: .iconst (-1) :: .if_icmp .ne 121 :: .iconst (-2) :: .ireturn :: []),
  (121, none, .aload 0 :: .iconst 0 :: .putfield 2332 :: .aload 0 :: .iload 2 :: .i2l :: .invokevirtual 21785 :: sg_247_121_1)]
theorem ts_247 : bs_247.all (fun q => chk 247 q.1 q.2.2) = true := by decide +kernel
