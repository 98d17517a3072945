/-! code lists without cuts -/
/-- Sea.mayGoOver -/
def bn_61 : Tb := [
  (0, none, [.iconst 0, .istore 2, .iconst 1, .istore 3, .iload 3, .iconst 4, .if_icmp .ge 36, .aload 0, .iload 1, .iload 3, .invokevirtual 6181, .aload 0, .iload 1, .iload 2, .invokevirtual 6181, .if_icmp .le 28, .iload 3, .goto 29]),
  (4, none, [.iload 3, .iconst 4, .if_icmp .ge 36, .aload 0, .iload 1, .iload 3, .invokevirtual 6181, .aload 0, .iload 1, .iload 2, .invokevirtual 6181, .if_icmp .le 28, .iload 3, .goto 29]),
  (28, none, [.iload 2, .istore 2, .iinc 3 1, .goto 4]),
  (29, none, [.istore 2, .iinc 3 1, .goto 4]),
  (36, none, [.aload 0, .iload 1, .invokevirtual 5269, .ifCond .eq 86, .aload 0, .iload 1, .iload 2, .invokevirtual 6181, .aload 0, .iload 1, .aload 0, .iload 1, .invokevirtual 5781, .invokevirtual 6181, .if_icmp .le 86, .aload 0, .getfield 1303, .iload 1, .iload 2, .iastore, .aload 0, .aload 0, .getfield 1288, .iconst 1, .iadd, .iconst 9999, .invokestatic 37024, .putfield 1288, .return_]),
  (86, none, [.return_])]
theorem tn_61 : bn_61.all (fun q => chk 61 q.1 q.2.2) = true := by decide +kernel
/-- Sea.hoists -/
def bn_58 : Tb := [
  (0, none, [.aload 0, .iload 1, .invokevirtual 5269, .ifCond .eq 15, .iload 2, .invokestatic 18448, .ifCond .ne 16, .return_]),
  (15, none, [.return_]),
  (16, none, [.iconst 0, .istore 3, .iload 3, .iconst 4, .if_icmp .ge 50, .aload 0, .getfield 1315, .iload 1, .iconst 4, .imul, .iload 3, .iadd, .iload 3, .iload 2, .if_icmp .ne 42, .iconst 12, .goto 43]),
  (18, none, [.iload 3, .iconst 4, .if_icmp .ge 50, .aload 0, .getfield 1315, .iload 1, .iconst 4, .imul, .iload 3, .iadd, .iload 3, .iload 2, .if_icmp .ne 42, .iconst 12, .goto 43]),
  (42, none, [.iconst 0, .iastore, .iinc 3 1, .goto 18]),
  (43, none, [.iastore, .iinc 3 1, .goto 18]),
  (50, none, [.aload 0, .getfield 1303, .iload 1, .iload 2, .iastore, .return_])]
theorem tn_58 : bn_58.all (fun q => chk 58 q.1 q.2.2) = true := by decide +kernel
/-- Sea.mendsFlag -/
def bn_66 : Tb := [
  (0, none, [.iconst (-1), .istore 2, .iconst 0, .istore 3, .iload 3, .iconst 4, .if_icmp .ge 67, .iload 3, .aload 0, .iload 1, .invokevirtual 5781, .if_icmp .eq 31, .aload 0, .iload 1, .iload 3, .invokevirtual 6181, .ifCond .le 31, .iconst 1, .goto 32]),
  (4, none, [.iload 3, .iconst 4, .if_icmp .ge 67, .iload 3, .aload 0, .iload 1, .invokevirtual 5781, .if_icmp .eq 31, .aload 0, .iload 1, .iload 3, .invokevirtual 6181, .ifCond .le 31, .iconst 1, .goto 32]),
  (31, none, [.iconst 0, .istore 4, .iload 4, .ifCond .eq 61, .iload 2, .iconst (-1), .if_icmp .eq 59, .aload 0, .iload 1, .iload 3, .invokevirtual 6181, .aload 0, .iload 1, .iload 2, .invokevirtual 6181, .if_icmp .ge 61, .iload 3, .istore 2, .iinc 3 1, .goto 4]),
  (32, none, [.istore 4, .iload 4, .ifCond .eq 61, .iload 2, .iconst (-1), .if_icmp .eq 59, .aload 0, .iload 1, .iload 3, .invokevirtual 6181, .aload 0, .iload 1, .iload 2, .invokevirtual 6181, .if_icmp .ge 61, .iload 3, .istore 2, .iinc 3 1, .goto 4]),
  (59, none, [.iload 3, .istore 2, .iinc 3 1, .goto 4]),
  (61, none, [.iinc 3 1, .goto 4]),
  (67, none, [.iload 2, .iconst (-1), .if_icmp .eq 84, .aload 0, .iload 1, .iload 2, .aload 0, .iload 1, .invokevirtual 5781, .iconst 1, .invokevirtual 7749, .return_]),
  (84, none, [.return_])]
theorem tn_66 : bn_66.all (fun q => chk 66 q.1 q.2.2) = true := by decide +kernel
/-- Sea.difference -/
def bn_56 : Tb := [
  (0, none, [.iconst 0, .istore 3, .iconst 0, .istore 4, .iload 4, .iconst 4, .if_icmp .ge 38, .iload 3, .aload 0, .iload 1, .iload 4, .invokevirtual 6181, .aload 0, .iload 2, .iload 4, .invokevirtual 6181, .isub, .invokestatic 36752, .iadd, .istore 3, .iinc 4 1, .goto 5]),
  (5, none, [.iload 4, .iconst 4, .if_icmp .ge 38, .iload 3, .aload 0, .iload 1, .iload 4, .invokevirtual 6181, .aload 0, .iload 2, .iload 4, .invokevirtual 6181, .isub, .invokestatic 36752, .iadd, .istore 3, .iinc 4 1, .goto 5]),
  (38, none, [.iload 3, .ireturn])]
theorem tn_56 : bn_56.all (fun q => chk 56 q.1 q.2.2) = true := by decide +kernel
/-- M.goOver -/
def bn_205 : Tb := [
  (0, none, [.iconst 0, .istore 2, .iconst 1, .istore 3, .iload 3, .iconst 4, .if_icmp .ge 36, .aload 0, .iload 1, .iload 3, .invokestatic 22448, .aload 0, .iload 1, .iload 2, .invokestatic 22448, .if_icmp .le 28, .iload 3, .goto 29]),
  (4, none, [.iload 3, .iconst 4, .if_icmp .ge 36, .aload 0, .iload 1, .iload 3, .invokestatic 22448, .aload 0, .iload 1, .iload 2, .invokestatic 22448, .if_icmp .le 28, .iload 3, .goto 29]),
  (28, none, [.iload 2, .istore 2, .iinc 3 1, .goto 4]),
  (29, none, [.istore 2, .iinc 3 1, .goto 4]),
  (36, none, [.aload 0, .iload 1, .iload 2, .invokestatic 22448, .aload 0, .iload 1, .invokestatic 22560, .if_icmp .gt 51, .return_]),
  (51, none, [.aload 0, .iconst 6, .iload 1, .iadd, .iload 2, .iastore, .aload 0, .iconst 49, .iconst 9999, .aload 0, .iconst 49, .iaload, .iconst 1, .iadd, .invokestatic 37024, .iastore, .return_])]
theorem tn_205 : bn_205.all (fun q => chk 205 q.1 q.2.2) = true := by decide +kernel
/-- M.mend -/
def bn_209 : Tb := [
  (0, none, [.iconst (-1), .istore 3, .iconst 0, .istore 4, .iload 4, .iconst 4, .if_icmp .ge 65, .iload 4, .aload 1, .iconst 6, .iload 2, .iadd, .iaload, .if_icmp .eq 59, .aload 1, .iload 2, .iload 4, .invokestatic 22448, .ifCond .ne 35, .goto 59]),
  (5, none, [.iload 4, .iconst 4, .if_icmp .ge 65, .iload 4, .aload 1, .iconst 6, .iload 2, .iadd, .iaload, .if_icmp .eq 59, .aload 1, .iload 2, .iload 4, .invokestatic 22448, .ifCond .ne 35, .goto 59]),
  (35, none, [.iload 3, .iconst (-1), .if_icmp .eq 56, .aload 1, .iload 2, .iload 4, .invokestatic 22448, .aload 1, .iload 2, .iload 3, .invokestatic 22448, .if_icmp .ge 59, .iload 4, .istore 3, .iinc 4 1, .goto 5]),
  (56, none, [.iload 4, .istore 3, .iinc 4 1, .goto 5]),
  (59, none, [.iinc 4 1, .goto 5]),
  (65, none, [.iload 3, .iconst (-1), .if_icmp .ne 71, .return_]),
  (71, none, [.aload 1, .iconst 12, .iconst 4, .iload 2, .imul, .iadd, .iload 3, .iadd, .dup2, .iaload, .iconst 1, .isub, .iastore, .aload 1, .iconst 12, .iconst 4, .iload 2, .imul, .iadd, .aload 1, .iconst 6, .iload 2, .iadd, .iaload, .iadd, .dup2, .iaload, .iconst 1, .iadd, .iastore, .return_])]
theorem tn_209 : bn_209.all (fun q => chk 209 q.1 q.2.2) = true := by decide +kernel
/-- M.goYielding -/
def bn_218 : Tb := [
  (0, none, [.iconst 0, .istore 3, .iload 3, .iconst 4, .if_icmp .ge 37, .aload 0, .getfield 2307, .iconst 12, .iconst 4, .iload 1, .imul, .iadd, .iload 3, .iadd, .iload 3, .iload 2, .if_icmp .ne 29, .iconst 12, .goto 30]),
  (2, none, [.iload 3, .iconst 4, .if_icmp .ge 37, .aload 0, .getfield 2307, .iconst 12, .iconst 4, .iload 1, .imul, .iadd, .iload 3, .iadd, .iload 3, .iload 2, .if_icmp .ne 29, .iconst 12, .goto 30]),
  (29, none, [.iconst 0, .iastore, .iinc 3 1, .goto 2]),
  (30, none, [.iastore, .iinc 3 1, .goto 2]),
  (37, none, [.aload 0, .getfield 2307, .iconst 6, .iload 1, .iadd, .iload 2, .iastore, .return_])]
theorem tn_218 : bn_218.all (fun q => chk 218 q.1 q.2.2) = true := by decide +kernel
theorem w32_0 : w32 0 = 0 := by rw [w32_eq]; rfl
theorem w32_1 : w32 1 = 1 := by rw [w32_eq]; rfl
theorem w32_2 : w32 2 = 2 := by rw [w32_eq]; rfl
theorem w32_3 : w32 3 = 3 := by rw [w32_eq]; rfl
theorem w32_4 : w32 4 = 4 := by rw [w32_eq]; rfl
theorem w32_5 : w32 5 = 5 := by rw [w32_eq]; rfl
theorem w32_6 : w32 6 = 6 := by rw [w32_eq]; rfl
theorem w32_7 : w32 7 = 7 := by rw [w32_eq]; rfl
theorem w32_8 : w32 8 = 8 := by rw [w32_eq]; rfl
theorem w32_9 : w32 9 = 9 := by rw [w32_eq]; rfl
theorem w32_10 : w32 10 = 10 := by rw [w32_eq]; rfl
theorem w32_11 : w32 11 = 11 := by rw [w32_eq]; rfl
theorem w32_12 : w32 12 = 12 := by rw [w32_eq]; rfl
theorem w32_13 : w32 13 = 13 := by rw [w32_eq]; rfl
theorem w32_14 : w32 14 = 14 := by rw [w32_eq]; rfl
theorem w32_15 : w32 15 = 15 := by rw [w32_eq]; rfl
theorem w32_16 : w32 16 = 16 := by rw [w32_eq]; rfl
theorem w32_17 : w32 17 = 17 := by rw [w32_eq]; rfl
theorem w32_18 : w32 18 = 18 := by rw [w32_eq]; rfl
theorem w32_19 : w32 19 = 19 := by rw [w32_eq]; rfl
theorem w32_20 : w32 20 = 20 := by rw [w32_eq]; rfl
theorem w32_21 : w32 21 = 21 := by rw [w32_eq]; rfl
theorem w32_22 : w32 22 = 22 := by rw [w32_eq]; rfl
theorem w32_23 : w32 23 = 23 := by rw [w32_eq]; rfl
theorem w32_24 : w32 24 = 24 := by rw [w32_eq]; rfl
theorem w32_25 : w32 25 = 25 := by rw [w32_eq]; rfl
theorem w32_26 : w32 26 = 26 := by rw [w32_eq]; rfl
theorem w32_27 : w32 27 = 27 := by rw [w32_eq]; rfl
theorem w32_28 : w32 28 = 28 := by rw [w32_eq]; rfl
theorem w32_29 : w32 29 = 29 := by rw [w32_eq]; rfl
theorem w32_30 : w32 30 = 30 := by rw [w32_eq]; rfl
theorem w32_31 : w32 31 = 31 := by rw [w32_eq]; rfl
theorem w32_32 : w32 32 = 32 := by rw [w32_eq]; rfl
theorem w32_33 : w32 33 = 33 := by rw [w32_eq]; rfl
theorem w32_34 : w32 34 = 34 := by rw [w32_eq]; rfl
theorem w32_35 : w32 35 = 35 := by rw [w32_eq]; rfl
theorem w32_36 : w32 36 = 36 := by rw [w32_eq]; rfl
theorem w32_37 : w32 37 = 37 := by rw [w32_eq]; rfl
theorem w32_38 : w32 38 = 38 := by rw [w32_eq]; rfl
theorem w32_39 : w32 39 = 39 := by rw [w32_eq]; rfl
theorem w32_40 : w32 40 = 40 := by rw [w32_eq]; rfl
