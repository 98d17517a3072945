/-! words of the walk: proved by propext, so that no step is taken by unfolding alone -/
section WDS
variable {g : GE} {E : EC} {J : Nat → Cont} {Q : Post} {k : Cont} {kc ks : Nat} {ls : List (Nat × TV)} {st : List TV} {t : Tau} {σ : Mem}
theorem x_iconst {n : Int} : ex1 g E J Q (.iconst n) k kc ks ls st t σ = (k kc ks ls (vI n :: st) t σ) := propext Iff.rfl
theorem x_ldc2_w {n : Nat} : ex1 g E J Q (.ldc2_w n) k kc ks ls st t σ = (k kc ks ls (vL n :: st) t σ) := propext Iff.rfl
theorem x_aconst_null : ex1 g E J Q .aconst_null k kc ks ls st t σ = (k kc ks ls (vR (-1) :: st) t σ) := propext Iff.rfl
theorem x_iload {j : Nat} : ex1 g E J Q (.iload j) k kc ks ls st t σ = (gI (lget j ls) fun x => k kc ks ls (vI x :: st) t σ) := propext Iff.rfl
theorem x_lload {j : Nat} : ex1 g E J Q (.lload j) k kc ks ls st t σ = (gL' (lget j ls) fun x => k kc ks ls (vL x :: st) t σ) := propext Iff.rfl
theorem x_aload {j : Nat} : ex1 g E J Q (.aload j) k kc ks ls st t σ = (gR (lget j ls) fun x => k kc ks ls (vR x :: st) t σ) := propext Iff.rfl
theorem x_istore {j : Nat} : ex1 g E J Q (.istore j) k kc ks ls st t σ = (pI st fun x r => k kc ks (lset j (vI x) ls) r t σ) := propext Iff.rfl
theorem x_lstore {j : Nat} : ex1 g E J Q (.lstore j) k kc ks ls st t σ = (pL st fun x r => k kc ks (lset j (vL x) ls) r t σ) := propext Iff.rfl
theorem x_astore {j : Nat} : ex1 g E J Q (.astore j) k kc ks ls st t σ = (pR st fun x r => k kc ks (lset j (vR x) ls) r t σ) := propext Iff.rfl
theorem x_iinc {j : Nat} {n : Int} : ex1 g E J Q (.iinc j n) k kc ks ls st t σ = (gI (lget j ls) fun x => k kc ks (lset j (vI (w32 (x + n))) ls) st t σ) := propext Iff.rfl
theorem x_iadd : ex1 g E J Q .iadd k kc ks ls st t σ = (pI st fun y r => pI r fun x r => k kc ks ls (vI (w32 (x + y)) :: r) t σ) := propext Iff.rfl
theorem x_isub : ex1 g E J Q .isub k kc ks ls st t σ = (pI st fun y r => pI r fun x r => k kc ks ls (vI (w32 (x - y)) :: r) t σ) := propext Iff.rfl
theorem x_imul : ex1 g E J Q .imul k kc ks ls st t σ = (pI st fun y r => pI r fun x r => k kc ks ls (vI (w32 (x * y)) :: r) t σ) := propext Iff.rfl
theorem x_idiv : ex1 g E J Q .idiv k kc ks ls st t σ = (pI st fun y r => pI r fun x r => y ≠ 0 ∧ k kc ks ls (vI (w32 (x.tdiv y)) :: r) t σ) := propext Iff.rfl
theorem x_irem : ex1 g E J Q .irem k kc ks ls st t σ = (pI st fun y r => pI r fun x r => y ≠ 0 ∧ k kc ks ls (vI (w32 (x.tmod y)) :: r) t σ) := propext Iff.rfl
theorem x_iand : ex1 g E J Q .iand k kc ks ls st t σ = (pI st fun y r => pI r fun x r => k kc ks ls (vI (iand x y) :: r) t σ) := propext Iff.rfl
theorem x_ior : ex1 g E J Q .ior k kc ks ls st t σ = (pI st fun y r => pI r fun x r => k kc ks ls (vI (ior x y) :: r) t σ) := propext Iff.rfl
theorem x_ixor : ex1 g E J Q .ixor k kc ks ls st t σ = (pI st fun y r => pI r fun x r => k kc ks ls (vI (ixor x y) :: r) t σ) := propext Iff.rfl
theorem x_ishl : ex1 g E J Q .ishl k kc ks ls st t σ = (pI st fun y r => pI r fun x r => k kc ks ls (vI (ishl x y) :: r) t σ) := propext Iff.rfl
theorem x_ishr : ex1 g E J Q .ishr k kc ks ls st t σ = (pI st fun y r => pI r fun x r => k kc ks ls (vI (ishr x y) :: r) t σ) := propext Iff.rfl
theorem x_iushr : ex1 g E J Q .iushr k kc ks ls st t σ = (pI st fun y r => pI r fun x r => k kc ks ls (vI (iushr x y) :: r) t σ) := propext Iff.rfl
theorem x_ineg : ex1 g E J Q .ineg k kc ks ls st t σ = (pI st fun x r => k kc ks ls (vI (w32 (-x)) :: r) t σ) := propext Iff.rfl
theorem x_ladd : ex1 g E J Q .ladd k kc ks ls st t σ = (pL st fun y r => pL r fun x r => k kc ks ls (vL (w64 (x + y)) :: r) t σ) := propext Iff.rfl
theorem x_lsub : ex1 g E J Q .lsub k kc ks ls st t σ = (pL st fun y r => pL r fun x r => k kc ks ls (vL (w64 (x - y)) :: r) t σ) := propext Iff.rfl
theorem x_lmul : ex1 g E J Q .lmul k kc ks ls st t σ = (pL st fun y r => pL r fun x r => k kc ks ls (vL (w64 (x * y)) :: r) t σ) := propext Iff.rfl
theorem x_ldiv : ex1 g E J Q .ldiv k kc ks ls st t σ = (pL st fun y r => pL r fun x r => y ≠ 0 ∧ k kc ks ls (vL (w64 (x.tdiv y)) :: r) t σ) := propext Iff.rfl
theorem x_lrem : ex1 g E J Q .lrem k kc ks ls st t σ = (pL st fun y r => pL r fun x r => y ≠ 0 ∧ k kc ks ls (vL (w64 (x.tmod y)) :: r) t σ) := propext Iff.rfl
theorem x_lcmp : ex1 g E J Q .lcmp k kc ks ls st t σ = (pL st fun y r => pL r fun x r => k kc ks ls (vI (icmp x y) :: r) t σ) := propext Iff.rfl
theorem x_i2l : ex1 g E J Q .i2l k kc ks ls st t σ = (pI st fun x r => k kc ks ls (vL x :: r) t σ) := propext Iff.rfl
theorem x_i2b : ex1 g E J Q .i2b k kc ks ls st t σ = (pI st fun x r => k kc ks ls (vI (i8 x) :: r) t σ) := propext Iff.rfl
theorem x_i2s : ex1 g E J Q .i2s k kc ks ls st t σ = (pI st fun x r => k kc ks ls (vI (i16 x) :: r) t σ) := propext Iff.rfl
theorem x_i2c : ex1 g E J Q .i2c k kc ks ls st t σ = (pI st fun x r => k kc ks ls (vI (iu16 x) :: r) t σ) := propext Iff.rfl
theorem x_dup : ex1 g E J Q .dup k kc ks ls st t σ = (pV st fun v r => k kc ks ls (v :: v :: r) t σ) := propext Iff.rfl
theorem x_pop : ex1 g E J Q .pop k kc ks ls st t σ = (pV st fun _ r => k kc ks ls r t σ) := propext Iff.rfl
theorem x_dup_x1 : ex1 g E J Q .dup_x1 k kc ks ls st t σ = (pV st fun v r => pV r fun w r => k kc ks ls (v :: w :: v :: r) t σ) := propext Iff.rfl
theorem x_dup2 : ex1 g E J Q .dup2 k kc ks ls st t σ = (pV st fun v r => pV r fun w r => k kc ks ls (v :: w :: v :: w :: r) t σ) := propext Iff.rfl
theorem x_getfield {n : Nat} : ex1 g E J Q (.getfield n) k kc ks ls st t σ = (pR st fun x r => isO t x (n / 256) ∧ k kc ks ls ((if n % 4 ≤ 1 then vI (σ x (n / 4 % 64 : Nat)) else if n % 4 = 2 then vR (σ x (n / 4 % 64 : Nat)) else vR (finOf t x (n / 4 % 64))) :: r) t σ) := propext Iff.rfl
theorem x_putfield {n : Nat} : ex1 g E J Q (.putfield n) k kc ks ls st t σ = (if n % 4 = 2 then pR st fun y r => pR r fun x r => isO t x (n / 256) ∧ k kc ks ls r t (up σ x (n / 4 % 64 : Nat) y) else pI st fun y r => pR r fun x r => isO t x (n / 256) ∧ (n % 4 = 0 ∨ (n % 4 = 1 ∧ (y = 0 ∨ y = 1))) ∧ k kc ks ls r t (up σ x (n / 4 % 64 : Nat) y)) := propext Iff.rfl
theorem x_iaload : ex1 g E J Q .iaload k kc ks ls st t σ = (pI st fun j r => pR r fun x r => isT t x 0 ∧ (0 ≤ j ∧ j < lenOf t x) ∧ k kc ks ls (vI (σ x j) :: r) t σ) := propext Iff.rfl
theorem x_baload : ex1 g E J Q .baload k kc ks ls st t σ = (pI st fun j r => pR r fun x r => isT t x 2 ∧ (0 ≤ j ∧ j < lenOf t x) ∧ k kc ks ls (vI (σ x j) :: r) t σ) := propext Iff.rfl
theorem x_saload : ex1 g E J Q .saload k kc ks ls st t σ = (pI st fun j r => pR r fun x r => isT t x 3 ∧ (0 ≤ j ∧ j < lenOf t x) ∧ k kc ks ls (vI (σ x j) :: r) t σ) := propext Iff.rfl
theorem x_caload : ex1 g E J Q .caload k kc ks ls st t σ = (pI st fun j r => pR r fun x r => isT t x 4 ∧ (0 ≤ j ∧ j < lenOf t x) ∧ k kc ks ls (vI (σ x j) :: r) t σ) := propext Iff.rfl
theorem x_daload : ex1 g E J Q .daload k kc ks ls st t σ = (pI st fun j r => pR r fun x r => if x = -2 then (0 ≤ j ∧ j < 7) ∧ k kc ks ls (vI (sCt g 2 j.toNat) :: r) t σ else isT t x 4 ∧ (0 ≤ j ∧ j < lenOf t x) ∧ k kc ks ls (vI (σ x j) :: r) t σ) := propext Iff.rfl
theorem x_faload : ex1 g E J Q .faload k kc ks ls st t σ = (pI st fun j r => pR r fun x r => (3 ≤ (-x).toNat ∧ (-x).toNat ≤ 5 ∧ x < 0) ∧ (0 ≤ j ∧ j < sLen g (-x).toNat) ∧ k kc ks ls (vI (sCt g (-x).toNat j.toNat) :: r) t σ) := propext Iff.rfl
theorem x_laload : ex1 g E J Q .laload k kc ks ls st t σ = (pI st fun j r => pR r fun x r => isT t x 1 ∧ (0 ≤ j ∧ j < lenOf t x) ∧ k kc ks ls (vL (σ x j) :: r) t σ) := propext Iff.rfl
theorem x_aaload : ex1 g E J Q .aaload k kc ks ls st t σ = (pI st fun j r => pR r fun x r => isT t x 5 ∧ (0 ≤ j ∧ j < lenOf t x) ∧ k kc ks ls (vR (σ x j) :: r) t σ) := propext Iff.rfl
theorem x_iastore : ex1 g E J Q .iastore k kc ks ls st t σ = (pI st fun y r => pI r fun j r => pR r fun x r => isT t x 0 ∧ (0 ≤ j ∧ j < lenOf t x) ∧ k kc ks ls r t (up σ x j y)) := propext Iff.rfl
theorem x_bastore : ex1 g E J Q .bastore k kc ks ls st t σ = (pI st fun y r => pI r fun j r => pR r fun x r => isT t x 2 ∧ (0 ≤ j ∧ j < lenOf t x) ∧ k kc ks ls r t (up σ x j (i8 y))) := propext Iff.rfl
theorem x_sastore : ex1 g E J Q .sastore k kc ks ls st t σ = (pI st fun y r => pI r fun j r => pR r fun x r => isT t x 3 ∧ (0 ≤ j ∧ j < lenOf t x) ∧ k kc ks ls r t (up σ x j (i1 y))) := propext Iff.rfl
theorem x_castore : ex1 g E J Q .castore k kc ks ls st t σ = (pI st fun y r => pI r fun j r => pR r fun x r => isT t x 4 ∧ (0 ≤ j ∧ j < lenOf t x) ∧ k kc ks ls r t (up σ x j (ich y))) := propext Iff.rfl
theorem x_lastore : ex1 g E J Q .lastore k kc ks ls st t σ = (pL st fun y r => pI r fun j r => pR r fun x r => isT t x 1 ∧ (0 ≤ j ∧ j < lenOf t x) ∧ k kc ks ls r t (up σ x j y)) := propext Iff.rfl
theorem x_aastore : ex1 g E J Q .aastore k kc ks ls st t σ = (pR st fun y r => pI r fun j r => pR r fun x r => isT t x 5 ∧ isO t y 5 ∧ (0 ≤ j ∧ j < lenOf t x) ∧ k kc ks ls r t (up σ x j y)) := propext Iff.rfl
theorem x_arraylength : ex1 g E J Q .arraylength k kc ks ls st t σ = (pR st fun x r => if x < 0 then (2 ≤ (-x).toNat ∧ (-x).toNat ≤ 5) ∧ k kc ks ls (vI (sLen g (-x).toNat) :: r) t σ else isArr t x ∧ k kc ks ls (vI (lenOf t x) :: r) t σ) := propext Iff.rfl
theorem x_getstatic {n : Nat} : ex1 g E J Q (.getstatic n) k kc ks ls st t σ = (k kc ks ls (vR (-(n : Int)) :: st) t σ) := propext Iff.rfl
theorem x_goto {n : Int} : ex1 g E J Q (.goto n) k kc ks ls st t σ = (J n.toNat kc ks ls st t σ) := propext Iff.rfl
theorem x_goto_w {n : Int} : ex1 g E J Q (.goto_w n) k kc ks ls st t σ = (J n.toNat kc ks ls st t σ) := propext Iff.rfl
theorem x_ifCond {c : Jvm.ClassFile.Cond} {n : Int} : ex1 g E J Q (.ifCond c n) k kc ks ls st t σ = (pI st fun x r => (cnd c x 0 → J n.toNat kc ks ls r t σ) ∧ (¬ cnd c x 0 → k kc ks ls r t σ)) := propext Iff.rfl
theorem x_if_icmp {c : Jvm.ClassFile.Cond} {n : Int} : ex1 g E J Q (.if_icmp c n) k kc ks ls st t σ = (pI st fun y r => pI r fun x r => (cnd c x y → J n.toNat kc ks ls r t σ) ∧ (¬ cnd c x y → k kc ks ls r t σ)) := propext Iff.rfl
theorem x_ifnull {n : Int} : ex1 g E J Q (.ifnull n) k kc ks ls st t σ = (pR st fun x r => (x = -1 → J n.toNat kc ks ls r t σ) ∧ (¬ x = -1 → k kc ks ls r t σ)) := propext Iff.rfl
theorem x_ifnonnull {n : Int} : ex1 g E J Q (.ifnonnull n) k kc ks ls st t σ = (pR st fun x r => (¬ x = -1 → J n.toNat kc ks ls r t σ) ∧ (x = -1 → k kc ks ls r t σ)) := propext Iff.rfl
theorem x_lookupswitch {n : Int} {ps : Array (Int × Int)} : ex1 g E J Q (.lookupswitch n ps) k kc ks ls st t σ = (pI st fun x r => swL x (J n.toNat kc ks ls r t σ) (ps.toList.map fun q => (q.1, J q.2.toNat kc ks ls r t σ))) := propext Iff.rfl
theorem x_invokevirtual {n : Nat} : ex1 g E J Q (.invokevirtual n) k kc ks ls st t σ = (pN (n / 16 % 8) [] st fun as r => pR r fun x r => (r.map catT).sum ≤ 8 ∧ isO t x (n % 16) ∧ E (n / 128) (vR x :: as) t σ fun v t' σ' => k kc ks ls (v.toList ++ r) t' σ') := propext Iff.rfl
theorem x_invokestatic {n : Nat} : ex1 g E J Q (.invokestatic n) k kc ks ls st t σ = (pN (n / 16 % 8) [] st fun as r => E (n / 128) as t σ fun v t' σ' => k kc ks ls (v.toList ++ r) t' σ') := propext Iff.rfl
theorem x_invokedynamic {n : Nat} : ex1 g E J Q (.invokedynamic n) k kc ks ls st t σ = (pI st fun n r => pI r fun dp r => pR r fun b r => pI r fun sp r => pR r fun a r => isT t a 0 ∧ isT t b 0 ∧ (0 ≤ sp ∧ 0 ≤ dp ∧ 0 ≤ n ∧ sp + n ≤ lenOf t a ∧ dp + n ≤ lenOf t b) ∧ (r.map catT).sum ≤ 8 ∧ k kc ks ls r t (cpy σ a sp b dp n)) := propext Iff.rfl
theorem x_ireturn : ex1 g E J Q .ireturn k kc ks ls st t σ = (pI st fun x r => r = [] ∧ (kc = 0 ∨ gB g = false) ∧ Q (some (vI x)) t σ) := propext Iff.rfl
theorem x_freturn : ex1 g E J Q .freturn k kc ks ls st t σ = (pI st fun x r => r = [] ∧ (kc = 0 ∨ gB g = false) ∧ (x = 0 ∨ x = 1) ∧ Q (some (vI x)) t σ) := propext Iff.rfl
theorem x_dreturn : ex1 g E J Q .dreturn k kc ks ls st t σ = (pI st fun x r => r = [] ∧ (kc = 0 ∨ gB g = false) ∧ (0 ≤ x ∧ x < 65536) ∧ Q (some (vI x)) t σ) := propext Iff.rfl
theorem x_lreturn : ex1 g E J Q .lreturn k kc ks ls st t σ = (pL st fun x r => r = [] ∧ (kc = 0 ∨ gB g = false) ∧ Q (some (vL x)) t σ) := propext Iff.rfl
theorem x_areturn : ex1 g E J Q .areturn k kc ks ls st t σ = (pR st fun x r => r = [] ∧ (kc = 0 ∨ gB g = false) ∧ Q (some (vR x)) t σ) := propext Iff.rfl
theorem x_return_ : ex1 g E J Q .return_ k kc ks ls st t σ = (st = [] ∧ (kc = 0 ∨ gB g = false) ∧ Q none t σ) := propext Iff.rfl
theorem pI_c {x : Int} {r : List TV} {f : Int → List TV → Prop} : pI (.inl x :: r) f = f x r := propext Iff.rfl
theorem pL_c {x : Int} {r : List TV} {f : Int → List TV → Prop} : pL (.inr (.inl x) :: r) f = f x r := propext Iff.rfl
theorem pR_c {x : Int} {r : List TV} {f : Int → List TV → Prop} : pR (.inr (.inr x) :: r) f = f x r := propext Iff.rfl
theorem pV_i {x : Int} {r : List TV} {f : TV → List TV → Prop} : pV (.inl x :: r) f = f (.inl x) r := propext Iff.rfl
theorem pV_r {x : Int} {r : List TV} {f : TV → List TV → Prop} : pV (.inr (.inr x) :: r) f = f (.inr (.inr x)) r := propext Iff.rfl
theorem gI_c {x : Int} {f : Int → Prop} : gI (some (.inl x)) f = f x := propext Iff.rfl
theorem gL_c {x : Int} {f : Int → Prop} : gL' (some (.inr (.inl x))) f = f x := propext Iff.rfl
theorem gR_c {x : Int} {f : Int → Prop} : gR (some (.inr (.inr x))) f = f x := propext Iff.rfl
theorem pN_z {as st : List TV} {f : List TV → List TV → Prop} : pN 0 as st f = ((st.map catT).sum ≤ 8 ∧ f as st) := propext Iff.rfl
theorem pN_s {n : Nat} {v : TV} {as st : List TV} {f : List TV → List TV → Prop} : pN (n + 1) as (v :: st) f = pN n (v :: as) st f := propext Iff.rfl
theorem lget_c {i j : Nat} {v : TV} {r : List (Nat × TV)} : lget i ((j, v) :: r) = if i = j then some v else lget i r := congrArg id (rfl : lget i ((j, v) :: r) = _)
theorem lins_z {i : Nat} {v : TV} : lins i v [] = [(i, v)] := congrArg id (rfl : lins i v [] = _)
theorem lins_c {i j : Nat} {v w : TV} {r : List (Nat × TV)} : lins i v ((j, w) :: r) = if i < j then (i, v) :: (j, w) :: r else (j, w) :: lins i v r := congrArg id (rfl : lins i v ((j, w) :: r) = _)
theorem ldel_z {i : Nat} : ldel i [] = [] := congrArg id (rfl : ldel i [] = _)
theorem ldel_c {i j : Nat} {w : TV} {r : List (Nat × TV)} : ldel i ((j, w) :: r) = if i = j ∨ (j + 1 = i ∧ catT w = 2) then ldel i r else (j, w) :: ldel i r := congrArg id (rfl : ldel i ((j, w) :: r) = _)
theorem ldel2_z {i : Nat} : ldel2 i [] = [] := congrArg id (rfl : ldel2 i [] = _)
theorem ldel2_c {i j : Nat} {w : TV} {r : List (Nat × TV)} : ldel2 i ((j, w) :: r) = if i = j ∨ j = i + 1 ∨ (j + 1 = i ∧ catT w = 2) then ldel2 i r else (j, w) :: ldel2 i r := congrArg id (rfl : ldel2 i ((j, w) :: r) = _)
theorem lset_i {i : Nat} {x : Int} {ls : List (Nat × TV)} : lset i (.inl x) ls = lins i (.inl x) (ldel i ls) := congrArg id (rfl : lset i (.inl x) ls = _)
theorem lset_l {i : Nat} {x : Int} {ls : List (Nat × TV)} : lset i (.inr (.inl x)) ls = lins i (.inr (.inl x)) (ldel2 i ls) := congrArg id (rfl : lset i (.inr (.inl x)) ls = _)
theorem lset_r {i : Nat} {x : Int} {ls : List (Nat × TV)} : lset i (.inr (.inr x)) ls = lins i (.inr (.inr x)) (ldel i ls) := congrArg id (rfl : lset i (.inr (.inr x)) ls = _)
theorem lkeep_z {ks : List Nat} : lkeep ks [] = [] := congrArg id (rfl : lkeep ks [] = _)
theorem lkeep_c {ks : List Nat} {j : Nat} {w : TV} {r : List (Nat × TV)} : lkeep ks ((j, w) :: r) = if j ∈ ks then (j, w) :: lkeep ks r else lkeep ks r := congrArg id (rfl : lkeep ks ((j, w) :: r) = _)
theorem largs_z {i : Nat} : largs i [] = [] := congrArg id (rfl : largs i [] = _)
theorem largs_c {i : Nat} {v : TV} {vs : List TV} : largs i (v :: vs) = (i, v) :: largs (i + catT v) vs := congrArg id (rfl : largs i (v :: vs) = _)
theorem cat_i {x : Int} : catT (.inl x) = 1 := congrArg id (rfl : catT (.inl x) = _)
theorem cat_l {x : Int} : catT (.inr (.inl x)) = 2 := congrArg id (rfl : catT (.inr (.inl x)) = _)
theorem cat_r {x : Int} : catT (.inr (.inr x)) = 1 := congrArg id (rfl : catT (.inr (.inr x)) = _)
theorem lkp_c {tg p : Nat} {x : Option (List Nat) × List Instr} {r : Tb} : lkp tg ((p, x) :: r) = if tg = p then x else lkp tg r := congrArg id (rfl : lkp tg ((p, x) :: r) = _)
theorem cnd_eq {x y : Int} : cnd .eq x y = (x = y) := propext Iff.rfl
theorem cnd_ne {x y : Int} : cnd .ne x y = (x ≠ y) := propext Iff.rfl
theorem cnd_lt {x y : Int} : cnd .lt x y = (x < y) := propext Iff.rfl
theorem cnd_ge {x y : Int} : cnd .ge x y = (y ≤ x) := propext Iff.rfl
theorem cnd_gt {x y : Int} : cnd .gt x y = (y < x) := propext Iff.rfl
theorem cnd_le {x y : Int} : cnd .le x y = (x ≤ y) := propext Iff.rfl
theorem swL_z {x : Int} {d : Prop} : swL x d [] = d := propext Iff.rfl
theorem swL_c {x key : Int} {d p : Prop} {r : List (Int × Prop)} : swL x d ((key, p) :: r) = ((x = key → p) ∧ (x ≠ key → swL x d r)) := propext Iff.rfl
theorem rE_e {l : Launch} {d e : Nat} {r : Reg} {as : List TV} : rE l g d r e as t σ Q = rOr (rlk e r) (WPc l g e d 0 0) as t σ Q := propext Iff.rfl
theorem rOr_s {f w : Sp} {as : List TV} : rOr (some f) w as t σ Q = f as t σ Q := propext Iff.rfl
theorem rOr_n {w : Sp} {as : List TV} : rOr none w as t σ Q = w as t σ Q := propext Iff.rfl
theorem rlk_z {e : Nat} : rlk e [] = none := congrArg id (rfl : rlk e [] = _)
theorem rlk_c {e j : Nat} {f : Sp} {r : Reg} : rlk e ((j, f) :: r) = if e = j then some f else rlk e r := congrArg id (rfl : rlk e ((j, f) :: r) = _)
theorem aR_c {a : Int} {f : Int → Prop} : aR [.inr (.inr a)] f = f a := propext Iff.rfl
theorem aI_c {a : Int} {f : Int → Prop} : aI [.inl a] f = f a := propext Iff.rfl
theorem aII_c {a b : Int} {f : Int → Int → Prop} : aII [.inl a, .inl b] f = f a b := propext Iff.rfl
theorem aIII_c {a b c : Int} {f : Int → Int → Int → Prop} : aIII [.inl a, .inl b, .inl c] f = f a b c := propext Iff.rfl
theorem aRI_c {a b : Int} {f : Int → Int → Prop} : aRI [.inr (.inr a), .inl b] f = f a b := propext Iff.rfl
theorem aRII_c {a b c : Int} {f : Int → Int → Int → Prop} : aRII [.inr (.inr a), .inl b, .inl c] f = f a b c := propext Iff.rfl
theorem aRIII_c {a b c e : Int} {f : Int → Int → Int → Int → Prop} : aRIII [.inr (.inr a), .inl b, .inl c, .inl e] f = f a b c e := propext Iff.rfl
end WDS
