/-! what an instruction asks for: the walk as a proposition -/
abbrev Cont : Type := Nat → Nat → List (Nat × TV) → List TV → Tau → Mem → Prop
def pI (st : List TV) (f : Int → List TV → Prop) : Prop := match st with
  | .inl x :: r => f x r
  | _ => False
def pL (st : List TV) (f : Int → List TV → Prop) : Prop := match st with
  | .inr (.inl x) :: r => f x r
  | _ => False
def pR (st : List TV) (f : Int → List TV → Prop) : Prop := match st with
  | .inr (.inr x) :: r => f x r
  | _ => False
/-- a value of one slot -/
def pV (st : List TV) (f : TV → List TV → Prop) : Prop := match st with
  | .inl x :: r => f (.inl x) r
  | .inr (.inr x) :: r => f (.inr (.inr x)) r
  | _ => False
def gI (v : Option TV) (f : Int → Prop) : Prop := match v with
  | some (.inl x) => f x
  | _ => False
def gL' (v : Option TV) (f : Int → Prop) : Prop := match v with
  | some (.inr (.inl x)) => f x
  | _ => False
def gR (v : Option TV) (f : Int → Prop) : Prop := match v with
  | some (.inr (.inr x)) => f x
  | _ => False
theorem pI_e {st : List TV} {f : Int → List TV → Prop} (h : pI st f) : ∃ x r, st = vI x :: r ∧ f x r := by
  unfold pI at h
  split at h
  · exact ⟨_, _, rfl, h⟩
  · exact h.elim
theorem pL_e {st : List TV} {f : Int → List TV → Prop} (h : pL st f) : ∃ x r, st = vL x :: r ∧ f x r := by
  unfold pL at h
  split at h
  · exact ⟨_, _, rfl, h⟩
  · exact h.elim
theorem pR_e {st : List TV} {f : Int → List TV → Prop} (h : pR st f) : ∃ x r, st = vR x :: r ∧ f x r := by
  unfold pR at h
  split at h
  · exact ⟨_, _, rfl, h⟩
  · exact h.elim
theorem pV_e {st : List TV} {f : TV → List TV → Prop} (h : pV st f) : ∃ v r, st = v :: r ∧ catT v = 1 ∧ f v r := by
  unfold pV at h
  split at h
  · exact ⟨_, _, rfl, rfl, h⟩
  · exact ⟨_, _, rfl, rfl, h⟩
  · exact h.elim
theorem gI_e {v : Option TV} {f : Int → Prop} (h : gI v f) : ∃ x, v = some (vI x) ∧ f x := by
  unfold gI at h
  split at h
  · exact ⟨_, rfl, h⟩
  · exact h.elim
theorem gL_e {v : Option TV} {f : Int → Prop} (h : gL' v f) : ∃ x, v = some (vL x) ∧ f x := by
  unfold gL' at h
  split at h
  · exact ⟨_, rfl, h⟩
  · exact h.elim
theorem gR_e {v : Option TV} {f : Int → Prop} (h : gR v f) : ∃ x, v = some (vR x) ∧ f x := by
  unfold gR at h
  split at h
  · exact ⟨_, rfl, h⟩
  · exact h.elim
/-- n values off the stack, the last pushed last; those below take at most 8 -/
def pN : Nat → List TV → List TV → (List TV → List TV → Prop) → Prop
  | 0, as, st, f => (st.map catT).sum ≤ 8 ∧ f as st
  | n + 1, as, v :: st, f => pN n (v :: as) st f
  | _ + 1, _, [], _ => False
theorem pN_e : ∀ (n : Nat) (as st : List TV) (f : List TV → List TV → Prop), pN n as st f → ∃ bs r, st = bs.reverse ++ r ∧ bs.length = n ∧ (r.map catT).sum ≤ 8 ∧ f (bs ++ as) r
  | 0, as, st, f, h => ⟨[], st, rfl, rfl, h.1, h.2⟩
  | n + 1, as, v :: st, f, h => by
    obtain ⟨bs, r, h1, h2, h3, h4⟩ := pN_e n (v :: as) st f h
    refine ⟨bs ++ [v], r, ?_, by simp [h2], h3, by simpa using h4⟩
    rw [h1]
    simp
  | _ + 1, _, [], _, h => h.elim
def swL (x : Int) (d : Prop) : List (Int × Prop) → Prop
  | [] => d
  | (k, p) :: r => (x = k → p) ∧ (x ≠ k → swL x d r)
def isArr (t : Tau) (x : Int) : Prop := 0 ≤ x ∧ ∃ ty n, ty ≤ 5 ∧ n < 2147483648 ∧ t[x.toNat]? = some (.inr (ty, n))
theorem isArr_T {t : Tau} {x : Int} (h : isArr t x) : ∃ ty, ty ≤ 5 ∧ isT t x ty ∧ lenOf t x < 2147483648 := by
  obtain ⟨h0, ty, n, h1, h2, h3⟩ := h
  have hn : lenOf t x = n := by unfold lenOf; rw [h3]
  exact ⟨ty, h1, ⟨h0, by rw [hn]; exact h3⟩, by rw [hn]; exact h2⟩
def cnd (c : Jvm.ClassFile.Cond) (x y : Int) : Prop := match c with
  | .eq => x = y
  | .ne => x ≠ y
  | .lt => x < y
  | .ge => y ≤ x
  | .gt => y < x
  | .le => x ≤ y
abbrev EC : Type := Nat → List TV → Tau → Mem → Post → Prop
def ex1 (g : GE) (E : EC) (J : Nat → Cont) (Q : Post) (i : Instr) (k : Cont) (kc ks : Nat) (ls : List (Nat × TV)) (st : List TV) (t : Tau) (σ : Mem) : Prop := match i with
  | .iconst n => k kc ks ls (vI n :: st) t σ
  | .ldc2_w n => k kc ks ls (vL n :: st) t σ
  | .aconst_null => k kc ks ls (vR (-1) :: st) t σ
  | .iload j => gI (lget j ls) fun x => k kc ks ls (vI x :: st) t σ
  | .lload j => gL' (lget j ls) fun x => k kc ks ls (vL x :: st) t σ
  | .aload j => gR (lget j ls) fun x => k kc ks ls (vR x :: st) t σ
  | .istore j => pI st fun x r => k kc ks (lset j (vI x) ls) r t σ
  | .lstore j => pL st fun x r => k kc ks (lset j (vL x) ls) r t σ
  | .astore j => pR st fun x r => k kc ks (lset j (vR x) ls) r t σ
  | .iinc j n => gI (lget j ls) fun x => k kc ks (lset j (vI (w32 (x + n))) ls) st t σ
  | .iadd => pI st fun y r => pI r fun x r => k kc ks ls (vI (w32 (x + y)) :: r) t σ
  | .isub => pI st fun y r => pI r fun x r => k kc ks ls (vI (w32 (x - y)) :: r) t σ
  | .imul => pI st fun y r => pI r fun x r => k kc ks ls (vI (w32 (x * y)) :: r) t σ
  | .idiv => pI st fun y r => pI r fun x r => y ≠ 0 ∧ k kc ks ls (vI (w32 (x.tdiv y)) :: r) t σ
  | .irem => pI st fun y r => pI r fun x r => y ≠ 0 ∧ k kc ks ls (vI (w32 (x.tmod y)) :: r) t σ
  | .iand => pI st fun y r => pI r fun x r => k kc ks ls (vI (iand x y) :: r) t σ
  | .ior => pI st fun y r => pI r fun x r => k kc ks ls (vI (ior x y) :: r) t σ
  | .ixor => pI st fun y r => pI r fun x r => k kc ks ls (vI (ixor x y) :: r) t σ
  | .ishl => pI st fun y r => pI r fun x r => k kc ks ls (vI (ishl x y) :: r) t σ
  | .ishr => pI st fun y r => pI r fun x r => k kc ks ls (vI (ishr x y) :: r) t σ
  | .iushr => pI st fun y r => pI r fun x r => k kc ks ls (vI (iushr x y) :: r) t σ
  | .ineg => pI st fun x r => k kc ks ls (vI (w32 (-x)) :: r) t σ
  | .ladd => pL st fun y r => pL r fun x r => k kc ks ls (vL (w64 (x + y)) :: r) t σ
  | .lsub => pL st fun y r => pL r fun x r => k kc ks ls (vL (w64 (x - y)) :: r) t σ
  | .lmul => pL st fun y r => pL r fun x r => k kc ks ls (vL (w64 (x * y)) :: r) t σ
  | .ldiv => pL st fun y r => pL r fun x r => y ≠ 0 ∧ k kc ks ls (vL (w64 (x.tdiv y)) :: r) t σ
  | .lrem => pL st fun y r => pL r fun x r => y ≠ 0 ∧ k kc ks ls (vL (w64 (x.tmod y)) :: r) t σ
  | .lcmp => pL st fun y r => pL r fun x r => k kc ks ls (vI (icmp x y) :: r) t σ
  | .i2l => pI st fun x r => k kc ks ls (vL x :: r) t σ
  | .i2b => pI st fun x r => k kc ks ls (vI (i8 x) :: r) t σ
  | .i2s => pI st fun x r => k kc ks ls (vI (i16 x) :: r) t σ
  | .i2c => pI st fun x r => k kc ks ls (vI (iu16 x) :: r) t σ
  | .dup => pV st fun v r => k kc ks ls (v :: v :: r) t σ
  | .pop => pV st fun _ r => k kc ks ls r t σ
  | .dup_x1 => pV st fun v r => pV r fun w r => k kc ks ls (v :: w :: v :: r) t σ
  | .dup2 => pV st fun v r => pV r fun w r => k kc ks ls (v :: w :: v :: w :: r) t σ
  | .getfield n => pR st fun x r => isO t x (n / 256) ∧ k kc ks ls ((if n % 4 ≤ 1 then vI (σ x (n / 4 % 64 : Nat)) else if n % 4 = 2 then vR (σ x (n / 4 % 64 : Nat)) else vR (finOf t x (n / 4 % 64))) :: r) t σ
  | .putfield n => if n % 4 = 2 then pR st fun y r => pR r fun x r => isO t x (n / 256) ∧ k kc ks ls r t (up σ x (n / 4 % 64 : Nat) y)
      else pI st fun y r => pR r fun x r => isO t x (n / 256) ∧ (n % 4 = 0 ∨ (n % 4 = 1 ∧ (y = 0 ∨ y = 1))) ∧ k kc ks ls r t (up σ x (n / 4 % 64 : Nat) y)
  | .iaload => pI st fun j r => pR r fun x r => isT t x 0 ∧ (0 ≤ j ∧ j < lenOf t x) ∧ k kc ks ls (vI (σ x j) :: r) t σ
  | .baload => pI st fun j r => pR r fun x r => isT t x 2 ∧ (0 ≤ j ∧ j < lenOf t x) ∧ k kc ks ls (vI (σ x j) :: r) t σ
  | .saload => pI st fun j r => pR r fun x r => isT t x 3 ∧ (0 ≤ j ∧ j < lenOf t x) ∧ k kc ks ls (vI (σ x j) :: r) t σ
  | .caload => pI st fun j r => pR r fun x r => isT t x 4 ∧ (0 ≤ j ∧ j < lenOf t x) ∧ k kc ks ls (vI (σ x j) :: r) t σ
  | .daload => pI st fun j r => pR r fun x r => if x = -2 then (0 ≤ j ∧ j < 7) ∧ k kc ks ls (vI (sCt g 2 j.toNat) :: r) t σ else isT t x 4 ∧ (0 ≤ j ∧ j < lenOf t x) ∧ k kc ks ls (vI (σ x j) :: r) t σ
  | .faload => pI st fun j r => pR r fun x r => (3 ≤ (-x).toNat ∧ (-x).toNat ≤ 5 ∧ x < 0) ∧ (0 ≤ j ∧ j < sLen g (-x).toNat) ∧ k kc ks ls (vI (sCt g (-x).toNat j.toNat) :: r) t σ
  | .laload => pI st fun j r => pR r fun x r => isT t x 1 ∧ (0 ≤ j ∧ j < lenOf t x) ∧ k kc ks ls (vL (σ x j) :: r) t σ
  | .aaload => pI st fun j r => pR r fun x r => isT t x 5 ∧ (0 ≤ j ∧ j < lenOf t x) ∧ k kc ks ls (vR (σ x j) :: r) t σ
  | .iastore => pI st fun y r => pI r fun j r => pR r fun x r => isT t x 0 ∧ (0 ≤ j ∧ j < lenOf t x) ∧ k kc ks ls r t (up σ x j y)
  | .bastore => pI st fun y r => pI r fun j r => pR r fun x r => isT t x 2 ∧ (0 ≤ j ∧ j < lenOf t x) ∧ k kc ks ls r t (up σ x j (i8 y))
  | .sastore => pI st fun y r => pI r fun j r => pR r fun x r => isT t x 3 ∧ (0 ≤ j ∧ j < lenOf t x) ∧ k kc ks ls r t (up σ x j (i1 y))
  | .castore => pI st fun y r => pI r fun j r => pR r fun x r => isT t x 4 ∧ (0 ≤ j ∧ j < lenOf t x) ∧ k kc ks ls r t (up σ x j (ich y))
  | .lastore => pL st fun y r => pI r fun j r => pR r fun x r => isT t x 1 ∧ (0 ≤ j ∧ j < lenOf t x) ∧ k kc ks ls r t (up σ x j y)
  | .aastore => pR st fun y r => pI r fun j r => pR r fun x r => isT t x 5 ∧ isO t y 5 ∧ (0 ≤ j ∧ j < lenOf t x) ∧ k kc ks ls r t (up σ x j y)
  | .arraylength => pR st fun x r => if x < 0 then (2 ≤ (-x).toNat ∧ (-x).toNat ≤ 5) ∧ k kc ks ls (vI (sLen g (-x).toNat) :: r) t σ else isArr t x ∧ k kc ks ls (vI (lenOf t x) :: r) t σ
  | .getstatic n => k kc ks ls (vR (-(n : Int)) :: st) t σ
  | .goto n => J n.toNat kc ks ls st t σ
  | .goto_w n => J n.toNat kc ks ls st t σ
  | .ifCond c n => pI st fun x r => (cnd c x 0 → J n.toNat kc ks ls r t σ) ∧ (¬ cnd c x 0 → k kc ks ls r t σ)
  | .if_icmp c n => pI st fun y r => pI r fun x r => (cnd c x y → J n.toNat kc ks ls r t σ) ∧ (¬ cnd c x y → k kc ks ls r t σ)
  | .ifnull n => pR st fun x r => (x = -1 → J n.toNat kc ks ls r t σ) ∧ (¬ x = -1 → k kc ks ls r t σ)
  | .ifnonnull n => pR st fun x r => (¬ x = -1 → J n.toNat kc ks ls r t σ) ∧ (x = -1 → k kc ks ls r t σ)
  | .lookupswitch n ps => pI st fun x r => swL x (J n.toNat kc ks ls r t σ) (ps.toList.map fun q => (q.1, J q.2.toNat kc ks ls r t σ))
  | .invokevirtual n => pN (n / 16 % 8) [] st fun as r => pR r fun x r => (r.map catT).sum ≤ 8 ∧ isO t x (n % 16) ∧ E (n / 128) (vR x :: as) t σ fun v t' σ' => k kc ks ls (v.toList ++ r) t' σ'
  | .invokestatic n => pN (n / 16 % 8) [] st fun as r => E (n / 128) as t σ fun v t' σ' => k kc ks ls (v.toList ++ r) t' σ'
  | .invokedynamic _ => pI st fun n r => pI r fun dp r => pR r fun b r => pI r fun sp r => pR r fun a r => isT t a 0 ∧ isT t b 0 ∧ (0 ≤ sp ∧ 0 ≤ dp ∧ 0 ≤ n ∧ sp + n ≤ lenOf t a ∧ dp + n ≤ lenOf t b) ∧ (r.map catT).sum ≤ 8 ∧ k kc ks ls r t (cpy σ a sp b dp n)
  | .ireturn => pI st fun x r => r = [] ∧ (kc = 0 ∨ gB g = false) ∧ Q (some (vI x)) t σ
  | .freturn => pI st fun x r => r = [] ∧ (kc = 0 ∨ gB g = false) ∧ (x = 0 ∨ x = 1) ∧ Q (some (vI x)) t σ
  | .dreturn => pI st fun x r => r = [] ∧ (kc = 0 ∨ gB g = false) ∧ (0 ≤ x ∧ x < 65536) ∧ Q (some (vI x)) t σ
  | .lreturn => pL st fun x r => r = [] ∧ (kc = 0 ∨ gB g = false) ∧ Q (some (vL x)) t σ
  | .areturn => pR st fun x r => r = [] ∧ (kc = 0 ∨ gB g = false) ∧ Q (some (vR x)) t σ
  | .return_ => st = [] ∧ (kc = 0 ∨ gB g = false) ∧ Q none t σ
  | _ => False
def inb (x : Int) : Bool := decide (-2147483648 ≤ x) && decide (x < 2147483648)
theorem inb_b {x : Int} (h : inb x = true) : b32 x := by
  unfold inb at h
  simp only [Bool.and_eq_true, decide_eq_true_eq] at h
  exact h
/-- the instruction a, of len bytes at pc of method e, is what i says -/
def agr (e pc : Nat) (a : Instr) (len : Nat) (i : Instr) : Bool := match i with
  | .iconst v => inb v && (match a with
    | .iconst n => decide (n = v) && decide (len = 1)
    | .bipush n => decide ((Int8.ofInt n).toInt32 = Int32.ofInt v) && decide (len = 2)
    | .sipush n => decide ((Int16.ofInt n).toInt32 = Int32.ofInt v) && decide (len = 3)
    | .ldc n => decide ((mK e, n, v) ∈ kT) && decide (len = 2)
    | .ldc_w n => decide ((mK e, n, v) ∈ kT) && decide (len = 3)
    | _ => false)
  | .ldc2_w v => decide (v < 1000000) && (match a with
    | .lconst n => decide (Int64.ofNat n = Int64.ofInt v) && decide (len = 1)
    | .ldc2_w n => inALL [Cond.constantLong (mN e).cls n (Int64.ofInt v)] && decide (len = 3)
    | _ => false)
  | .iload j => (match a with
    | .iload n => decide (n = j) && decide (len = 2)
    | .iload_n n => decide ((n : Nat) = j) && decide (len = 1)
    | _ => false)
  | .lload j => (match a with
    | .lload n => decide (n = j) && decide (len = 2)
    | .lload_n n => decide ((n : Nat) = j) && decide (len = 1)
    | _ => false)
  | .aload j => (match a with
    | .aload n => decide (n = j) && decide (len = 2)
    | .aload_n n => decide ((n : Nat) = j) && decide (len = 1)
    | _ => false)
  | .istore j => decide (j < mL e) && (match a with
    | .istore n => decide (n = j) && decide (len = 2)
    | .istore_n n => decide ((n : Nat) = j) && decide (len = 1)
    | _ => false)
  | .lstore j => decide (j + 1 < mL e) && (match a with
    | .lstore n => decide (n = j) && decide (len = 2)
    | .lstore_n n => decide ((n : Nat) = j) && decide (len = 1)
    | _ => false)
  | .astore j => decide (j < mL e) && (match a with
    | .astore n => decide (n = j) && decide (len = 2)
    | .astore_n n => decide ((n : Nat) = j) && decide (len = 1)
    | _ => false)
  | .iinc j n => decide (j < mL e) && decide (a = .iinc j n) && decide (len = 3)
  | .getfield n => decide ((n / 256, n / 4 % 64, n % 4) ∈ kdT) && decide (len = 3) && (match a with
    | .getfield idx => decide ((mK e, idx, n / 256, n / 4 % 64) ∈ fT)
    | _ => false)
  | .putfield n => decide ((n / 256, n / 4 % 64, n % 4) ∈ kdT) && decide (n % 4 ≤ 2) && decide (len = 3) && (match a with
    | .putfield idx => decide ((mK e, idx, n / 256, n / 4 % 64) ∈ fT)
    | _ => false)
  | .getstatic n => decide (2 ≤ n) && decide (n ≤ 4) && decide (len = 3) && (match a with
    | .getstatic idx => decide ((mK e, idx, n) ∈ sT)
    | _ => false)
  | .saload => decide (a = .baload) && decide (len = 1)
  | .sastore => decide (a = .bastore) && decide (len = 1)
  | .daload => decide (a = .caload) && decide (len = 1)
  | .faload => decide (a = .iaload) && decide (len = 1)
  | .goto n => decide (0 ≤ n) && (match a with
    | .goto off => decide ((pc : Int) + off = n) && decide (len = 3)
    | _ => false)
  | .ifCond c n => decide (0 ≤ n) && (match a with
    | .ifCond c' off => decide (c' = c) && decide ((pc : Int) + off = n) && decide (len = 3)
    | _ => false)
  | .if_icmp c n => decide (0 ≤ n) && (match a with
    | .if_icmp c' off => decide (c' = c) && decide ((pc : Int) + off = n) && decide (len = 3)
    | _ => false)
  | .ifnull n => decide (0 ≤ n) && (match a with
    | .ifnull off => decide ((pc : Int) + off = n) && decide (len = 3)
    | _ => false)
  | .ifnonnull n => decide (0 ≤ n) && (match a with
    | .ifnonnull off => decide ((pc : Int) + off = n) && decide (len = 3)
    | _ => false)
  | .lookupswitch n ps => decide (0 ≤ n) && ps.toList.all (fun q => decide (0 ≤ q.2)) && (match a with
    | .lookupswitch dflt qs => decide ((pc : Int) + dflt = n) && (qs.toList.zip (qs.toList.drop 1)).all (fun (a, next) => a.1 < next.1) && decide (qs.toList.map (fun q => (q.1, (pc : Int) + q.2)) = ps.toList)
    | .tableswitch dflt lo hi offs => decide ((pc : Int) + dflt = n) && decide (hi = lo + offs.size - 1) && decide (offs.toList.mapIdx (fun j o => (lo + j, (pc : Int) + o)) = ps.toList)
    | _ => false)
  | .invokevirtual n => decide (len = 3) && (match a with
    | .invokevirtual idx => (decide ((mK e, idx, n / 128, n / 16 % 8, 0) ∈ cT) || decide ((mK e, idx, n / 128, n / 16 % 8, 1) ∈ cT)) && decide (mK (n / 128) = n % 16) && decide (n % 16 < 10) && decide (n / 128 < 293)
    | _ => false)
  | .invokestatic n => decide (len = 3) && (match a with
    | .invokestatic idx => decide ((mK e, idx, n / 128, n / 16 % 8, 2) ∈ cT) || decide ((mK e, idx, n / 128, n / 16 % 8, 3) ∈ cT)
    | _ => false)
  | .invokedynamic _ => decide (len = 3) && (match a with
    | .invokestatic idx => decide ((mK e, idx) ∈ pT)
    | _ => false)
  | .ireturn => decide (a = .ireturn) && decide (len = 1) && decide (mR e = some .int)
  | .freturn => decide (a = .ireturn) && decide (len = 1) && decide (mR e = some .boolean)
  | .dreturn => decide (a = .ireturn) && decide (len = 1) && decide (mR e = some .char)
  | .lreturn => decide (a = .lreturn) && decide (len = 1) && decide (mR e = some .long)
  | .areturn => decide (a = .areturn) && decide (len = 1) && (match mR e with
    | some (.object _) => true
    | _ => false)
  | .return_ => decide (a = .return_) && decide (len = 1) && decide (mR e = none)
  | .goto_w _ => false
  | i => decide (a = i) && decide (len = 1)
theorem mK_all : (List.range 293).all (fun e => decide ((mN e).cls = cn (mK e))) = true := by decide +kernel
theorem mK_ok {e : Nat} (h : e < 293) : (mN e).cls = cn (mK e) := of_decide_eq_true (List.all_eq_true.mp mK_all e (List.mem_range.mpr h))
theorem cn_cls {i : Nat} (h : i < 10) : ∃ q : vw_C, vwCl[i]? = some q ∧ q.1 = cn i := by
  match i, h with
  | 0, _ => exact ⟨_, rfl, rfl⟩
  | 1, _ => exact ⟨_, rfl, rfl⟩
  | 2, _ => exact ⟨_, rfl, rfl⟩
  | 3, _ => exact ⟨_, rfl, rfl⟩
  | 4, _ => exact ⟨_, rfl, rfl⟩
  | 5, _ => exact ⟨_, rfl, rfl⟩
  | 6, _ => exact ⟨_, rfl, rfl⟩
  | 7, _ => exact ⟨_, rfl, rfl⟩
  | 8, _ => exact ⟨_, rfl, rfl⟩
  | 9, _ => exact ⟨_, rfl, rfl⟩
theorem WPc_mono {l : Launch} {g : GE} {e d kc ks : Nat} {as : List TV} {t : Tau} {σ : Mem} {Q Q' : Post} (h : ∀ v t σ, Q v t σ → Q' v t σ) (hw : WPc l g e d kc ks as t σ Q) : WPc l g e d kc ks as t σ Q' := by
  intro p en ha hc hk s m args below hf happ hP ht
  obtain ⟨n, o, h1, h2, h3, ⟨v, t', σ', q1, q2, q3⟩, q4⟩ := hw p en ha hc hk s m args below hf happ hP ht
  exact ⟨n, o, h1, h2, h3, ⟨v, t', σ', q1, h _ _ _ q2, q3⟩, q4⟩
section EX
variable {l : Launch} {g : GE} {e d kc ks pc len : Nat} {ls : List (Nat × TV)} {st : List TV} {t : Tau} {σ : Mem} {Q : Post} {E : EC} {J : Nat → Cont} {k : Cont} {a i : Instr}
theorem toN {n : Int} (h : 0 ≤ n) : n = (n.toNat : Int) := (Int.toNat_of_nonneg h).symm
theorem swL_all {x : Int} {dflt : Prop} (hd : dflt) : ∀ (ps : List (Int × Prop)), (∀ q ∈ ps, q.2) → swL x dflt ps
  | [], _ => hd
  | q :: r, h => ⟨fun _ => h q List.mem_cons_self, fun _ => swL_all hd r fun q hq => h q (List.mem_cons_of_mem _ hq)⟩
theorem lsw_ok (P : Int → Prop) (x pc dflt : Int) : ∀ qs : List (Int × Int), swL x (P (pc + dflt)) (qs.map fun q => (q.1, P (pc + q.2))) → P (pc + Op.lookupswitch.offset qs dflt x)
  | [], h => h
  | (k, o) :: r, h => by
    rw [Op.lookupswitch.offset_cons]
    by_cases hx : k = x
    · rw [if_pos hx]; exact h.1 hx.symm
    · rw [if_neg hx]; exact lsw_ok P x pc dflt r (h.2 fun z => hx z.symm)
theorem tsw_ok (P : Int → Prop) (x pc dflt : Int) : ∀ (os : List Int) (lo : Int), swL x (P (pc + dflt)) (os.mapIdx fun j o => (lo + j, P (pc + o))) → ((x < lo ∨ lo + os.length ≤ x) ∧ P (pc + dflt)) ∨ ∃ off, lo ≤ x ∧ x < lo + os.length ∧ os[(x - lo).toNat]? = some off ∧ P (pc + off)
  | [], lo, h => Or.inl ⟨by simp; omega, h⟩
  | o :: r, lo, h => by
    rw [List.mapIdx_cons] at h
    by_cases hx : x = lo
    · refine Or.inr ⟨o, by omega, by simp; omega, ?_, h.1 (by simpa using hx)⟩
      rw [hx, show lo - lo = 0 by omega]
      rfl
    · have h2 := h.2 (by simpa using hx)
      have e1 : (r.mapIdx fun j o => (lo + (j + 1 : Nat), P (pc + o))) = r.mapIdx fun j o => ((lo + 1) + (j : Nat), P (pc + o)) := by
        congr 1
        funext j o
        congr 1
        push_cast
        omega
      rw [e1] at h2
      rcases tsw_ok P x pc dflt r (lo + 1) h2 with ⟨q1, q2⟩ | ⟨off, q1, q2, q3, q4⟩
      · exact Or.inl ⟨by simp only [List.length_cons]; omega, q2⟩
      · refine Or.inr ⟨off, by omega, by simp only [List.length_cons]; omega, ?_, q4⟩
        rw [show (x - lo).toNat = (x - (lo + 1)).toNat + 1 by omega]
        exact q3
set_option maxHeartbeats 4000000 in
theorem ex1_ok (hE : e < 293) (hEC : ∀ e' as t σ Q', E e' as t σ Q' → WPc l g e' d 0 0 as t σ Q') (hag : agr e pc a len i = true) (hd : decode (mC e) pc = .ok (a, len)) (hk : ∀ kc ks ls st t σ, k kc ks ls st t σ → Wp l g e (d + 1) kc ks (pc + len) ls st t σ Q) (hJ : ∀ tg kc ks ls st t σ, J tg kc ks ls st t σ → Wp l g e (d + 1) kc ks tg ls st t σ Q)
    (h : ex1 g E J Q i k kc ks ls st t σ) : Wp l g e (d + 1) kc ks pc ls st t σ Q := by
  have he := mK_ok hE
  cases i with
  | iconst v =>
    simp only [agr, Bool.and_eq_true] at hag
    obtain ⟨hv, hag⟩ := hag
    have hb := inb_b hv
    split at hag <;> (try simp only [Bool.and_eq_true, decide_eq_true_eq] at hag)
    · obtain ⟨rfl, rfl⟩ := hag
      exact r_iconst hb hd (hk _ _ _ _ _ _ h)
    · obtain ⟨h1, rfl⟩ := hag
      exact r_bipush hb h1 hd (hk _ _ _ _ _ _ h)
    · obtain ⟨h1, rfl⟩ := hag
      exact r_sipush hb h1 hd (hk _ _ _ _ _ _ h)
    · obtain ⟨h1, rfl⟩ := hag
      exact r_ldc hb (inALL_of (by have := kT_ok _ h1; unfold kOK at this; rw [← he] at this; exact this) _ m1) hd (hk _ _ _ _ _ _ h)
    · obtain ⟨h1, rfl⟩ := hag
      exact r_ldcw hb (inALL_of (by have := kT_ok _ h1; unfold kOK at this; rw [← he] at this; exact this) _ m1) hd (hk _ _ _ _ _ _ h)
    · cases hag
  | ldc2_w v =>
    simp only [agr, Bool.and_eq_true, decide_eq_true_eq] at hag
    obtain ⟨hv, hag⟩ := hag
    have hb : b64 (v : Int) := by unfold b64; omega
    split at hag <;> (try simp only [Bool.and_eq_true, decide_eq_true_eq] at hag)
    · obtain ⟨h1, rfl⟩ := hag
      exact r_lconst hb h1 hd (hk _ _ _ _ _ _ h)
    · obtain ⟨h1, rfl⟩ := hag
      exact r_ldc2 hb (inALL_of h1 _ m1) hd (hk _ _ _ _ _ _ h)
    · cases hag
  | iload j =>
    simp only [agr] at hag
    obtain ⟨x, hx, h_1⟩ := gI_e h
    split at hag <;> (try simp only [Bool.and_eq_true, decide_eq_true_eq] at hag)
    · obtain ⟨rfl, rfl⟩ := hag
      exact r_iload hx hd (hk _ _ _ _ _ _ h_1)
    · obtain ⟨rfl, rfl⟩ := hag
      exact r_iload_n hx hd (hk _ _ _ _ _ _ h_1)
    · cases hag
  | lload j =>
    simp only [agr] at hag
    obtain ⟨x, hx, h_1⟩ := gL_e h
    split at hag <;> (try simp only [Bool.and_eq_true, decide_eq_true_eq] at hag)
    · obtain ⟨rfl, rfl⟩ := hag
      exact r_lload hx hd (hk _ _ _ _ _ _ h_1)
    · obtain ⟨rfl, rfl⟩ := hag
      exact r_lload_n hx hd (hk _ _ _ _ _ _ h_1)
    · cases hag
  | aload j =>
    simp only [agr] at hag
    obtain ⟨x, hx, h_1⟩ := gR_e h
    split at hag <;> (try simp only [Bool.and_eq_true, decide_eq_true_eq] at hag)
    · obtain ⟨rfl, rfl⟩ := hag
      exact r_aload hx hd (hk _ _ _ _ _ _ h_1)
    · obtain ⟨rfl, rfl⟩ := hag
      exact r_aload_n hx hd (hk _ _ _ _ _ _ h_1)
    · cases hag
  | istore j =>
    simp only [agr, Bool.and_eq_true, decide_eq_true_eq] at hag
    obtain ⟨hj, hag⟩ := hag
    obtain ⟨x, r_1, rfl, h_1⟩ := pI_e h
    split at hag <;> (try simp only [Bool.and_eq_true, decide_eq_true_eq] at hag)
    · obtain ⟨rfl, rfl⟩ := hag
      exact r_istore hj hd (hk _ _ _ _ _ _ h_1)
    · obtain ⟨rfl, rfl⟩ := hag
      exact r_istore_n hj hd (hk _ _ _ _ _ _ h_1)
    · cases hag
  | lstore j =>
    simp only [agr, Bool.and_eq_true, decide_eq_true_eq] at hag
    obtain ⟨hj, hag⟩ := hag
    obtain ⟨x, r_1, rfl, h_1⟩ := pL_e h
    split at hag <;> (try simp only [Bool.and_eq_true, decide_eq_true_eq] at hag)
    · obtain ⟨rfl, rfl⟩ := hag
      exact r_lstore hj hd (hk _ _ _ _ _ _ h_1)
    · obtain ⟨rfl, rfl⟩ := hag
      exact r_lstore_n hj hd (hk _ _ _ _ _ _ h_1)
    · cases hag
  | astore j =>
    simp only [agr, Bool.and_eq_true, decide_eq_true_eq] at hag
    obtain ⟨hj, hag⟩ := hag
    obtain ⟨x, r_1, rfl, h_1⟩ := pR_e h
    split at hag <;> (try simp only [Bool.and_eq_true, decide_eq_true_eq] at hag)
    · obtain ⟨rfl, rfl⟩ := hag
      exact r_astore hj hd (hk _ _ _ _ _ _ h_1)
    · obtain ⟨rfl, rfl⟩ := hag
      exact r_astore_n hj hd (hk _ _ _ _ _ _ h_1)
    · cases hag
  | iinc j n =>
    simp only [agr, Bool.and_eq_true, decide_eq_true_eq] at hag
    obtain ⟨⟨hj, rfl⟩, rfl⟩ := hag
    obtain ⟨x, hx, h_1⟩ := gI_e h
    exact r_iinc hx hj hd (hk _ _ _ _ _ _ h_1)
  | aconst_null =>
    simp only [agr, Bool.and_eq_true, decide_eq_true_eq] at hag
    obtain ⟨rfl, rfl⟩ := hag
    exact r_null hd (hk _ _ _ _ _ _ h)
  | iadd =>
    simp only [agr, Bool.and_eq_true, decide_eq_true_eq] at hag
    obtain ⟨rfl, rfl⟩ := hag
    obtain ⟨y, r_1, rfl, h_1⟩ := pI_e h
    obtain ⟨x, r_2, rfl, h_2⟩ := pI_e h_1
    exact r_iadd hd (hk _ _ _ _ _ _ h_2)
  | isub =>
    simp only [agr, Bool.and_eq_true, decide_eq_true_eq] at hag
    obtain ⟨rfl, rfl⟩ := hag
    obtain ⟨y, r_1, rfl, h_1⟩ := pI_e h
    obtain ⟨x, r_2, rfl, h_2⟩ := pI_e h_1
    exact r_isub hd (hk _ _ _ _ _ _ h_2)
  | imul =>
    simp only [agr, Bool.and_eq_true, decide_eq_true_eq] at hag
    obtain ⟨rfl, rfl⟩ := hag
    obtain ⟨y, r_1, rfl, h_1⟩ := pI_e h
    obtain ⟨x, r_2, rfl, h_2⟩ := pI_e h_1
    exact r_imul hd (hk _ _ _ _ _ _ h_2)
  | iand =>
    simp only [agr, Bool.and_eq_true, decide_eq_true_eq] at hag
    obtain ⟨rfl, rfl⟩ := hag
    obtain ⟨y, r_1, rfl, h_1⟩ := pI_e h
    obtain ⟨x, r_2, rfl, h_2⟩ := pI_e h_1
    exact r_iand hd (hk _ _ _ _ _ _ h_2)
  | ior =>
    simp only [agr, Bool.and_eq_true, decide_eq_true_eq] at hag
    obtain ⟨rfl, rfl⟩ := hag
    obtain ⟨y, r_1, rfl, h_1⟩ := pI_e h
    obtain ⟨x, r_2, rfl, h_2⟩ := pI_e h_1
    exact r_ior hd (hk _ _ _ _ _ _ h_2)
  | ixor =>
    simp only [agr, Bool.and_eq_true, decide_eq_true_eq] at hag
    obtain ⟨rfl, rfl⟩ := hag
    obtain ⟨y, r_1, rfl, h_1⟩ := pI_e h
    obtain ⟨x, r_2, rfl, h_2⟩ := pI_e h_1
    exact r_ixor hd (hk _ _ _ _ _ _ h_2)
  | ishl =>
    simp only [agr, Bool.and_eq_true, decide_eq_true_eq] at hag
    obtain ⟨rfl, rfl⟩ := hag
    obtain ⟨y, r_1, rfl, h_1⟩ := pI_e h
    obtain ⟨x, r_2, rfl, h_2⟩ := pI_e h_1
    exact r_ishl hd (hk _ _ _ _ _ _ h_2)
  | ishr =>
    simp only [agr, Bool.and_eq_true, decide_eq_true_eq] at hag
    obtain ⟨rfl, rfl⟩ := hag
    obtain ⟨y, r_1, rfl, h_1⟩ := pI_e h
    obtain ⟨x, r_2, rfl, h_2⟩ := pI_e h_1
    exact r_ishr hd (hk _ _ _ _ _ _ h_2)
  | iushr =>
    simp only [agr, Bool.and_eq_true, decide_eq_true_eq] at hag
    obtain ⟨rfl, rfl⟩ := hag
    obtain ⟨y, r_1, rfl, h_1⟩ := pI_e h
    obtain ⟨x, r_2, rfl, h_2⟩ := pI_e h_1
    exact r_iushr hd (hk _ _ _ _ _ _ h_2)
  | ladd =>
    simp only [agr, Bool.and_eq_true, decide_eq_true_eq] at hag
    obtain ⟨rfl, rfl⟩ := hag
    obtain ⟨y, r_1, rfl, h_1⟩ := pL_e h
    obtain ⟨x, r_2, rfl, h_2⟩ := pL_e h_1
    exact r_ladd hd (hk _ _ _ _ _ _ h_2)
  | lsub =>
    simp only [agr, Bool.and_eq_true, decide_eq_true_eq] at hag
    obtain ⟨rfl, rfl⟩ := hag
    obtain ⟨y, r_1, rfl, h_1⟩ := pL_e h
    obtain ⟨x, r_2, rfl, h_2⟩ := pL_e h_1
    exact r_lsub hd (hk _ _ _ _ _ _ h_2)
  | lmul =>
    simp only [agr, Bool.and_eq_true, decide_eq_true_eq] at hag
    obtain ⟨rfl, rfl⟩ := hag
    obtain ⟨y, r_1, rfl, h_1⟩ := pL_e h
    obtain ⟨x, r_2, rfl, h_2⟩ := pL_e h_1
    exact r_lmul hd (hk _ _ _ _ _ _ h_2)
  | lcmp =>
    simp only [agr, Bool.and_eq_true, decide_eq_true_eq] at hag
    obtain ⟨rfl, rfl⟩ := hag
    obtain ⟨y, r_1, rfl, h_1⟩ := pL_e h
    obtain ⟨x, r_2, rfl, h_2⟩ := pL_e h_1
    exact r_lcmp hd (hk _ _ _ _ _ _ h_2)
  | idiv =>
    simp only [agr, Bool.and_eq_true, decide_eq_true_eq] at hag
    obtain ⟨rfl, rfl⟩ := hag
    obtain ⟨y, r_1, rfl, h_1⟩ := pI_e h
    obtain ⟨x, r_2, rfl, h_2⟩ := pI_e h_1
    exact r_idiv h_2.1 hd (hk _ _ _ _ _ _ h_2.2)
  | irem =>
    simp only [agr, Bool.and_eq_true, decide_eq_true_eq] at hag
    obtain ⟨rfl, rfl⟩ := hag
    obtain ⟨y, r_1, rfl, h_1⟩ := pI_e h
    obtain ⟨x, r_2, rfl, h_2⟩ := pI_e h_1
    exact r_irem h_2.1 hd (hk _ _ _ _ _ _ h_2.2)
  | ldiv =>
    simp only [agr, Bool.and_eq_true, decide_eq_true_eq] at hag
    obtain ⟨rfl, rfl⟩ := hag
    obtain ⟨y, r_1, rfl, h_1⟩ := pL_e h
    obtain ⟨x, r_2, rfl, h_2⟩ := pL_e h_1
    exact r_ldiv h_2.1 hd (hk _ _ _ _ _ _ h_2.2)
  | lrem =>
    simp only [agr, Bool.and_eq_true, decide_eq_true_eq] at hag
    obtain ⟨rfl, rfl⟩ := hag
    obtain ⟨y, r_1, rfl, h_1⟩ := pL_e h
    obtain ⟨x, r_2, rfl, h_2⟩ := pL_e h_1
    exact r_lrem h_2.1 hd (hk _ _ _ _ _ _ h_2.2)
  | ineg =>
    simp only [agr, Bool.and_eq_true, decide_eq_true_eq] at hag
    obtain ⟨rfl, rfl⟩ := hag
    obtain ⟨x, r_1, rfl, h_1⟩ := pI_e h
    exact r_ineg hd (hk _ _ _ _ _ _ h_1)
  | i2l =>
    simp only [agr, Bool.and_eq_true, decide_eq_true_eq] at hag
    obtain ⟨rfl, rfl⟩ := hag
    obtain ⟨x, r_1, rfl, h_1⟩ := pI_e h
    exact r_i2l hd (hk _ _ _ _ _ _ h_1)
  | i2b =>
    simp only [agr, Bool.and_eq_true, decide_eq_true_eq] at hag
    obtain ⟨rfl, rfl⟩ := hag
    obtain ⟨x, r_1, rfl, h_1⟩ := pI_e h
    exact r_i2b hd (hk _ _ _ _ _ _ h_1)
  | i2s =>
    simp only [agr, Bool.and_eq_true, decide_eq_true_eq] at hag
    obtain ⟨rfl, rfl⟩ := hag
    obtain ⟨x, r_1, rfl, h_1⟩ := pI_e h
    exact r_i2s hd (hk _ _ _ _ _ _ h_1)
  | i2c =>
    simp only [agr, Bool.and_eq_true, decide_eq_true_eq] at hag
    obtain ⟨rfl, rfl⟩ := hag
    obtain ⟨x, r_1, rfl, h_1⟩ := pI_e h
    exact r_i2c hd (hk _ _ _ _ _ _ h_1)
  | dup =>
    simp only [agr, Bool.and_eq_true, decide_eq_true_eq] at hag
    obtain ⟨rfl, rfl⟩ := hag
    simp only [ex1] at h
    obtain ⟨v, r_1, rfl, hv, h_1⟩ := pV_e h
    exact r_dup hv hd (hk _ _ _ _ _ _ h_1)
  | pop =>
    simp only [agr, Bool.and_eq_true, decide_eq_true_eq] at hag
    obtain ⟨rfl, rfl⟩ := hag
    simp only [ex1] at h
    obtain ⟨v, r_1, rfl, hv, h_1⟩ := pV_e h
    exact r_pop hv hd (hk _ _ _ _ _ _ h_1)
  | dup_x1 =>
    simp only [agr, Bool.and_eq_true, decide_eq_true_eq] at hag
    obtain ⟨rfl, rfl⟩ := hag
    simp only [ex1] at h
    obtain ⟨v, r_1, rfl, hv, h_1⟩ := pV_e h
    obtain ⟨w, r_2, rfl, hw, h_2⟩ := pV_e h_1
    exact r_dup_x1 hv hw hd (hk _ _ _ _ _ _ h_2)
  | dup2 =>
    simp only [agr, Bool.and_eq_true, decide_eq_true_eq] at hag
    obtain ⟨rfl, rfl⟩ := hag
    simp only [ex1] at h
    obtain ⟨v, r_1, rfl, hv, h_1⟩ := pV_e h
    obtain ⟨w, r_2, rfl, hw, h_2⟩ := pV_e h_1
    exact r_dup2 hv hw hd (hk _ _ _ _ _ _ h_2)
  | getfield n =>
    simp only [agr, Bool.and_eq_true, decide_eq_true_eq] at hag
    obtain ⟨⟨hkd, rfl⟩, hag⟩ := hag
    obtain ⟨x, r_1, rfl, hO, h_1⟩ := pR_e h
    split at hag
    · have hag := fT_ok _ (of_decide_eq_true hag)
      unfold fOK at hag
      rw [← he] at hag
      refine r_get hO (kdT_ok _ hkd) hag hd (hk _ _ _ _ _ _ ?_)
      exact h_1
    · cases hag
  | putfield n =>
    simp only [agr, Bool.and_eq_true, decide_eq_true_eq] at hag
    obtain ⟨⟨⟨hkd, hle⟩, rfl⟩, hag⟩ := hag
    simp only [ex1] at h
    split at hag
    · have hag := fT_ok _ (of_decide_eq_true hag)
      unfold fOK at hag
      rw [← he] at hag
      have hkd := kdT_ok _ hkd
      split at h
      · rename_i h2
        obtain ⟨y, r_1, rfl, h_1⟩ := pR_e h
        obtain ⟨x, r_2, rfl, hO, h_2⟩ := pR_e h_1
        exact r_put (v := vR y) hO h2 hkd hag hd (hk _ _ _ _ _ _ h_2)
      · obtain ⟨y, r_3, rfl, h_3⟩ := pI_e h
        obtain ⟨x, r_4, rfl, hO, hp, h_4⟩ := pR_e h_3
        exact r_put (v := vI y) hO hp hkd hag hd (hk _ _ _ _ _ _ h_4)
    · cases hag
  | iaload =>
    simp only [agr, Bool.and_eq_true, decide_eq_true_eq] at hag
    obtain ⟨rfl, rfl⟩ := hag
    obtain ⟨j, r_1, rfl, h_1⟩ := pI_e h
    obtain ⟨x, r_2, rfl, hA, hj, h_2⟩ := pR_e h_1
    exact r_iald hA hj.1 hj.2 hd (hk _ _ _ _ _ _ h_2)
  | baload =>
    simp only [agr, Bool.and_eq_true, decide_eq_true_eq] at hag
    obtain ⟨rfl, rfl⟩ := hag
    obtain ⟨j, r_1, rfl, h_1⟩ := pI_e h
    obtain ⟨x, r_2, rfl, hA, hj, h_2⟩ := pR_e h_1
    exact r_bald hA hj.1 hj.2 hd (hk _ _ _ _ _ _ h_2)
  | saload =>
    simp only [agr, Bool.and_eq_true, decide_eq_true_eq] at hag
    obtain ⟨rfl, rfl⟩ := hag
    obtain ⟨j, r_1, rfl, h_1⟩ := pI_e h
    obtain ⟨x, r_2, rfl, hA, hj, h_2⟩ := pR_e h_1
    exact r_zald hA hj.1 hj.2 hd (hk _ _ _ _ _ _ h_2)
  | caload =>
    simp only [agr, Bool.and_eq_true, decide_eq_true_eq] at hag
    obtain ⟨rfl, rfl⟩ := hag
    obtain ⟨j, r_1, rfl, h_1⟩ := pI_e h
    obtain ⟨x, r_2, rfl, hA, hj, h_2⟩ := pR_e h_1
    exact r_cald hA hj.1 hj.2 hd (hk _ _ _ _ _ _ h_2)
  | laload =>
    simp only [agr, Bool.and_eq_true, decide_eq_true_eq] at hag
    obtain ⟨rfl, rfl⟩ := hag
    obtain ⟨j, r_1, rfl, h_1⟩ := pI_e h
    obtain ⟨x, r_2, rfl, hA, hj, h_2⟩ := pR_e h_1
    exact r_lald hA hj.1 hj.2 hd (hk _ _ _ _ _ _ h_2)
  | aaload =>
    simp only [agr, Bool.and_eq_true, decide_eq_true_eq] at hag
    obtain ⟨rfl, rfl⟩ := hag
    obtain ⟨j, r_1, rfl, h_1⟩ := pI_e h
    obtain ⟨x, r_2, rfl, hA, hj, h_2⟩ := pR_e h_1
    exact r_aald hA hj.1 hj.2 hd (hk _ _ _ _ _ _ h_2)
  | iastore =>
    simp only [agr, Bool.and_eq_true, decide_eq_true_eq] at hag
    obtain ⟨rfl, rfl⟩ := hag
    obtain ⟨y, r_1, rfl, h_1⟩ := pI_e h
    obtain ⟨j, r_2, rfl, h_2⟩ := pI_e h_1
    obtain ⟨x, r_3, rfl, hA, hj, h_3⟩ := pR_e h_2
    exact r_iast hA hj.1 hj.2 hd (hk _ _ _ _ _ _ h_3)
  | bastore =>
    simp only [agr, Bool.and_eq_true, decide_eq_true_eq] at hag
    obtain ⟨rfl, rfl⟩ := hag
    obtain ⟨y, r_1, rfl, h_1⟩ := pI_e h
    obtain ⟨j, r_2, rfl, h_2⟩ := pI_e h_1
    obtain ⟨x, r_3, rfl, hA, hj, h_3⟩ := pR_e h_2
    exact r_bast hA hj.1 hj.2 hd (hk _ _ _ _ _ _ h_3)
  | sastore =>
    simp only [agr, Bool.and_eq_true, decide_eq_true_eq] at hag
    obtain ⟨rfl, rfl⟩ := hag
    obtain ⟨y, r_1, rfl, h_1⟩ := pI_e h
    obtain ⟨j, r_2, rfl, h_2⟩ := pI_e h_1
    obtain ⟨x, r_3, rfl, hA, hj, h_3⟩ := pR_e h_2
    exact r_zast hA hj.1 hj.2 hd (hk _ _ _ _ _ _ h_3)
  | castore =>
    simp only [agr, Bool.and_eq_true, decide_eq_true_eq] at hag
    obtain ⟨rfl, rfl⟩ := hag
    obtain ⟨y, r_1, rfl, h_1⟩ := pI_e h
    obtain ⟨j, r_2, rfl, h_2⟩ := pI_e h_1
    obtain ⟨x, r_3, rfl, hA, hj, h_3⟩ := pR_e h_2
    exact r_cast hA hj.1 hj.2 hd (hk _ _ _ _ _ _ h_3)
  | lastore =>
    simp only [agr, Bool.and_eq_true, decide_eq_true_eq] at hag
    obtain ⟨rfl, rfl⟩ := hag
    obtain ⟨y, r_1, rfl, h_1⟩ := pL_e h
    obtain ⟨j, r_2, rfl, h_2⟩ := pI_e h_1
    obtain ⟨x, r_3, rfl, hA, hj, h_3⟩ := pR_e h_2
    exact r_last hA hj.1 hj.2 hd (hk _ _ _ _ _ _ h_3)
  | aastore =>
    simp only [agr, Bool.and_eq_true, decide_eq_true_eq] at hag
    obtain ⟨rfl, rfl⟩ := hag
    obtain ⟨y, r_1, rfl, h_1⟩ := pR_e h
    obtain ⟨j, r_2, rfl, h_2⟩ := pI_e h_1
    obtain ⟨x, r_3, rfl, hA, hy, hj, h_3⟩ := pR_e h_2
    exact r_aast hA hy hj.1 hj.2 hd (hk _ _ _ _ _ _ h_3)
  | daload =>
    simp only [agr, Bool.and_eq_true, decide_eq_true_eq] at hag
    obtain ⟨rfl, rfl⟩ := hag
    obtain ⟨j, r_1, rfl, h_1⟩ := pI_e h
    obtain ⟨x, r_2, rfl, h_2⟩ := pR_e h_1
    split at h_2
    · rename_i hx
      subst hx
      exact r_scald h_2.1.1 h_2.1.2 hd (hk _ _ _ _ _ _ h_2.2)
    · exact r_cald h_2.1 h_2.2.1.1 h_2.2.1.2 hd (hk _ _ _ _ _ _ h_2.2.2)
  | faload =>
    simp only [agr, Bool.and_eq_true, decide_eq_true_eq] at hag
    obtain ⟨rfl, rfl⟩ := hag
    obtain ⟨j, r_1, rfl, h_1⟩ := pI_e h
    obtain ⟨x, r_2, rfl, hx, hj, h_2⟩ := pR_e h_1
    have hxe : x = -(((-x).toNat : Nat) : Int) := by omega
    rw [hxe]
    exact r_sald hx.1 hx.2.1 hj.1 hj.2 hd (hk _ _ _ _ _ _ h_2)
  | arraylength =>
    simp only [agr, Bool.and_eq_true, decide_eq_true_eq] at hag
    obtain ⟨rfl, rfl⟩ := hag
    obtain ⟨x, r_1, rfl, h_1⟩ := pR_e h
    split at h_1
    · have hxe : x = -(((-x).toNat : Nat) : Int) := by omega
      rw [hxe]
      exact r_slen h_1.1.1 h_1.1.2 hd (hk _ _ _ _ _ _ h_1.2)
    · obtain ⟨ty, h1, h2, h3⟩ := isArr_T h_1.1
      exact r_alen h1 h2 h3 hd (hk _ _ _ _ _ _ h_1.2)
  | getstatic n =>
    simp only [agr, Bool.and_eq_true, decide_eq_true_eq] at hag
    obtain ⟨⟨⟨h2, h4⟩, rfl⟩, hag⟩ := hag
    split at hag
    · have hag := sT_ok _ (of_decide_eq_true hag)
      unfold sOK at hag
      rw [← he] at hag
      exact r_gets h2 h4 hag hd (hk _ _ _ _ _ _ h)
    · cases hag
  | goto n =>
    simp only [agr, Bool.and_eq_true, decide_eq_true_eq] at hag
    obtain ⟨hn, hag⟩ := hag
    split at hag
    · simp only [Bool.and_eq_true, decide_eq_true_eq] at hag
      obtain ⟨h1, rfl⟩ := hag
      exact r_goto hd (h1.trans (toN hn)) (hJ _ _ _ _ _ _ _ h)
    · cases hag
  | ifCond c n =>
    simp only [agr, Bool.and_eq_true, decide_eq_true_eq] at hag
    obtain ⟨hn, hag⟩ := hag
    obtain ⟨x, r_1, rfl, h1, h2⟩ := pI_e h
    split at hag
    · simp only [Bool.and_eq_true, decide_eq_true_eq] at hag
      obtain ⟨⟨rfl, h3⟩, rfl⟩ := hag
      rename_i c off
      have ht := h3.trans (toN hn)
      cases c
      · exact r_if_eq hd ht (fun z => hJ _ _ _ _ _ _ _ (h1 z)) (fun z => hk _ _ _ _ _ _ (h2 z))
      · exact r_if_ne hd ht (fun z => hJ _ _ _ _ _ _ _ (h1 z)) (fun z => hk _ _ _ _ _ _ (h2 z))
      · exact r_if_lt hd ht (fun z => hJ _ _ _ _ _ _ _ (h1 z)) (fun z => hk _ _ _ _ _ _ (h2 z))
      · exact r_if_ge hd ht (fun z => hJ _ _ _ _ _ _ _ (h1 z)) (fun z => hk _ _ _ _ _ _ (h2 z))
      · exact r_if_gt hd ht (fun z => hJ _ _ _ _ _ _ _ (h1 z)) (fun z => hk _ _ _ _ _ _ (h2 z))
      · exact r_if_le hd ht (fun z => hJ _ _ _ _ _ _ _ (h1 z)) (fun z => hk _ _ _ _ _ _ (h2 z))
    · cases hag
  | if_icmp c n =>
    simp only [agr, Bool.and_eq_true, decide_eq_true_eq] at hag
    obtain ⟨hn, hag⟩ := hag
    obtain ⟨y, r_1, rfl, h_1⟩ := pI_e h
    obtain ⟨x, r_2, rfl, h1, h2⟩ := pI_e h_1
    split at hag
    · simp only [Bool.and_eq_true, decide_eq_true_eq] at hag
      obtain ⟨⟨rfl, h3⟩, rfl⟩ := hag
      rename_i c off
      have ht := h3.trans (toN hn)
      cases c
      · exact r_icmp_eq hd ht (fun z => hJ _ _ _ _ _ _ _ (h1 z)) (fun z => hk _ _ _ _ _ _ (h2 z))
      · exact r_icmp_ne hd ht (fun z => hJ _ _ _ _ _ _ _ (h1 z)) (fun z => hk _ _ _ _ _ _ (h2 z))
      · exact r_icmp_lt hd ht (fun z => hJ _ _ _ _ _ _ _ (h1 z)) (fun z => hk _ _ _ _ _ _ (h2 z))
      · exact r_icmp_ge hd ht (fun z => hJ _ _ _ _ _ _ _ (h1 z)) (fun z => hk _ _ _ _ _ _ (h2 z))
      · exact r_icmp_gt hd ht (fun z => hJ _ _ _ _ _ _ _ (h1 z)) (fun z => hk _ _ _ _ _ _ (h2 z))
      · exact r_icmp_le hd ht (fun z => hJ _ _ _ _ _ _ _ (h1 z)) (fun z => hk _ _ _ _ _ _ (h2 z))
    · cases hag
  | ifnull n =>
    simp only [agr, Bool.and_eq_true, decide_eq_true_eq] at hag
    obtain ⟨hn, hag⟩ := hag
    obtain ⟨x, r_1, rfl, h1, h2⟩ := pR_e h
    split at hag
    · simp only [Bool.and_eq_true, decide_eq_true_eq] at hag
      obtain ⟨h3, rfl⟩ := hag
      exact r_ifnull hd (h3.trans (toN hn)) (fun z => hJ _ _ _ _ _ _ _ (h1 z)) (fun z => hk _ _ _ _ _ _ (h2 z))
    · cases hag
  | ifnonnull n =>
    simp only [agr, Bool.and_eq_true, decide_eq_true_eq] at hag
    obtain ⟨hn, hag⟩ := hag
    obtain ⟨x, r_1, rfl, h1, h2⟩ := pR_e h
    split at hag
    · simp only [Bool.and_eq_true, decide_eq_true_eq] at hag
      obtain ⟨h3, rfl⟩ := hag
      exact r_ifnonnull hd (h3.trans (toN hn)) (fun z => hJ _ _ _ _ _ _ _ (h1 z)) (fun z => hk _ _ _ _ _ _ (h2 z))
    · cases hag
  | lookupswitch n ps =>
    simp only [agr, Bool.and_eq_true, decide_eq_true_eq] at hag
    obtain ⟨⟨hn, hps⟩, hag⟩ := hag
    obtain ⟨x, r_1, rfl, h_1⟩ := pI_e h
    split at hag
    · rename_i dflt qs
      simp only [Bool.and_eq_true, decide_eq_true_eq] at hag
      obtain ⟨⟨h1, h2⟩, h3⟩ := hag
      have e1 : ps.toList.map (fun q => (q.1, J q.2.toNat kc ks ls r_1 t σ)) = qs.toList.map (fun q => (q.1, J ((pc : Int) + q.2).toNat kc ks ls r_1 t σ)) := by rw [← h3, List.map_map]; rfl
      rw [e1, ← h1] at h_1
      have hz := lsw_ok (fun z => J z.toNat kc ks ls r_1 t σ) x pc dflt qs.toList h_1
      have hn0 := lsw_ok (fun z => 0 ≤ z) x pc dflt qs.toList (swL_all (by rw [h1]; exact hn) _ fun q hq => by
        obtain ⟨q0, hq0, rfl⟩ := List.mem_map.mp hq
        have := List.all_eq_true.mp hps (q0.1, (pc : Int) + q0.2) (by rw [← h3]; exact List.mem_map.mpr ⟨q0, hq0, rfl⟩)
        exact of_decide_eq_true this)
      exact r_lookup hd h2 rfl (toN hn0) (hJ _ _ _ _ _ _ _ hz)
    · rename_i dflt lo hi offs
      simp only [Bool.and_eq_true, decide_eq_true_eq] at hag
      obtain ⟨⟨h1, h2⟩, h3⟩ := hag
      have e1 : ps.toList.map (fun q => (q.1, J q.2.toNat kc ks ls r_1 t σ)) = offs.toList.mapIdx (fun j o => (lo + j, J ((pc : Int) + o).toNat kc ks ls r_1 t σ)) := by
        rw [← h3]
        apply List.ext_getElem?
        intro j
        rw [List.getElem?_map, List.getElem?_mapIdx, List.getElem?_mapIdx, Option.map_map]
        rfl
      rw [e1, ← h1] at h_1
      rcases tsw_ok (fun z => J z.toNat kc ks ls r_1 t σ) x pc dflt offs.toList lo h_1 with ⟨q1, q2⟩ | ⟨off, q1, q2, q3, q4⟩
      · rw [Array.length_toList] at q1
        exact r_tableOut hd (by omega) (toN (by rw [h1]; exact hn)) (hJ _ _ _ _ _ _ _ q2)
      · rw [Array.length_toList] at q2
        have hn0 : 0 ≤ (pc : Int) + off := by
          have := List.all_eq_true.mp hps (lo + ((x - lo).toNat : Nat), (pc : Int) + off) (by
            rw [← h3]
            refine List.mem_of_getElem? (i := (x - lo).toNat) ?_
            rw [List.getElem?_mapIdx, q3]
            rfl)
          exact of_decide_eq_true this
        exact r_tableIn hd (by omega) (by omega) (by rw [← Array.getElem?_toList]; exact q3) (toN hn0) (hJ _ _ _ _ _ _ _ q4)
    · cases hag
  | invokevirtual n =>
    simp only [agr, Bool.and_eq_true, decide_eq_true_eq] at hag
    obtain ⟨rfl, hag⟩ := hag
    obtain ⟨bs, r_1, rfl, hb, -, h_1⟩ := pN_e _ _ _ _ h
    rw [List.append_nil] at h_1
    obtain ⟨x, r_2, rfl, hr8, hO, h_2⟩ := pR_e h_1
    split at hag
    · rename_i idx
      simp only [Bool.and_eq_true, Bool.or_eq_true, decide_eq_true_eq] at hag
      obtain ⟨⟨⟨hc, hq⟩, hq10⟩, hqe⟩ := hag
      obtain ⟨q, hq1, hq2⟩ := cn_cls hq10
      have hq2 : q.1 = (mN (n / 128)).cls := by rw [mK_ok hqe, hq]; exact hq2
      have hkk : WPc l g (n / 128) d 0 0 (vR x :: bs) t σ (fun v t' σ' => Wp l g e (d + 1) (kc - 0) (ks - 0) (pc + 3) ls (v.toList ++ r_2) t' σ' Q) := WPc_mono (fun v t' σ' z => hk _ _ _ _ _ _ z) (hEC _ _ _ _ _ h_2)
      have hc : callOk 0 (mN e).cls idx (n / 128) (n / 16 % 8) = true ∨ callOk 1 (mN e).cls idx (n / 128) (n / 16 % 8) = true := by
        rw [he]
        rcases hc with hc | hc
        · exact Or.inl (cT_ok _ hc)
        · exact Or.inr (cT_ok _ hc)
      rcases hc with hc | hc
      · exact r_callV (Or.inl rfl) hq1 hq2 hO hc hb hr8 (Nat.zero_le _) (Nat.zero_le _) hd hkk
      · exact r_callV (Or.inr rfl) hq1 hq2 hO hc hb hr8 (Nat.zero_le _) (Nat.zero_le _) hd hkk
    · cases hag
  | invokestatic n =>
    simp only [agr, Bool.and_eq_true, decide_eq_true_eq] at hag
    obtain ⟨rfl, hag⟩ := hag
    obtain ⟨bs, r_1, rfl, hb, hr8, h_1⟩ := pN_e _ _ _ _ h
    rw [List.append_nil] at h_1
    split at hag
    · rename_i idx
      simp only [Bool.or_eq_true, decide_eq_true_eq] at hag
      have hag : callOk 2 (mN e).cls idx (n / 128) (n / 16 % 8) = true ∨ callOk 3 (mN e).cls idx (n / 128) (n / 16 % 8) = true := by
        rw [he]
        rcases hag with hc | hc
        · exact Or.inl (cT_ok _ hc)
        · exact Or.inr (cT_ok _ hc)
      have hkk : WPc l g (n / 128) d 0 0 bs t σ (fun v t' σ' => Wp l g e (d + 1) (kc - 0) (ks - 0) (pc + 3) ls (v.toList ++ r_1) t' σ' Q) := WPc_mono (fun v t' σ' z => hk _ _ _ _ _ _ z) (hEC _ _ _ _ _ h_1)
      rcases hag with hc | hc
      · exact r_callS (Or.inl rfl) hc hb hr8 (Nat.zero_le _) (Nat.zero_le _) hd hkk
      · exact r_callS (Or.inr rfl) hc hb hr8 (Nat.zero_le _) (Nat.zero_le _) hd hkk
    · cases hag
  | invokedynamic n =>
    simp only [agr, Bool.and_eq_true, decide_eq_true_eq] at hag
    obtain ⟨rfl, hag⟩ := hag
    obtain ⟨n, r_1, rfl, h_1⟩ := pI_e h
    obtain ⟨dp, r_2, rfl, h_2⟩ := pI_e h_1
    obtain ⟨b, r_3, rfl, h_3⟩ := pR_e h_2
    obtain ⟨sp, r_4, rfl, h_4⟩ := pI_e h_3
    obtain ⟨x, r_5, rfl, hA, hB, ⟨q1, q2, q3, q4, q5⟩, hr8, h_5⟩ := pR_e h_4
    split at hag
    · have hag := pT_ok _ (of_decide_eq_true hag)
      unfold pOK at hag
      rw [← he] at hag
      exact r_copy hA hB q1 q2 q3 q4 q5 hr8 hag hd (hk _ _ _ _ _ _ h_5)
    · cases hag
  | ireturn =>
    simp only [agr, Bool.and_eq_true, decide_eq_true_eq] at hag
    obtain ⟨⟨rfl, rfl⟩, hm⟩ := hag
    obtain ⟨x, r_1, rfl, rfl, hkc, h_1⟩ := pI_e h
    exact r_ret (v := some (vI x)) rfl hd (by unfold rOK; rw [hm]) hkc h_1
  | freturn =>
    simp only [agr, Bool.and_eq_true, decide_eq_true_eq] at hag
    obtain ⟨⟨rfl, rfl⟩, hm⟩ := hag
    obtain ⟨x, r_1, rfl, rfl, hkc, hx, h_1⟩ := pI_e h
    exact r_ret (v := some (vI x)) rfl hd (by unfold rOK; rw [hm]; exact ⟨rfl, hx⟩) hkc h_1
  | dreturn =>
    simp only [agr, Bool.and_eq_true, decide_eq_true_eq] at hag
    obtain ⟨⟨rfl, rfl⟩, hm⟩ := hag
    obtain ⟨x, r_1, rfl, rfl, hkc, hx, h_1⟩ := pI_e h
    exact r_ret (v := some (vI x)) rfl hd (by unfold rOK; rw [hm]; exact ⟨rfl, hx⟩) hkc h_1
  | lreturn =>
    simp only [agr, Bool.and_eq_true, decide_eq_true_eq] at hag
    obtain ⟨⟨rfl, rfl⟩, hm⟩ := hag
    obtain ⟨x, r_1, rfl, rfl, hkc, h_1⟩ := pL_e h
    exact r_ret (v := some (vL x)) rfl hd (by unfold rOK; rw [hm]) hkc h_1
  | areturn =>
    simp only [agr, Bool.and_eq_true, decide_eq_true_eq] at hag
    obtain ⟨⟨rfl, rfl⟩, hm⟩ := hag
    obtain ⟨x, r_1, rfl, rfl, hkc, h_1⟩ := pR_e h
    split at hm
    · rename_i n hm'
      exact r_ret (v := some (vR x)) rfl hd (by unfold rOK; rw [hm']) hkc h_1
    · cases hm
  | return_ =>
    simp only [agr, Bool.and_eq_true, decide_eq_true_eq] at hag
    obtain ⟨⟨rfl, rfl⟩, hm⟩ := hag
    obtain ⟨rfl, hkc, h⟩ := h
    exact r_ret (v := none) rfl hd (by unfold rOK; rw [hm]) hkc h
  | goto_w n => cases hag
  | _ => exact h.elim
end EX
