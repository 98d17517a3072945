/-! a rule for each instruction -/
section RUL
variable {l : Launch} {g : GE} {e d kc ks pc : Nat} {ls : List (Nat × TV)} {st : List TV} {t : Tau} {σ : Mem} {Q : Post}
theorem r_pure {pc' : Nat} {st' : List TV} (k : Wp l g e d kc ks pc' ls st' t σ Q) (hok : okTs st → okTs st')
    (hw : ∀ (p : Program) (en : Env) (R : Room) (s : State) (m : MethodId) (args : Array Value) (below : List Frame) (meth : Method) (c : Code) (H : Heap) (locs : List Loc) (cells slots : Nat) (QM : State → Prop) (lsA : Array Slot), CxF g e p s m args meth c → okTs st →
      W p l en R s m args below meth c H locs cells slots QM (F0 m pc' lsA (st'.map (cv g))) → W p l en R s m args below meth c H locs cells slots QM (F0 m pc lsA (st.map (cv g)))) : Wp l g e d kc ks pc ls st t σ Q := by
  intro p en R s m args below meth c H locs cells slots QM lsA hC h1 h2 h3 h4 hH hS hO hl hol hos hr
  exact hw p en R s m args below meth c H locs cells slots QM lsA hC hos (k p en R s m args below meth c H locs cells slots QM lsA hC h1 h2 h3 h4 hH hS hO hl hol (hok hos) hr)
theorem r_lift {pc' pc'' : Nat} {st' st'' : List TV} {A B : Prop} (k1 : A → Wp l g e d kc ks pc' ls st' t σ Q) (k2 : B → Wp l g e d kc ks pc'' ls st'' t σ Q) (hok : okTs st → okTs st') (hok2 : okTs st → okTs st'')
    (hw : ∀ (p : Program) (en : Env) (R : Room) (s : State) (m : MethodId) (args : Array Value) (below : List Frame) (meth : Method) (c : Code) (H : Heap) (locs : List Loc) (cells slots : Nat) (QM : State → Prop) (lsA : Array Slot), CxF g e p s m args meth c → okTs st →
      (A → W p l en R s m args below meth c H locs cells slots QM (F0 m pc' lsA (st'.map (cv g)))) → (B → W p l en R s m args below meth c H locs cells slots QM (F0 m pc'' lsA (st''.map (cv g)))) → W p l en R s m args below meth c H locs cells slots QM (F0 m pc lsA (st.map (cv g)))) : Wp l g e d kc ks pc ls st t σ Q := by
  intro p en R s m args below meth c H locs cells slots QM lsA hC h1 h2 h3 h4 hH hS hO hl hol hos hr
  exact hw p en R s m args below meth c H locs cells slots QM lsA hC hos (fun a => k1 a p en R s m args below meth c H locs cells slots QM lsA hC h1 h2 h3 h4 hH hS hO hl hol (hok hos) hr) (fun b => k2 b p en R s m args below meth c H locs cells slots QM lsA hC h1 h2 h3 h4 hH hS hO hl hol (hok2 hos) hr)
theorem r_iconst {n : Int} (hn : b32 n) (hd : decode (mC e) pc = .ok (.iconst n, 1)) (k : Wp l g e d kc ks (pc + 1) ls (vI n :: st) t σ Q) : Wp l g e d kc ks pc ls st t σ Q :=
  r_pure k (fun h => okTs_cons hn h) (fun _ _ _ _ _ _ _ _ _ _ _ _ _ _ _ hC _ kk => lv_iconst hC.1 hC.2.1 hd rfl kk)
theorem r_bipush {n v : Int} (hn : b32 v) (hv : (Int8.ofInt n).toInt32 = Int32.ofInt v) (hd : decode (mC e) pc = .ok (.bipush n, 2)) (k : Wp l g e d kc ks (pc + 2) ls (vI v :: st) t σ Q) : Wp l g e d kc ks pc ls st t σ Q :=
  r_pure k (fun h => okTs_cons hn h) (fun _ _ _ _ _ _ _ _ _ _ _ _ _ _ _ hC _ kk => lv_bipush hC.1 hC.2.1 hd hv kk)
theorem r_sipush {n v : Int} (hn : b32 v) (hv : (Int16.ofInt n).toInt32 = Int32.ofInt v) (hd : decode (mC e) pc = .ok (.sipush n, 3)) (k : Wp l g e d kc ks (pc + 3) ls (vI v :: st) t σ Q) : Wp l g e d kc ks pc ls st t σ Q :=
  r_pure k (fun h => okTs_cons hn h) (fun _ _ _ _ _ _ _ _ _ _ _ _ _ _ _ hC _ kk => lv_sipush hC.1 hC.2.1 hd hv kk)
theorem r_lconst {n : Fin 2} {v : Int} (hn : b64 v) (hv : Int64.ofNat n = Int64.ofInt v) (hd : decode (mC e) pc = .ok (.lconst n, 1)) (k : Wp l g e d kc ks (pc + 1) ls (vL v :: st) t σ Q) : Wp l g e d kc ks pc ls st t σ Q :=
  r_pure k (fun h => okTs_cons hn h) (fun _ _ _ _ _ _ _ _ _ _ _ _ _ _ _ hC _ kk => lv_lconst hC.1 hC.2.1 hd hv kk)
theorem r_ldc {i : Nat} {v : Int} (hn : b32 v) (hw : Cond.constant (mN e).cls i (Int32.ofInt v) ∈ ALL) (hd : decode (mC e) pc = .ok (.ldc i, 2)) (k : Wp l g e d kc ks (pc + 2) ls (vI v :: st) t σ Q) : Wp l g e d kc ks pc ls st t σ Q :=
  r_pure k (fun h => okTs_cons hn h) (fun _ _ _ _ _ _ _ _ _ _ _ _ _ _ _ hC _ kk => lv_ldc hC.1 hC.2.1 hC.2.2.2.2.1 (hC.2.2.2.2.2.1 _ hw) hd kk)
theorem r_ldcw {i : Nat} {v : Int} (hn : b32 v) (hw : Cond.constant (mN e).cls i (Int32.ofInt v) ∈ ALL) (hd : decode (mC e) pc = .ok (.ldc_w i, 3)) (k : Wp l g e d kc ks (pc + 3) ls (vI v :: st) t σ Q) : Wp l g e d kc ks pc ls st t σ Q :=
  r_pure k (fun h => okTs_cons hn h) (fun _ _ _ _ _ _ _ _ _ _ _ _ _ _ _ hC _ kk => lv_ldcw hC.1 hC.2.1 hC.2.2.2.2.1 (hC.2.2.2.2.2.1 _ hw) hd kk)
theorem r_ldc2 {i : Nat} {v : Int} (hn : b64 v) (hw : Cond.constantLong (mN e).cls i (Int64.ofInt v) ∈ ALL) (hd : decode (mC e) pc = .ok (.ldc2_w i, 3)) (k : Wp l g e d kc ks (pc + 3) ls (vL v :: st) t σ Q) : Wp l g e d kc ks pc ls st t σ Q :=
  r_pure k (fun h => okTs_cons hn h) (fun _ _ _ _ _ _ _ _ _ _ _ _ _ _ _ hC _ kk => lv_ldc2 hC.1 hC.2.1 hC.2.2.2.2.1 (hC.2.2.2.2.2.1 _ hw) hd kk)
theorem r_null (hd : decode (mC e) pc = .ok (.aconst_null, 1)) (k : Wp l g e d kc ks (pc + 1) ls (vR (-1) :: st) t σ Q) : Wp l g e d kc ks pc ls st t σ Q :=
  r_pure k (fun h => okTs_cons trivial h) (fun _ _ _ _ _ _ _ _ _ _ _ _ _ _ _ hC _ kk => lv_null hC.1 hC.2.1 hd (by rw [← rf_null g]; exact kk))

theorem r_iadd {x y : Int} (hd : decode (mC e) pc = .ok (.iadd, 1)) (k : Wp l g e d kc ks (pc + 1) ls (vI (w32 (x + y)) :: st) t σ Q) : Wp l g e d kc ks pc ls (vI y :: vI x :: st) t σ Q :=
  r_pure k (fun h => okTs_cons (w32_b _) (okTs_tl (okTs_tl h))) (fun _ _ _ _ _ _ _ _ _ _ _ _ _ _ _ hC ho kk => lv_iadd (x := Int32.ofInt x) (y := Int32.ofInt y) hC.1 hC.2.1 hd (by rw [of_add]; exact kk))
theorem r_isub {x y : Int} (hd : decode (mC e) pc = .ok (.isub, 1)) (k : Wp l g e d kc ks (pc + 1) ls (vI (w32 (x - y)) :: st) t σ Q) : Wp l g e d kc ks pc ls (vI y :: vI x :: st) t σ Q :=
  r_pure k (fun h => okTs_cons (w32_b _) (okTs_tl (okTs_tl h))) (fun _ _ _ _ _ _ _ _ _ _ _ _ _ _ _ hC ho kk => lv_isub (x := Int32.ofInt x) (y := Int32.ofInt y) hC.1 hC.2.1 hd (by rw [of_sub]; exact kk))
theorem r_imul {x y : Int} (hd : decode (mC e) pc = .ok (.imul, 1)) (k : Wp l g e d kc ks (pc + 1) ls (vI (w32 (x * y)) :: st) t σ Q) : Wp l g e d kc ks pc ls (vI y :: vI x :: st) t σ Q :=
  r_pure k (fun h => okTs_cons (w32_b _) (okTs_tl (okTs_tl h))) (fun _ _ _ _ _ _ _ _ _ _ _ _ _ _ _ hC ho kk => lv_imul (x := Int32.ofInt x) (y := Int32.ofInt y) hC.1 hC.2.1 hd (by rw [of_mul]; exact kk))
theorem r_iand {x y : Int} (hd : decode (mC e) pc = .ok (.iand, 1)) (k : Wp l g e d kc ks (pc + 1) ls (vI (iand x y) :: st) t σ Q) : Wp l g e d kc ks pc ls (vI y :: vI x :: st) t σ Q :=
  r_pure k (fun h => okTs_cons (iand_b _ _) (okTs_tl (okTs_tl h))) (fun _ _ _ _ _ _ _ _ _ _ _ _ _ _ _ hC ho kk => lv_iand (x := Int32.ofInt x) (y := Int32.ofInt y) hC.1 hC.2.1 hd (by rw [of_iand]; exact kk))
theorem r_ior {x y : Int} (hd : decode (mC e) pc = .ok (.ior, 1)) (k : Wp l g e d kc ks (pc + 1) ls (vI (ior x y) :: st) t σ Q) : Wp l g e d kc ks pc ls (vI y :: vI x :: st) t σ Q :=
  r_pure k (fun h => okTs_cons (ior_b _ _) (okTs_tl (okTs_tl h))) (fun _ _ _ _ _ _ _ _ _ _ _ _ _ _ _ hC ho kk => lv_ior (x := Int32.ofInt x) (y := Int32.ofInt y) hC.1 hC.2.1 hd (by rw [of_ior]; exact kk))
theorem r_ixor {x y : Int} (hd : decode (mC e) pc = .ok (.ixor, 1)) (k : Wp l g e d kc ks (pc + 1) ls (vI (ixor x y) :: st) t σ Q) : Wp l g e d kc ks pc ls (vI y :: vI x :: st) t σ Q :=
  r_pure k (fun h => okTs_cons (ixor_b _ _) (okTs_tl (okTs_tl h))) (fun _ _ _ _ _ _ _ _ _ _ _ _ _ _ _ hC ho kk => lv_ixor (x := Int32.ofInt x) (y := Int32.ofInt y) hC.1 hC.2.1 hd (by rw [of_ixor]; exact kk))
theorem r_ishl {x y : Int} (hd : decode (mC e) pc = .ok (.ishl, 1)) (k : Wp l g e d kc ks (pc + 1) ls (vI (ishl x y) :: st) t σ Q) : Wp l g e d kc ks pc ls (vI y :: vI x :: st) t σ Q :=
  r_pure k (fun h => okTs_cons (ishl_b _ _) (okTs_tl (okTs_tl h))) (fun _ _ _ _ _ _ _ _ _ _ _ _ _ _ _ hC ho kk => lv_ishl (x := Int32.ofInt x) (y := Int32.ofInt y) hC.1 hC.2.1 hd (by rw [of_ishl]; exact kk))
theorem r_ishr {x y : Int} (hd : decode (mC e) pc = .ok (.ishr, 1)) (k : Wp l g e d kc ks (pc + 1) ls (vI (ishr x y) :: st) t σ Q) : Wp l g e d kc ks pc ls (vI y :: vI x :: st) t σ Q :=
  r_pure k (fun h => okTs_cons (ishr_b _ _) (okTs_tl (okTs_tl h))) (fun _ _ _ _ _ _ _ _ _ _ _ _ _ _ _ hC ho kk => lv_ishr (x := Int32.ofInt x) (y := Int32.ofInt y) hC.1 hC.2.1 hd (by rw [of_ishr]; exact kk))
theorem r_iushr {x y : Int} (hd : decode (mC e) pc = .ok (.iushr, 1)) (k : Wp l g e d kc ks (pc + 1) ls (vI (iushr x y) :: st) t σ Q) : Wp l g e d kc ks pc ls (vI y :: vI x :: st) t σ Q :=
  r_pure k (fun h => okTs_cons (iushr_b _ _) (okTs_tl (okTs_tl h))) (fun _ _ _ _ _ _ _ _ _ _ _ _ _ _ _ hC ho kk => lv_iushr (x := Int32.ofInt x) (y := Int32.ofInt y) (v := Int32.ofInt (iushr x y)) hC.1 hC.2.1 hd (of_iushr x y) kk)
theorem r_idiv {x y : Int} (hne : y ≠ 0) (hd : decode (mC e) pc = .ok (.idiv, 1)) (k : Wp l g e d kc ks (pc + 1) ls (vI (w32 (x.tdiv y)) :: st) t σ Q) : Wp l g e d kc ks pc ls (vI y :: vI x :: st) t σ Q :=
  r_pure k (fun h => okTs_cons (w32_b _) (okTs_tl (okTs_tl h))) (fun _ _ _ _ _ _ _ _ _ _ _ _ _ _ _ hC ho kk => by
    have hy : b32 y := okTs_hd ho
    have hx : b32 x := okTs_hd (okTs_tl ho)
    exact lv_idiv (x := Int32.ofInt x) (y := Int32.ofInt y) hC.1 hC.2.1 hd (fun z => hne ((eq_of hy b32_0).mp (by rw [z]; rfl))) (by rw [of_div hx hy]; exact kk))
theorem r_irem {x y : Int} (hne : y ≠ 0) (hd : decode (mC e) pc = .ok (.irem, 1)) (k : Wp l g e d kc ks (pc + 1) ls (vI (w32 (x.tmod y)) :: st) t σ Q) : Wp l g e d kc ks pc ls (vI y :: vI x :: st) t σ Q :=
  r_pure k (fun h => okTs_cons (w32_b _) (okTs_tl (okTs_tl h))) (fun _ _ _ _ _ _ _ _ _ _ _ _ _ _ _ hC ho kk => by
    have hy : b32 y := okTs_hd ho
    have hx : b32 x := okTs_hd (okTs_tl ho)
    exact lv_irem (x := Int32.ofInt x) (y := Int32.ofInt y) hC.1 hC.2.1 hd (fun z => hne ((eq_of hy b32_0).mp (by rw [z]; rfl))) (by rw [of_rem hx hy]; exact kk))
theorem r_ineg {x : Int} (hd : decode (mC e) pc = .ok (.ineg, 1)) (k : Wp l g e d kc ks (pc + 1) ls (vI (w32 (-x)) :: st) t σ Q) : Wp l g e d kc ks pc ls (vI x :: st) t σ Q :=
  r_pure k (fun h => okTs_cons (w32_b _) (okTs_tl h)) (fun _ _ _ _ _ _ _ _ _ _ _ _ _ _ _ hC ho kk => lv_ineg (x := Int32.ofInt x) hC.1 hC.2.1 hd (by rw [of_neg]; exact kk))
theorem r_ladd {x y : Int} (hd : decode (mC e) pc = .ok (.ladd, 1)) (k : Wp l g e d kc ks (pc + 1) ls (vL (w64 (x + y)) :: st) t σ Q) : Wp l g e d kc ks pc ls (vL y :: vL x :: st) t σ Q :=
  r_pure k (fun h => okTs_cons (w64_b _) (okTs_tl (okTs_tl h))) (fun _ _ _ _ _ _ _ _ _ _ _ _ _ _ _ hC ho kk => lv_ladd (x := Int64.ofInt x) (y := Int64.ofInt y) hC.1 hC.2.1 hd (by rw [of_add64]; exact kk))
theorem r_lsub {x y : Int} (hd : decode (mC e) pc = .ok (.lsub, 1)) (k : Wp l g e d kc ks (pc + 1) ls (vL (w64 (x - y)) :: st) t σ Q) : Wp l g e d kc ks pc ls (vL y :: vL x :: st) t σ Q :=
  r_pure k (fun h => okTs_cons (w64_b _) (okTs_tl (okTs_tl h))) (fun _ _ _ _ _ _ _ _ _ _ _ _ _ _ _ hC ho kk => lv_lsub (x := Int64.ofInt x) (y := Int64.ofInt y) hC.1 hC.2.1 hd (by rw [of_sub64]; exact kk))
theorem r_lmul {x y : Int} (hd : decode (mC e) pc = .ok (.lmul, 1)) (k : Wp l g e d kc ks (pc + 1) ls (vL (w64 (x * y)) :: st) t σ Q) : Wp l g e d kc ks pc ls (vL y :: vL x :: st) t σ Q :=
  r_pure k (fun h => okTs_cons (w64_b _) (okTs_tl (okTs_tl h))) (fun _ _ _ _ _ _ _ _ _ _ _ _ _ _ _ hC ho kk => lv_lmul (x := Int64.ofInt x) (y := Int64.ofInt y) hC.1 hC.2.1 hd (by rw [of_mul64]; exact kk))
theorem r_ldiv {x y : Int} (hne : y ≠ 0) (hd : decode (mC e) pc = .ok (.ldiv, 1)) (k : Wp l g e d kc ks (pc + 1) ls (vL (w64 (x.tdiv y)) :: st) t σ Q) : Wp l g e d kc ks pc ls (vL y :: vL x :: st) t σ Q :=
  r_pure k (fun h => okTs_cons (w64_b _) (okTs_tl (okTs_tl h))) (fun _ _ _ _ _ _ _ _ _ _ _ _ _ _ _ hC ho kk => by
    have hy : b64 y := okTs_hd ho
    have hx : b64 x := okTs_hd (okTs_tl ho)
    exact lv_ldiv (x := Int64.ofInt x) (y := Int64.ofInt y) hC.1 hC.2.1 hd (fun z => hne (by rw [← to_of64 hy, z]; rfl)) (by rw [of_div64 hx hy]; exact kk))
theorem r_lrem {x y : Int} (hne : y ≠ 0) (hd : decode (mC e) pc = .ok (.lrem, 1)) (k : Wp l g e d kc ks (pc + 1) ls (vL (w64 (x.tmod y)) :: st) t σ Q) : Wp l g e d kc ks pc ls (vL y :: vL x :: st) t σ Q :=
  r_pure k (fun h => okTs_cons (w64_b _) (okTs_tl (okTs_tl h))) (fun _ _ _ _ _ _ _ _ _ _ _ _ _ _ _ hC ho kk => by
    have hy : b64 y := okTs_hd ho
    have hx : b64 x := okTs_hd (okTs_tl ho)
    exact lv_lrem (x := Int64.ofInt x) (y := Int64.ofInt y) hC.1 hC.2.1 hd (fun z => hne (by rw [← to_of64 hy, z]; rfl)) (by rw [of_rem64 hx hy]; exact kk))
theorem r_lcmp {x y : Int} (hd : decode (mC e) pc = .ok (.lcmp, 1)) (k : Wp l g e d kc ks (pc + 1) ls (vI (icmp x y) :: st) t σ Q) : Wp l g e d kc ks pc ls (vL y :: vL x :: st) t σ Q :=
  r_pure k (fun h => okTs_cons (icmp_b _ _) (okTs_tl (okTs_tl h))) (fun _ _ _ _ _ _ _ _ _ _ _ _ _ _ _ hC ho kk => W.lcmp (x := Int64.ofInt x) (y := Int64.ofInt y) hC.1 hC.2.1 hd (by rw [of_cmp (okTs_hd (okTs_tl ho)) (okTs_hd ho)]; exact kk))
theorem r_i2l {x : Int} (hd : decode (mC e) pc = .ok (.i2l, 1)) (k : Wp l g e d kc ks (pc + 1) ls (vL x :: st) t σ Q) : Wp l g e d kc ks pc ls (vI x :: st) t σ Q :=
  r_pure k (fun h => okTs_cons (b64_of (okTs_hd h)) (okTs_tl h)) (fun _ _ _ _ _ _ _ _ _ _ _ _ _ _ _ hC ho kk => lv_i2l (x := Int32.ofInt x) hC.1 hC.2.1 hd (of_i2l (okTs_hd ho)) kk)
theorem r_i2b {x : Int} (hd : decode (mC e) pc = .ok (.i2b, 1)) (k : Wp l g e d kc ks (pc + 1) ls (vI (i8 x) :: st) t σ Q) : Wp l g e d kc ks pc ls (vI x :: st) t σ Q :=
  r_pure k (fun h => okTs_cons (i8_b _) (okTs_tl h)) (fun _ _ _ _ _ _ _ _ _ _ _ _ _ _ _ hC ho kk => lv_i2b (x := Int32.ofInt x) (v := Int32.ofInt (i8 x)) hC.1 hC.2.1 hd (of_i8 x) kk)
theorem r_i2s {x : Int} (hd : decode (mC e) pc = .ok (.i2s, 1)) (k : Wp l g e d kc ks (pc + 1) ls (vI (i16 x) :: st) t σ Q) : Wp l g e d kc ks pc ls (vI x :: st) t σ Q :=
  r_pure k (fun h => okTs_cons (i16_b _) (okTs_tl h)) (fun _ _ _ _ _ _ _ _ _ _ _ _ _ _ _ hC ho kk => lv_i2s (x := Int32.ofInt x) (v := Int32.ofInt (i16 x)) hC.1 hC.2.1 hd (of_i16 x) kk)
theorem r_i2c {x : Int} (hd : decode (mC e) pc = .ok (.i2c, 1)) (k : Wp l g e d kc ks (pc + 1) ls (vI (iu16 x) :: st) t σ Q) : Wp l g e d kc ks pc ls (vI x :: st) t σ Q :=
  r_pure k (fun h => okTs_cons (iu16_b _) (okTs_tl h)) (fun _ _ _ _ _ _ _ _ _ _ _ _ _ _ _ hC ho kk => lv_i2c (x := Int32.ofInt x) (v := Int32.ofInt (iu16 x)) hC.1 hC.2.1 hd (of_iu16 x) kk)
theorem r_dup {v : TV} (hc : catT v = 1) (hd : decode (mC e) pc = .ok (.dup, 1)) (k : Wp l g e d kc ks (pc + 1) ls (v :: v :: st) t σ Q) : Wp l g e d kc ks pc ls (v :: st) t σ Q :=
  r_pure k (fun h => okTs_cons (okTs_hd h) h) (fun _ _ _ _ _ _ _ _ _ _ _ _ _ _ _ hC ho kk => lv_dup hC.1 hC.2.1 hd (by rw [cv_cat]; exact hc) kk)
theorem r_pop {v : TV} (hc : catT v = 1) (hd : decode (mC e) pc = .ok (.pop, 1)) (k : Wp l g e d kc ks (pc + 1) ls st t σ Q) : Wp l g e d kc ks pc ls (v :: st) t σ Q :=
  r_pure k (fun h => okTs_tl h) (fun _ _ _ _ _ _ _ _ _ _ _ _ _ _ _ hC ho kk => lv_pop hC.1 hC.2.1 hd (by rw [cv_cat]; exact hc) kk)
theorem r_dup_x1 {v w : TV} (hc : catT v = 1) (hc2 : catT w = 1) (hd : decode (mC e) pc = .ok (.dup_x1, 1)) (k : Wp l g e d kc ks (pc + 1) ls (v :: w :: v :: st) t σ Q) : Wp l g e d kc ks pc ls (v :: w :: st) t σ Q :=
  r_pure k (fun h => okTs_cons (okTs_hd h) (okTs_cons (okTs_hd (okTs_tl h)) (okTs_cons (okTs_hd h) (okTs_tl (okTs_tl h))))) (fun _ _ _ _ _ _ _ _ _ _ _ _ _ _ _ hC ho kk => lv_dup_x1 hC.1 hC.2.1 hd (by rw [cv_cat]; exact hc) (by rw [cv_cat]; exact hc2) kk)
theorem r_dup2 {v w : TV} (hc : catT v = 1) (hc2 : catT w = 1) (hd : decode (mC e) pc = .ok (.dup2, 1)) (k : Wp l g e d kc ks (pc + 1) ls (v :: w :: v :: w :: st) t σ Q) : Wp l g e d kc ks pc ls (v :: w :: st) t σ Q :=
  r_pure k (fun h => okTs_cons (okTs_hd h) (okTs_cons (okTs_hd (okTs_tl h)) h)) (fun _ _ _ _ _ _ _ _ _ _ _ _ _ _ _ hC ho kk => lv_dup2_11 hC.1 hC.2.1 hd (by rw [cv_cat]; exact hc) (by rw [cv_cat]; exact hc2) kk)
theorem r_goto {off : Int} {tgt : Nat} (hd : decode (mC e) pc = .ok (.goto off, 3)) (ht : (pc : Int) + off = tgt) (k : Wp l g e d kc ks tgt ls st t σ Q) : Wp l g e d kc ks pc ls st t σ Q :=
  r_pure k (fun h => h) (fun _ _ _ _ _ _ _ _ _ _ _ _ _ _ _ hC ho kk => lv_goto hC.1 hC.2.1 hd ht kk)
theorem r_if_eq {x : Int} {off : Int} {tgt : Nat} (hd : decode (mC e) pc = .ok (.ifCond .eq off, 3)) (ht : (pc : Int) + off = tgt) (k1 : x = 0 → Wp l g e d kc ks tgt ls st t σ Q) (k2 : ¬ (x = 0) → Wp l g e d kc ks (pc + 3) ls st t σ Q) : Wp l g e d kc ks pc ls (vI x :: st) t σ Q :=
  r_lift k1 k2 (fun h => okTs_tl h) (fun h => okTs_tl h) (fun _ _ _ _ _ _ _ _ _ _ _ _ _ _ _ hC ho q1 q2 => by
    have hx : b32 x := okTs_hd ho
    have h : _ ↔ x = 0 := eq_of hx b32_0
    exact lv_if_eq (x := Int32.ofInt x) hC.1 hC.2.1 hd ht (fun z => q1 (h.mp z)) (fun z => q2 (fun y => z (h.mpr y))))
theorem r_icmp_eq {x y : Int} {off : Int} {tgt : Nat} (hd : decode (mC e) pc = .ok (.if_icmp .eq off, 3)) (ht : (pc : Int) + off = tgt) (k1 : x = y → Wp l g e d kc ks tgt ls st t σ Q) (k2 : ¬ (x = y) → Wp l g e d kc ks (pc + 3) ls st t σ Q) : Wp l g e d kc ks pc ls (vI y :: vI x :: st) t σ Q :=
  r_lift k1 k2 (fun h => okTs_tl (okTs_tl h)) (fun h => okTs_tl (okTs_tl h)) (fun _ _ _ _ _ _ _ _ _ _ _ _ _ _ _ hC ho q1 q2 => by
    have hy : b32 y := okTs_hd ho
    have hx : b32 x := okTs_hd (okTs_tl ho)
    have h : _ ↔ x = y := eq_of hx hy
    exact lv_icmp_eq (x := Int32.ofInt x) (y := Int32.ofInt y) hC.1 hC.2.1 hd ht (fun z => q1 (h.mp z)) (fun z => q2 (fun y => z (h.mpr y))))
theorem r_if_ne {x : Int} {off : Int} {tgt : Nat} (hd : decode (mC e) pc = .ok (.ifCond .ne off, 3)) (ht : (pc : Int) + off = tgt) (k1 : x ≠ 0 → Wp l g e d kc ks tgt ls st t σ Q) (k2 : ¬ (x ≠ 0) → Wp l g e d kc ks (pc + 3) ls st t σ Q) : Wp l g e d kc ks pc ls (vI x :: st) t σ Q :=
  r_lift k1 k2 (fun h => okTs_tl h) (fun h => okTs_tl h) (fun _ _ _ _ _ _ _ _ _ _ _ _ _ _ _ hC ho q1 q2 => by
    have hx : b32 x := okTs_hd ho
    have h : _ ↔ x ≠ 0 := not_congr (eq_of hx b32_0)
    exact lv_if_ne (x := Int32.ofInt x) hC.1 hC.2.1 hd ht (fun z => q1 (h.mp z)) (fun z => q2 (fun y => h.mpr y z)))
theorem r_icmp_ne {x y : Int} {off : Int} {tgt : Nat} (hd : decode (mC e) pc = .ok (.if_icmp .ne off, 3)) (ht : (pc : Int) + off = tgt) (k1 : x ≠ y → Wp l g e d kc ks tgt ls st t σ Q) (k2 : ¬ (x ≠ y) → Wp l g e d kc ks (pc + 3) ls st t σ Q) : Wp l g e d kc ks pc ls (vI y :: vI x :: st) t σ Q :=
  r_lift k1 k2 (fun h => okTs_tl (okTs_tl h)) (fun h => okTs_tl (okTs_tl h)) (fun _ _ _ _ _ _ _ _ _ _ _ _ _ _ _ hC ho q1 q2 => by
    have hy : b32 y := okTs_hd ho
    have hx : b32 x := okTs_hd (okTs_tl ho)
    have h : _ ↔ x ≠ y := not_congr (eq_of hx hy)
    exact lv_icmp_ne (x := Int32.ofInt x) (y := Int32.ofInt y) hC.1 hC.2.1 hd ht (fun z => q1 (h.mp z)) (fun z => q2 (fun y => h.mpr y z)))
theorem r_if_lt {x : Int} {off : Int} {tgt : Nat} (hd : decode (mC e) pc = .ok (.ifCond .lt off, 3)) (ht : (pc : Int) + off = tgt) (k1 : x < 0 → Wp l g e d kc ks tgt ls st t σ Q) (k2 : ¬ (x < 0) → Wp l g e d kc ks (pc + 3) ls st t σ Q) : Wp l g e d kc ks pc ls (vI x :: st) t σ Q :=
  r_lift k1 k2 (fun h => okTs_tl h) (fun h => okTs_tl h) (fun _ _ _ _ _ _ _ _ _ _ _ _ _ _ _ hC ho q1 q2 => by
    have hx : b32 x := okTs_hd ho
    have h : _ ↔ x < 0 := lt_of hx b32_0
    exact lv_if_lt (x := Int32.ofInt x) hC.1 hC.2.1 hd ht (fun z => q1 (h.mp z)) (fun z => q2 (fun y => z (h.mpr y))))
theorem r_icmp_lt {x y : Int} {off : Int} {tgt : Nat} (hd : decode (mC e) pc = .ok (.if_icmp .lt off, 3)) (ht : (pc : Int) + off = tgt) (k1 : x < y → Wp l g e d kc ks tgt ls st t σ Q) (k2 : ¬ (x < y) → Wp l g e d kc ks (pc + 3) ls st t σ Q) : Wp l g e d kc ks pc ls (vI y :: vI x :: st) t σ Q :=
  r_lift k1 k2 (fun h => okTs_tl (okTs_tl h)) (fun h => okTs_tl (okTs_tl h)) (fun _ _ _ _ _ _ _ _ _ _ _ _ _ _ _ hC ho q1 q2 => by
    have hy : b32 y := okTs_hd ho
    have hx : b32 x := okTs_hd (okTs_tl ho)
    have h : _ ↔ x < y := lt_of hx hy
    exact lv_icmp_lt (x := Int32.ofInt x) (y := Int32.ofInt y) hC.1 hC.2.1 hd ht (fun z => q1 (h.mp z)) (fun z => q2 (fun y => z (h.mpr y))))
theorem r_if_ge {x : Int} {off : Int} {tgt : Nat} (hd : decode (mC e) pc = .ok (.ifCond .ge off, 3)) (ht : (pc : Int) + off = tgt) (k1 : 0 ≤ x → Wp l g e d kc ks tgt ls st t σ Q) (k2 : ¬ (0 ≤ x) → Wp l g e d kc ks (pc + 3) ls st t σ Q) : Wp l g e d kc ks pc ls (vI x :: st) t σ Q :=
  r_lift k1 k2 (fun h => okTs_tl h) (fun h => okTs_tl h) (fun _ _ _ _ _ _ _ _ _ _ _ _ _ _ _ hC ho q1 q2 => by
    have hx : b32 x := okTs_hd ho
    have h : _ ↔ 0 ≤ x := le_of b32_0 hx
    exact lv_if_ge (x := Int32.ofInt x) hC.1 hC.2.1 hd ht (fun z => q1 (h.mp z)) (fun z => q2 (fun y => z (h.mpr y))))
theorem r_icmp_ge {x y : Int} {off : Int} {tgt : Nat} (hd : decode (mC e) pc = .ok (.if_icmp .ge off, 3)) (ht : (pc : Int) + off = tgt) (k1 : y ≤ x → Wp l g e d kc ks tgt ls st t σ Q) (k2 : ¬ (y ≤ x) → Wp l g e d kc ks (pc + 3) ls st t σ Q) : Wp l g e d kc ks pc ls (vI y :: vI x :: st) t σ Q :=
  r_lift k1 k2 (fun h => okTs_tl (okTs_tl h)) (fun h => okTs_tl (okTs_tl h)) (fun _ _ _ _ _ _ _ _ _ _ _ _ _ _ _ hC ho q1 q2 => by
    have hy : b32 y := okTs_hd ho
    have hx : b32 x := okTs_hd (okTs_tl ho)
    have h : _ ↔ y ≤ x := le_of hy hx
    exact lv_icmp_ge (x := Int32.ofInt x) (y := Int32.ofInt y) hC.1 hC.2.1 hd ht (fun z => q1 (h.mp z)) (fun z => q2 (fun y => z (h.mpr y))))
theorem r_if_gt {x : Int} {off : Int} {tgt : Nat} (hd : decode (mC e) pc = .ok (.ifCond .gt off, 3)) (ht : (pc : Int) + off = tgt) (k1 : 0 < x → Wp l g e d kc ks tgt ls st t σ Q) (k2 : ¬ (0 < x) → Wp l g e d kc ks (pc + 3) ls st t σ Q) : Wp l g e d kc ks pc ls (vI x :: st) t σ Q :=
  r_lift k1 k2 (fun h => okTs_tl h) (fun h => okTs_tl h) (fun _ _ _ _ _ _ _ _ _ _ _ _ _ _ _ hC ho q1 q2 => by
    have hx : b32 x := okTs_hd ho
    have h : _ ↔ 0 < x := lt_of b32_0 hx
    exact lv_if_gt (x := Int32.ofInt x) hC.1 hC.2.1 hd ht (fun z => q1 (h.mp z)) (fun z => q2 (fun y => z (h.mpr y))))
theorem r_icmp_gt {x y : Int} {off : Int} {tgt : Nat} (hd : decode (mC e) pc = .ok (.if_icmp .gt off, 3)) (ht : (pc : Int) + off = tgt) (k1 : y < x → Wp l g e d kc ks tgt ls st t σ Q) (k2 : ¬ (y < x) → Wp l g e d kc ks (pc + 3) ls st t σ Q) : Wp l g e d kc ks pc ls (vI y :: vI x :: st) t σ Q :=
  r_lift k1 k2 (fun h => okTs_tl (okTs_tl h)) (fun h => okTs_tl (okTs_tl h)) (fun _ _ _ _ _ _ _ _ _ _ _ _ _ _ _ hC ho q1 q2 => by
    have hy : b32 y := okTs_hd ho
    have hx : b32 x := okTs_hd (okTs_tl ho)
    have h : _ ↔ y < x := lt_of hy hx
    exact lv_icmp_gt (x := Int32.ofInt x) (y := Int32.ofInt y) hC.1 hC.2.1 hd ht (fun z => q1 (h.mp z)) (fun z => q2 (fun y => z (h.mpr y))))
theorem r_if_le {x : Int} {off : Int} {tgt : Nat} (hd : decode (mC e) pc = .ok (.ifCond .le off, 3)) (ht : (pc : Int) + off = tgt) (k1 : x ≤ 0 → Wp l g e d kc ks tgt ls st t σ Q) (k2 : ¬ (x ≤ 0) → Wp l g e d kc ks (pc + 3) ls st t σ Q) : Wp l g e d kc ks pc ls (vI x :: st) t σ Q :=
  r_lift k1 k2 (fun h => okTs_tl h) (fun h => okTs_tl h) (fun _ _ _ _ _ _ _ _ _ _ _ _ _ _ _ hC ho q1 q2 => by
    have hx : b32 x := okTs_hd ho
    have h : _ ↔ x ≤ 0 := le_of hx b32_0
    exact lv_if_le (x := Int32.ofInt x) hC.1 hC.2.1 hd ht (fun z => q1 (h.mp z)) (fun z => q2 (fun y => z (h.mpr y))))
theorem r_icmp_le {x y : Int} {off : Int} {tgt : Nat} (hd : decode (mC e) pc = .ok (.if_icmp .le off, 3)) (ht : (pc : Int) + off = tgt) (k1 : x ≤ y → Wp l g e d kc ks tgt ls st t σ Q) (k2 : ¬ (x ≤ y) → Wp l g e d kc ks (pc + 3) ls st t σ Q) : Wp l g e d kc ks pc ls (vI y :: vI x :: st) t σ Q :=
  r_lift k1 k2 (fun h => okTs_tl (okTs_tl h)) (fun h => okTs_tl (okTs_tl h)) (fun _ _ _ _ _ _ _ _ _ _ _ _ _ _ _ hC ho q1 q2 => by
    have hy : b32 y := okTs_hd ho
    have hx : b32 x := okTs_hd (okTs_tl ho)
    have h : _ ↔ x ≤ y := le_of hx hy
    exact lv_icmp_le (x := Int32.ofInt x) (y := Int32.ofInt y) hC.1 hC.2.1 hd ht (fun z => q1 (h.mp z)) (fun z => q2 (fun y => z (h.mpr y))))
/-- a reference on the stack is null, or none -/
theorem rf_cases (g : GE) (x : Int) : (x = -1 ∧ rf g x = .null) ∨ (x ≠ -1 ∧ ∃ a, rf g x = .ref a) := by
  unfold rf
  by_cases h : 0 ≤ x
  · rw [if_pos h]; exact Or.inr ⟨by omega, _, rfl⟩
  · by_cases h2 : x = -1
    · rw [if_neg h, if_pos h2]; exact Or.inl ⟨h2, rfl⟩
    · rw [if_neg h, if_neg h2]; exact Or.inr ⟨h2, _, rfl⟩
theorem r_ifnull {x : Int} {off : Int} {tgt : Nat} (hd : decode (mC e) pc = .ok (.ifnull off, 3)) (ht : (pc : Int) + off = tgt) (k1 : x = -1 → Wp l g e d kc ks tgt ls st t σ Q) (k2 : ¬ (x = -1) → Wp l g e d kc ks (pc + 3) ls st t σ Q) : Wp l g e d kc ks pc ls (vR x :: st) t σ Q :=
  r_lift k1 k2 (fun h => okTs_tl h) (fun h => okTs_tl h) (fun _ _ _ _ _ _ _ _ _ _ _ _ _ _ _ hC ho q1 q2 => by
    show W _ _ _ _ _ _ _ _ _ _ _ _ _ _ _ (F0 _ _ _ (rf g x :: _))
    rcases rf_cases g x with ⟨h1, h2⟩ | ⟨h1, a, h2⟩
    · rw [h2]; exact lv_ifnullN hC.1 hC.2.1 hd ht (q1 h1)
    · rw [h2]; exact lv_ifnull hC.1 hC.2.1 hd (q2 h1))
theorem r_ifnonnull {x : Int} {off : Int} {tgt : Nat} (hd : decode (mC e) pc = .ok (.ifnonnull off, 3)) (ht : (pc : Int) + off = tgt) (k1 : ¬ (x = -1) → Wp l g e d kc ks tgt ls st t σ Q) (k2 : x = -1 → Wp l g e d kc ks (pc + 3) ls st t σ Q) : Wp l g e d kc ks pc ls (vR x :: st) t σ Q :=
  r_lift k1 k2 (fun h => okTs_tl h) (fun h => okTs_tl h) (fun _ _ _ _ _ _ _ _ _ _ _ _ _ _ _ hC ho q1 q2 => by
    show W _ _ _ _ _ _ _ _ _ _ _ _ _ _ _ (F0 _ _ _ (rf g x :: _))
    rcases rf_cases g x with ⟨h1, h2⟩ | ⟨h1, a, h2⟩
    · rw [h2]; exact lv_ifnonnullN hC.1 hC.2.1 hd (q2 h1)
    · rw [h2]; exact lv_ifnonnull hC.1 hC.2.1 hd ht (q1 h1))
theorem r_lookup {dflt : Int} {ps : Array (Int × Int)} {len : Nat} {x off : Int} {tgt : Nat} (hd : decode (mC e) pc = .ok (.lookupswitch dflt ps, len)) (hp : (ps.toList.zip (ps.toList.drop 1)).all (fun (a, next) => a.1 < next.1) = true) (ho : Op.lookupswitch.offset ps.toList dflt x = off) (ht : (pc : Int) + off = tgt) (k : Wp l g e d kc ks tgt ls st t σ Q) : Wp l g e d kc ks pc ls (vI x :: st) t σ Q :=
  r_pure k (fun h => okTs_tl h) (fun _ _ _ _ _ _ _ _ _ _ _ _ _ _ _ hC hos kk => lv_lookup (x := Int32.ofInt x) hC.1 hC.2.1 hd hp (by rw [to_of (okTs_hd hos)]; exact ho) ht kk)
theorem r_tableOut {dflt lo hi : Int} {offs : Array Int} {len : Nat} {x : Int} {tgt : Nat} (hd : decode (mC e) pc = .ok (.tableswitch dflt lo hi offs, len)) (h : x < lo ∨ hi < x) (ht : (pc : Int) + dflt = tgt) (k : Wp l g e d kc ks tgt ls st t σ Q) : Wp l g e d kc ks pc ls (vI x :: st) t σ Q :=
  r_pure k (fun h => okTs_tl h) (fun _ _ _ _ _ _ _ _ _ _ _ _ _ _ _ hC hos kk => lv_tableOut (x := Int32.ofInt x) hC.1 hC.2.1 hd (by rw [to_of (okTs_hd hos)]; exact h) ht kk)
theorem r_tableIn {dflt lo hi : Int} {offs : Array Int} {len : Nat} {x off : Int} {tgt : Nat} (hd : decode (mC e) pc = .ok (.tableswitch dflt lo hi offs, len)) (h1 : ¬ x < lo) (h2 : ¬ hi < x) (ho : offs[(x - lo).toNat]? = some off) (ht : (pc : Int) + off = tgt) (k : Wp l g e d kc ks tgt ls st t σ Q) : Wp l g e d kc ks pc ls (vI x :: st) t σ Q :=
  r_pure k (fun h => okTs_tl h) (fun _ _ _ _ _ _ _ _ _ _ _ _ _ _ _ hC hos kk => by
    have hx : b32 x := okTs_hd hos
    exact lv_tableIn (x := Int32.ofInt x) hC.1 hC.2.1 hd (by rw [to_of hx]; exact h1) (by rw [to_of hx]; exact h2) (by rw [to_of hx]; exact ho) ht kk)
theorem r_iload {i : Nat} {x : Int} (hg : lget i ls = some (vI x)) (hd : decode (mC e) pc = .ok (.iload i, 2)) (k : Wp l g e d kc ks (pc + 2) ls (vI x :: st) t σ Q) : Wp l g e d kc ks pc ls st t σ Q := by
  intro p en R s m args below meth c H locs cells slots QM lsA hC h1 h2 h3 h4 hH hS hO hl hol hos hr
  exact lv_iload hC.1 hC.2.1 hd (lv_get hl hg) (k p en R s m args below meth c H locs cells slots QM lsA hC h1 h2 h3 h4 hH hS hO hl hol (okTs_cons (okLs_get hol hg) hos) hr)
theorem r_iload_n {i : Fin 4} {x : Int} (hg : lget i ls = some (vI x)) (hd : decode (mC e) pc = .ok (.iload_n i, 1)) (k : Wp l g e d kc ks (pc + 1) ls (vI x :: st) t σ Q) : Wp l g e d kc ks pc ls st t σ Q := by
  intro p en R s m args below meth c H locs cells slots QM lsA hC h1 h2 h3 h4 hH hS hO hl hol hos hr
  exact lv_iload_n hC.1 hC.2.1 hd rfl (lv_get hl hg) (k p en R s m args below meth c H locs cells slots QM lsA hC h1 h2 h3 h4 hH hS hO hl hol (okTs_cons (okLs_get hol hg) hos) hr)
theorem r_lload {i : Nat} {x : Int} (hg : lget i ls = some (vL x)) (hd : decode (mC e) pc = .ok (.lload i, 2)) (k : Wp l g e d kc ks (pc + 2) ls (vL x :: st) t σ Q) : Wp l g e d kc ks pc ls st t σ Q := by
  intro p en R s m args below meth c H locs cells slots QM lsA hC h1 h2 h3 h4 hH hS hO hl hol hos hr
  exact lv_lload hC.1 hC.2.1 hd (lv_get hl hg) (k p en R s m args below meth c H locs cells slots QM lsA hC h1 h2 h3 h4 hH hS hO hl hol (okTs_cons (okLs_get hol hg) hos) hr)
theorem r_lload_n {i : Fin 4} {x : Int} (hg : lget i ls = some (vL x)) (hd : decode (mC e) pc = .ok (.lload_n i, 1)) (k : Wp l g e d kc ks (pc + 1) ls (vL x :: st) t σ Q) : Wp l g e d kc ks pc ls st t σ Q := by
  intro p en R s m args below meth c H locs cells slots QM lsA hC h1 h2 h3 h4 hH hS hO hl hol hos hr
  exact lv_lload_n hC.1 hC.2.1 hd rfl (lv_get hl hg) (k p en R s m args below meth c H locs cells slots QM lsA hC h1 h2 h3 h4 hH hS hO hl hol (okTs_cons (okLs_get hol hg) hos) hr)
theorem r_aload {i : Nat} {x : Int} (hg : lget i ls = some (vR x)) (hd : decode (mC e) pc = .ok (.aload i, 2)) (k : Wp l g e d kc ks (pc + 2) ls (vR x :: st) t σ Q) : Wp l g e d kc ks pc ls st t σ Q := by
  intro p en R s m args below meth c H locs cells slots QM lsA hC h1 h2 h3 h4 hH hS hO hl hol hos hr
  have kk := k p en R s m args below meth c H locs cells slots QM lsA hC h1 h2 h3 h4 hH hS hO hl hol (okTs_cons (okLs_get hol hg) hos) hr
  have hq := lv_get hl hg
  rw [List.map_cons] at kk
  rw [show cv g (vR x) = rf g x from rfl] at kk hq
  rcases rf_cases g x with ⟨h5, h6⟩ | ⟨h5, a, h6⟩
  · rw [h6] at kk hq; exact lv_aloadN hC.1 hC.2.1 hd hq kk
  · rw [h6] at kk hq; exact lv_aload hC.1 hC.2.1 hd hq kk
theorem r_istore {i : Nat} {x : Int} (hn : (i : Nat) < mL e) (hd : decode (mC e) pc = .ok (.istore i, 2)) (k : Wp l g e d kc ks (pc + 2) (lset i (vI x) ls) st t σ Q) : Wp l g e d kc ks pc ls (vI x :: st) t σ Q := by
  intro p en R s m args below meth c H locs cells slots QM lsA hC h1 h2 h3 h4 hH hS hO hl hol hos hr
  refine lv_istore hC.1 hC.2.1 hd hl hn rfl (fun ls' hl' => ?_)
  exact k p en R s m args below meth c H locs cells slots QM ls' hC h1 h2 h3 h4 hH hS hO (lv_put1 rfl hl') (okLs_set hol (okTs_hd hos)) (okTs_tl hos) hr
theorem r_lstore {i : Nat} {x : Int} (hn : (i : Nat) + 1 < mL e) (hd : decode (mC e) pc = .ok (.lstore i, 2)) (k : Wp l g e d kc ks (pc + 2) (lset i (vL x) ls) st t σ Q) : Wp l g e d kc ks pc ls (vL x :: st) t σ Q := by
  intro p en R s m args below meth c H locs cells slots QM lsA hC h1 h2 h3 h4 hH hS hO hl hol hos hr
  refine lv_lstore hC.1 hC.2.1 hd hl hn rfl (fun ls' hl' => ?_)
  exact k p en R s m args below meth c H locs cells slots QM ls' hC h1 h2 h3 h4 hH hS hO (lv_put2 rfl hl') (okLs_set hol (okTs_hd hos)) (okTs_tl hos) hr
theorem r_astore {i : Nat} {x : Int} (hn : (i : Nat) < mL e) (hd : decode (mC e) pc = .ok (.astore i, 2)) (k : Wp l g e d kc ks (pc + 2) (lset i (vR x) ls) st t σ Q) : Wp l g e d kc ks pc ls (vR x :: st) t σ Q := by
  intro p en R s m args below meth c H locs cells slots QM lsA hC h1 h2 h3 h4 hH hS hO hl hol hos hr
  have kk : ∀ ls' : Array Slot, lv_has ls' (mL e) (((i : Nat), cv g (vR x)) :: (cvL g ls).filter (fun q => !(q.1 == (i : Nat)) && !(q.1 + 1 == (i : Nat) && q.2.category == 2))) → W p l en R s m args below meth c H locs cells slots QM (F0 m (pc + 2) ls' (st.map (cv g))) := fun ls' hl' => k p en R s m args below meth c H locs cells slots QM ls' hC h1 h2 h3 h4 hH hS hO (lv_put1 (v := vR x) rfl hl') (okLs_set hol trivial) (okTs_tl hos) hr
  show W _ _ _ _ _ _ _ _ _ _ _ _ _ _ _ (F0 _ _ _ (rf g x :: _))
  rw [show cv g (vR x) = rf g x from rfl] at kk
  rcases rf_cases g x with ⟨h5, h6⟩ | ⟨h5, a, h6⟩
  · rw [h6] at kk ⊢; exact lv_astoreN hC.1 hC.2.1 hd hl hn rfl kk
  · rw [h6] at kk ⊢; exact lv_astore hC.1 hC.2.1 hd hl hn rfl kk
theorem r_aload_n {i : Fin 4} {x : Int} (hg : lget i ls = some (vR x)) (hd : decode (mC e) pc = .ok (.aload_n i, 1)) (k : Wp l g e d kc ks (pc + 1) ls (vR x :: st) t σ Q) : Wp l g e d kc ks pc ls st t σ Q := by
  intro p en R s m args below meth c H locs cells slots QM lsA hC h1 h2 h3 h4 hH hS hO hl hol hos hr
  have kk := k p en R s m args below meth c H locs cells slots QM lsA hC h1 h2 h3 h4 hH hS hO hl hol (okTs_cons (okLs_get hol hg) hos) hr
  have hq := lv_get hl hg
  rw [List.map_cons] at kk
  rw [show cv g (vR x) = rf g x from rfl] at kk hq
  rcases rf_cases g x with ⟨h5, h6⟩ | ⟨h5, a, h6⟩
  · rw [h6] at kk hq; exact lv_aload_nN hC.1 hC.2.1 hd rfl hq kk
  · rw [h6] at kk hq; exact lv_aload_n hC.1 hC.2.1 hd rfl hq kk
theorem r_istore_n {i : Fin 4} {x : Int} (hn : (i : Nat) < mL e) (hd : decode (mC e) pc = .ok (.istore_n i, 1)) (k : Wp l g e d kc ks (pc + 1) (lset i (vI x) ls) st t σ Q) : Wp l g e d kc ks pc ls (vI x :: st) t σ Q := by
  intro p en R s m args below meth c H locs cells slots QM lsA hC h1 h2 h3 h4 hH hS hO hl hol hos hr
  refine lv_istore_n hC.1 hC.2.1 hd rfl hl hn rfl (fun ls' hl' => ?_)
  exact k p en R s m args below meth c H locs cells slots QM ls' hC h1 h2 h3 h4 hH hS hO (lv_put1 rfl hl') (okLs_set hol (okTs_hd hos)) (okTs_tl hos) hr
theorem r_lstore_n {i : Fin 4} {x : Int} (hn : (i : Nat) + 1 < mL e) (hd : decode (mC e) pc = .ok (.lstore_n i, 1)) (k : Wp l g e d kc ks (pc + 1) (lset i (vL x) ls) st t σ Q) : Wp l g e d kc ks pc ls (vL x :: st) t σ Q := by
  intro p en R s m args below meth c H locs cells slots QM lsA hC h1 h2 h3 h4 hH hS hO hl hol hos hr
  refine lv_lstore_n hC.1 hC.2.1 hd rfl hl hn rfl (fun ls' hl' => ?_)
  exact k p en R s m args below meth c H locs cells slots QM ls' hC h1 h2 h3 h4 hH hS hO (lv_put2 rfl hl') (okLs_set hol (okTs_hd hos)) (okTs_tl hos) hr
theorem r_astore_n {i : Fin 4} {x : Int} (hn : (i : Nat) < mL e) (hd : decode (mC e) pc = .ok (.astore_n i, 1)) (k : Wp l g e d kc ks (pc + 1) (lset i (vR x) ls) st t σ Q) : Wp l g e d kc ks pc ls (vR x :: st) t σ Q := by
  intro p en R s m args below meth c H locs cells slots QM lsA hC h1 h2 h3 h4 hH hS hO hl hol hos hr
  have kk : ∀ ls' : Array Slot, lv_has ls' (mL e) (((i : Nat), cv g (vR x)) :: (cvL g ls).filter (fun q => !(q.1 == (i : Nat)) && !(q.1 + 1 == (i : Nat) && q.2.category == 2))) → W p l en R s m args below meth c H locs cells slots QM (F0 m (pc + 1) ls' (st.map (cv g))) := fun ls' hl' => k p en R s m args below meth c H locs cells slots QM ls' hC h1 h2 h3 h4 hH hS hO (lv_put1 (v := vR x) rfl hl') (okLs_set hol trivial) (okTs_tl hos) hr
  show W _ _ _ _ _ _ _ _ _ _ _ _ _ _ _ (F0 _ _ _ (rf g x :: _))
  rw [show cv g (vR x) = rf g x from rfl] at kk
  rcases rf_cases g x with ⟨h5, h6⟩ | ⟨h5, a, h6⟩
  · rw [h6] at kk ⊢; exact lv_astore_nN hC.1 hC.2.1 hd rfl hl hn rfl kk
  · rw [h6] at kk ⊢; exact lv_astore_n hC.1 hC.2.1 hd rfl hl hn rfl kk
theorem r_iinc {i : Nat} {n x : Int} (hg : lget i ls = some (vI x)) (hn : i < mL e) (hd : decode (mC e) pc = .ok (.iinc i n, 3)) (k : Wp l g e d kc ks (pc + 3) (lset i (vI (w32 (x + n))) ls) st t σ Q) : Wp l g e d kc ks pc ls st t σ Q := by
  intro p en R s m args below meth c H locs cells slots QM lsA hC h1 h2 h3 h4 hH hS hO hl hol hos hr
  obtain ⟨j, hj⟩ := List.getElem?_of_mem (cvL_mem (g := g) (lget_mem hg))
  refine lv_iinc hC.1 hC.2.1 hd hl hj (v := Int32.ofInt (w32 (x + n))) (by rw [of_w32, Int32.ofInt_add]) hn rfl (fun ls' hl' => ?_)
  exact k p en R s m args below meth c H locs cells slots QM ls' hC h1 h2 h3 h4 hH hS hO (lv_put1 (v := vI _) rfl hl') (okLs_set hol (w32_b _)) hos hr
theorem r_keep {ks' : List Nat} (k : Wp l g e d kc ks pc (lkeep ks' ls) st t σ Q) : Wp l g e d kc ks pc ls st t σ Q := by
  intro p en R s m args below meth c H locs cells slots QM lsA hC h1 h2 h3 h4 hH hS hO hl hol hos hr
  refine k p en R s m args below meth c H locs cells slots QM lsA hC h1 h2 h3 h4 hH hS hO (lv_has_sub hl fun q hq => ?_) (fun q hq => hol q (lkeep_mem hq)) hos hr
  obtain ⟨r, hr, rfl⟩ := List.mem_map.mp hq
  exact List.mem_map.mpr ⟨r, lkeep_mem hr, rfl⟩
end RUL
