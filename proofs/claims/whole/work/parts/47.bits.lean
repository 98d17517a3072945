/-! sets as bits -/
def tb (b k : Nat) : Bool := b / 2 ^ k % 2 == 1
def popc (b : Nat) : Nat := (if tb b 0 then 1 else 0) + (if tb b 1 then 1 else 0) + (if tb b 2 then 1 else 0) + (if tb b 3 then 1 else 0) + (if tb b 4 then 1 else 0) + (if tb b 5 then 1 else 0)
theorem bit_c0 : ∀ b : Fin 64, ∀ k : Fin 6, decide ((Int32.ofInt (b.val : Int) &&& (Int32.ofInt ((Int32.ofInt 1 <<< (Int32.ofInt (k.val : Int) &&& 31)).toInt))).toInt = 0) = !tb b.val k.val := by decide +kernel
theorem bit_m0 : ∀ b : Fin 64, ∀ k : Fin 6, decide ((Int32.ofInt ((Int32.ofInt (b.val : Int) >>> (Int32.ofInt (k.val : Int) &&& 31)).toInt) &&& Int32.ofInt 1).toInt = 1) = tb b.val k.val := by decide +kernel
theorem bit_c {b k : Nat} (hb : b < 64) (hk : k < 6) : (iand (b : Int) (ishl 1 k) = 0) ↔ tb b k = false := by
  have := bit_c0 ⟨b, hb⟩ ⟨k, hk⟩
  rw [iand_eq, ishl_eq]
  simp only at this
  constructor
  · intro z; rw [decide_eq_true z] at this; simpa using this
  · intro z; rw [z] at this; exact of_decide_eq_true this
theorem bit_m {b k : Nat} (hb : b < 64) (hk : k < 6) : (iand (ishr (b : Int) k) 1 = 1) ↔ tb b k = true := by
  have := bit_m0 ⟨b, hb⟩ ⟨k, hk⟩
  rw [iand_eq, ishr_eq]
  simp only at this
  constructor
  · intro z; rw [decide_eq_true z] at this; exact this.symm
  · intro z; rw [z] at this; exact of_decide_eq_true this
theorem shl_0 : ∀ k : Fin 7, (Int32.ofInt 1 <<< (Int32.ofInt (k.val : Int) &&& 31)).toInt = ((2 ^ k.val : Nat) : Int) := by decide +kernel
theorem shl_1 {k : Nat} (h : k ≤ 6) : ishl 1 k = ((2 ^ k : Nat) : Int) := by
  rw [ishl_eq]; exact shl_0 ⟨k, by omega⟩
theorem pow_le64 {k : Nat} (h : k ≤ 6) : 1 ≤ 2 ^ k ∧ 2 ^ k ≤ 64 := by
  rcases (show k = 0 ∨ k = 1 ∨ k = 2 ∨ k = 3 ∨ k = 4 ∨ k = 5 ∨ k = 6 by omega) with rfl | rfl | rfl | rfl | rfl | rfl | rfl <;> decide
theorem or_b0 : ∀ b : Fin 64, ∀ k : Fin 6, (Int32.ofInt (b.val : Int) ||| (Int32.ofInt ((2 ^ k.val : Nat) : Int))).toInt = ((if tb b.val k.val then b.val else b.val + 2 ^ k.val : Nat) : Int) := by decide +kernel
theorem or_b {b k : Nat} (hb : b < 64) (hk : k < 6) : ior (b : Int) (ishl 1 k) = ((if tb b k then b else b + 2 ^ k : Nat) : Int) := by
  rw [shl_1 (by omega), ior_eq]; exact or_b0 ⟨b, hb⟩ ⟨k, hk⟩
theorem or_z0 : ∀ b : Fin 64, (Int32.ofInt (b.val : Int) ||| Int32.ofInt 0).toInt = (b.val : Int) := by decide +kernel
theorem or_z {b : Nat} (hb : b < 64) : ior (b : Int) 0 = b := by rw [ior_eq]; exact or_z0 ⟨b, hb⟩
theorem and_b0 : ∀ a b : Fin 64, (Int32.ofInt (a.val : Int) &&& Int32.ofInt (b.val : Int)).toInt = ((a.val &&& b.val : Nat) : Int) := by decide +kernel
theorem and_b {a b : Nat} (ha : a < 64) (hb : b < 64) : iand (a : Int) b = ((a &&& b : Nat) : Int) := by rw [iand_eq]; exact and_b0 ⟨a, ha⟩ ⟨b, hb⟩
theorem and_t0 : ∀ a b : Fin 64, (a.val &&& b.val < 64) ∧ ∀ k : Fin 6, tb (a.val &&& b.val) k.val = (tb a.val k.val && tb b.val k.val) := by decide +kernel
theorem or_t0 : ∀ b : Fin 64, ∀ k : Fin 6, ∀ j : Fin 6, (if tb b.val k.val then b.val else b.val + 2 ^ k.val) < 64 ∧ tb (if tb b.val k.val then b.val else b.val + 2 ^ k.val) j.val = (tb b.val j.val || decide (j.val = k.val)) := by decide +kernel
/-- the set of the ships that are p -/
def setN (p : Nat → Bool) : Nat → Nat
  | 0 => 0
  | k + 1 => if p k then setN p k + 2 ^ k else setN p k
theorem setN_lt (p : Nat → Bool) : ∀ n, setN p n < 2 ^ n
  | 0 => by show 0 < 1; omega
  | n + 1 => by
    have := setN_lt p n
    have e : 2 ^ (n + 1) = 2 * 2 ^ n := by rw [Nat.pow_succ, Nat.mul_comm]
    unfold setN
    split <;> omega
theorem tb_lt {b k : Nat} (h : b < 2 ^ k) : tb b k = false := by
  unfold tb
  rw [Nat.div_eq_of_lt h]; rfl
theorem tb_add {b k j : Nat} (h : b < 2 ^ k) : tb (b + 2 ^ k) j = if j = k then true else if j < k then tb b j else false := by
  unfold tb
  by_cases hj : j = k
  · subst hj
    rw [if_pos rfl, Nat.add_div_right _ (Nat.two_pow_pos j), Nat.div_eq_of_lt h]; rfl
  · rw [if_neg hj]
    by_cases hl : j < k
    · rw [if_pos hl]
      have e : 2 ^ k = 2 ^ j * (2 * 2 ^ (k - j - 1)) := by
        rw [← Nat.mul_assoc, ← Nat.pow_succ, ← Nat.pow_add]; congr 1; omega
      rw [e, Nat.add_mul_div_left _ _ (Nat.two_pow_pos j), Nat.add_mul_mod_self_left]
    · rw [if_neg hl]
      have hp : 2 ^ (k + 1) ≤ 2 ^ j := Nat.pow_le_pow_right (by omega) (by omega)
      have e : 2 ^ (k + 1) = 2 * 2 ^ k := by rw [Nat.pow_succ, Nat.mul_comm]
      rw [Nat.div_eq_of_lt (by omega)]; rfl
theorem setN_tb (p : Nat → Bool) : ∀ n j, tb (setN p n) j = (decide (j < n) && p j)
  | 0, j => by simp [setN, tb]
  | n + 1, j => by
    have ih := setN_tb p n j
    have hl := setN_lt p n
    unfold setN
    by_cases hp : p n = true
    · rw [if_pos hp, tb_add hl]
      by_cases hj : j = n
      · subst hj; simp [hp]
      · rw [if_neg hj]
        by_cases hjn : j < n
        · rw [if_pos hjn, ih]
          simp [hjn, show j < n + 1 by omega]
        · rw [if_neg hjn]
          simp [show ¬ j < n + 1 by omega]
    · rw [if_neg hp, ih]
      by_cases hj : j = n
      · subst hj; simp [hp]
      · by_cases hjn : j < n
        · simp [hjn, show j < n + 1 by omega]
        · simp [hjn, show ¬ j < n + 1 by omega]
/-- a set put together ship by ship -/
theorem or_set {p : Nat → Bool} {k : Nat} (hk : k < 6) : ior (setN p k : Int) (if p k then ishl 1 k else 0) = (setN p (k + 1) : Int) := by
  have hl := setN_lt p k
  have h6 := pow_le64 (show k ≤ 6 by omega)
  show _ = ((if p k then setN p k + 2 ^ k else setN p k : Nat) : Int)
  by_cases hp : p k = true
  · rw [if_pos hp, if_pos hp, or_b (by omega) hk, tb_lt hl]; rfl
  · rw [if_neg hp, if_neg hp, or_z (by omega)]
theorem set64 {p : Nat → Bool} {n : Nat} (h : n ≤ 6) : setN p n < 64 := by
  have := setN_lt p n
  have := pow_le64 h
  omega
/-! how many there are -/
theorem bc_ex : ∃ f : Int → Int, ∀ x, f x = iand (let a := w32 (x - iand (iushr x 1) 1431655765); let b := w32 (iand a 858993459 + iand (iushr a 2) 858993459); let c := iand (w32 (b + iushr b 4)) 252645135; let d := w32 (c + iushr c 8); w32 (d + iushr d 16)) 63 := ⟨_, fun _ => rfl⟩
noncomputable def bcJ : Int → Int := Classical.choose bc_ex
theorem bcJ_eq (x : Int) : bcJ x = iand (let a := w32 (x - iand (iushr x 1) 1431655765); let b := w32 (iand a 858993459 + iand (iushr a 2) 858993459); let c := iand (w32 (b + iushr b 4)) 252645135; let d := w32 (c + iushr c 8); w32 (d + iushr d 16)) 63 := Classical.choose_spec bc_ex x
def bpCount : Sp := fun as t σ Q => aI as fun x => Q (some (vI (bcJ x))) t σ
theorem b_count {l : Launch} {g : GE} {d : Nat} {t : Tau} {σ : Mem} {Q : Post} {as : List TV} (h : bpCount as t σ Q) : WPc l g 285 (d + 1) 0 0 as t σ Q := by
  obtain ⟨x, rfl, h1⟩ := aI_e h
  rw [bcJ_eq] at h1
  refine wg (by decide) rE_nil tk_285 py_285 ml_285 30 (by simp [catT]) (fun N hN => ?_)
  simp [bl_285, hN _, x_iconst, x_ldc2_w, x_aconst_null, x_iload, x_lload, x_aload, x_istore, x_lstore, x_astore, x_iinc, x_iadd, x_isub, x_imul, x_idiv, x_irem, x_iand, x_ior, x_ixor, x_ishl, x_ishr, x_iushr, x_ineg, x_ladd, x_lsub, x_lmul, x_ldiv, x_lrem, x_lcmp, x_i2l, x_i2b, x_i2s, x_i2c, x_dup, x_pop, x_dup_x1, x_dup2, x_getfield, x_putfield, x_iaload, x_baload, x_saload, x_caload, x_daload, x_faload, x_laload, x_aaload, x_iastore, x_bastore, x_sastore, x_castore, x_lastore, x_aastore, x_arraylength, x_getstatic, x_goto, x_goto_w, x_ifCond, x_if_icmp, x_ifnull, x_ifnonnull, x_lookupswitch, x_invokevirtual, x_invokestatic, x_invokedynamic, x_ireturn, x_freturn, x_dreturn, x_lreturn, x_areturn, x_return_, pI_c, pL_c, pR_c, pV_i, pV_r, gI_c, gL_c, gR_c, pN_z, pN_s, lget_c, lins_z, lins_c, ldel_z, ldel_c, ldel2_z, ldel2_c, lset_i, lset_l, lset_r, lkeep_z, lkeep_c, largs_z, largs_c, cat_i, cat_l, cat_r, lkp_c, cnd_eq, cnd_ne, cnd_lt, cnd_ge, cnd_gt, cnd_le, swL_z, swL_c, rE_e, rOr_s, rOr_n, rlk_z, rlk_c, aR_c, aI_c, aII_c, aIII_c, aRI_c, aRII_c, aRIII_c, vJn, vJs, vlc, aRR_c, aRRI_c, aRRII_c, aRRIII_c, aRIIII_c, aRL_c, aRLL_c, aLL_c, aRRRI_c, aIL_c, aIIII_c, aRRIIII_c, aIRII_c, aIR_c, aLI_c, aRIR_c, aRIIR_c]
  exact h1
def mw (x : Int) : Int := (x + 2147483648) % 4294967296 - 2147483648
def bcD (x : Int) : Int :=
  let A := fun (x y : Int) => (Int32.ofInt x &&& Int32.ofInt y).toInt
  let S := fun (x y : Int) => ((Int32.ofInt x).toUInt32 >>> ((Int32.ofInt y).toUInt32 &&& Int32.toUInt32 31)).toInt32.toInt
  let a := mw (x - A (S x 1) 1431655765)
  let b := mw (A a 858993459 + A (S a 2) 858993459)
  let c := A (mw (b + S b 4)) 252645135
  let d := mw (c + S c 8)
  A (mw (d + S d 16)) 63
theorem bc_0 : ∀ b : Fin 64, bcD (b.val : Int) = (popc b.val : Int) := by decide +kernel
theorem bc_d (x : Int) : bcJ x = bcD x := by
  rw [bcJ_eq]
  simp only [iand_eq, iushr_eq, w32_eq]
  rfl
theorem bc_n {b : Nat} (h : b < 64) : bcJ (b : Int) = (popc b : Int) := by rw [bc_d]; exact bc_0 ⟨b, h⟩
theorem popc_l (b : Nat) : popc b ≤ 6 := by unfold popc; repeat' split
                                            all_goals omega
