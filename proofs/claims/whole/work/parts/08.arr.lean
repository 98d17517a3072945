/-! arrays, static arrays, System.arraycopy -/
theorem Hld_of {g : GE} {t : Tau} {σ : Mem} {s : State} {H1 : Heap} {locs1 : List Loc} (hP1 : va_P (gD g) vwCl (world g t σ) H1) (hm : MemOk t σ) (hS1 : va_S (Ag g) s.heap H1 locs1) (hO : gO g ≤ s.heap.size) : Hld g t σ H1 := by
  refine ⟨hP1, hm, ?_⟩
  by_cases ht : t.length = 0
  · have := hS1.1; omega
  · have hlt : t.length - 1 < t.length := by omega
    have := (hP1 (t.length - 1) _ (world_at (g := g) (s := σ) (List.getElem?_eq_getElem hlt))).lt
    simp only at this
    omega
theorem arrE_int (g : GE) {ty : Nat} (h1 : ty ≠ 1) (h5 : ty ≠ 5) (s : Int → Int) : arrE g ty s = .inl fun j => Int32.ofInt (s j) := by
  unfold arrE
  rw [if_neg h1, if_neg h5]
theorem upd_up {σ : Mem} {x i v : Int} (hi : 0 ≤ i) (hb : b32 i) : (fun j : Nat => Int32.ofInt (up σ x i v x j)) = upd (fun j : Nat => Int32.ofInt (σ x j)) (Int32.ofInt i).toNatClampNeg (Int32.ofInt v) := by
  funext j
  rw [clamp_of' hb]
  unfold upd up
  by_cases hj : j = i.toNat
  · have : (j : Int) = i := by omega
    simp [hj, Int.toNat_of_nonneg hi]
  · have : ¬ (j : Int) = i := by omega
    simp [hj, this]
theorem updL_up {σ : Mem} {x i v : Int} (hi : 0 ≤ i) (hb : b32 i) : (fun j : Nat => Int64.ofInt (up σ x i v x j)) = vp_updL (fun j : Nat => Int64.ofInt (σ x j)) (Int32.ofInt i).toNatClampNeg (Int64.ofInt v) := by
  funext j
  rw [clamp_of' hb]
  unfold vp_updL up
  by_cases hj : j = i.toNat
  · have : (j : Int) = i := by omega
    simp [hj, Int.toNat_of_nonneg hi]
  · have : ¬ (j : Int) = i := by omega
    simp [hj, this]
theorem updR_up {g : GE} {σ : Mem} {x i v : Int} (hi : 0 ≤ i) (hb : b32 i) : (fun j : Nat => rfo g (up σ x i v x j)) = va_up (fun j : Nat => rfo g (σ x j)) (Int32.ofInt i).toNatClampNeg (rfo g v) := by
  funext j
  rw [clamp_of' hb]
  unfold va_up up
  by_cases hj : j = i.toNat
  · have : (j : Int) = i := by omega
    simp [hj, Int.toNat_of_nonneg hi]
  · have : ¬ (j : Int) = i := by omega
    simp [hj, this]
theorem okS_at {t : Tau} {σ : Mem} {x : Int} {ty : Nat} (hM : MemOk t σ) (hA : isT t x ty) {i : Int} (hi : 0 ≤ i) : okS (.inr (ty, lenOf t x)) i.toNat (σ x i) := by
  have := hM x.toNat _ hA.2 i.toNat
  rw [Int.toNat_of_nonneg hA.1, Int.toNat_of_nonneg hi] at this
  exact this
theorem rd_at {σ : Mem} {x i : Int} (hi : 0 ≤ i) (hb : b32 i) : σ x ((Int32.ofInt i).toNatClampNeg : Nat) = σ x i := by rw [clamp_of' hb, Int.toNat_of_nonneg hi]
section ARR
variable {l : Launch} {g : GE} {e d kc ks pc : Nat} {ls : List (Nat × TV)} {st : List TV} {t : Tau} {σ : Mem} {Q : Post}
theorem r_iald {x i : Int} (hA : isT t x 0) (h0 : 0 ≤ i) (hn : i < lenOf t x) (hd : decode (mC e) pc = .ok (.iaload, 1)) (kk : Wp l g e d kc ks (pc + 1) ls (vI (σ x i) :: st) t σ Q) : Wp l g e d kc ks pc ls (vI i :: vR x :: st) t σ Q := by
  intro p en R s m args below meth c H locs cells slots QM lsA hC h1 h2 h3 h4 hH hS hZ hls hol hos hr
  have hb : b32 i := okTs_hd hos
  have hv : b32 (σ x i) := okS_at hH.2.1 hA h0
  have kw := kk p en R s m args below meth c H locs cells slots QM lsA hC h1 h2 h3 h4 hH hS hZ hls hol (okTs_cons hv (okTs_tl (okTs_tl hos))) hr
  show W _ _ _ _ _ _ _ _ _ _ _ _ _ _ _ (F0 _ _ _ (.int (Int32.ofInt i) :: rf g x :: _))
  rw [rf_ref hA.1]
  exact va_iald (cA := gC g 0) (n := lenOf t x) (f := fun j => Int32.ofInt (σ x j)) hC.1 hC.2.1 hC.2.2.2.2.2.2.2.2.1 hH.1 x.toNat 0 (by rw [world_atI hA.1 hA.2]; rfl) (tyL_at g (by decide)) (in_of h0 hn hb) hd (by rw [rd_at (σ := σ) (x := x) h0 hb]; exact kw)
theorem r_bald {x i : Int} (hA : isT t x 2) (h0 : 0 ≤ i) (hn : i < lenOf t x) (hd : decode (mC e) pc = .ok (.baload, 1)) (kk : Wp l g e d kc ks (pc + 1) ls (vI (σ x i) :: st) t σ Q) : Wp l g e d kc ks pc ls (vI i :: vR x :: st) t σ Q := by
  intro p en R s m args below meth c H locs cells slots QM lsA hC h1 h2 h3 h4 hH hS hZ hls hol hos hr
  have hb : b32 i := okTs_hd hos
  have hv : b32 (σ x i) := okS_at hH.2.1 hA h0
  have kw := kk p en R s m args below meth c H locs cells slots QM lsA hC h1 h2 h3 h4 hH hS hZ hls hol (okTs_cons hv (okTs_tl (okTs_tl hos))) hr
  show W _ _ _ _ _ _ _ _ _ _ _ _ _ _ _ (F0 _ _ _ (.int (Int32.ofInt i) :: rf g x :: _))
  rw [rf_ref hA.1]
  exact va_bald (cA := gC g 2) (n := lenOf t x) (f := fun j => Int32.ofInt (σ x j)) hC.1 hC.2.1 hC.2.2.2.2.2.2.2.2.1 hH.1 x.toNat 2 (by rw [world_atI hA.1 hA.2]; rfl) (tyL_at g (by decide)) (in_of h0 hn hb) hd (by rw [rd_at (σ := σ) (x := x) h0 hb]; exact kw)
theorem r_zald {x i : Int} (hA : isT t x 3) (h0 : 0 ≤ i) (hn : i < lenOf t x) (hd : decode (mC e) pc = .ok (.baload, 1)) (kk : Wp l g e d kc ks (pc + 1) ls (vI (σ x i) :: st) t σ Q) : Wp l g e d kc ks pc ls (vI i :: vR x :: st) t σ Q := by
  intro p en R s m args below meth c H locs cells slots QM lsA hC h1 h2 h3 h4 hH hS hZ hls hol hos hr
  have hb : b32 i := okTs_hd hos
  have hv : b32 (σ x i) := okS_at hH.2.1 hA h0
  have kw := kk p en R s m args below meth c H locs cells slots QM lsA hC h1 h2 h3 h4 hH hS hZ hls hol (okTs_cons hv (okTs_tl (okTs_tl hos))) hr
  show W _ _ _ _ _ _ _ _ _ _ _ _ _ _ _ (F0 _ _ _ (.int (Int32.ofInt i) :: rf g x :: _))
  rw [rf_ref hA.1]
  exact va_zald (cA := gC g 3) (n := lenOf t x) (f := fun j => Int32.ofInt (σ x j)) hC.1 hC.2.1 hC.2.2.2.2.2.2.2.2.1 hH.1 x.toNat 3 (by rw [world_atI hA.1 hA.2]; rfl) (tyL_at g (by decide)) (in_of h0 hn hb) hd (by rw [rd_at (σ := σ) (x := x) h0 hb]; exact kw)
theorem r_cald {x i : Int} (hA : isT t x 4) (h0 : 0 ≤ i) (hn : i < lenOf t x) (hd : decode (mC e) pc = .ok (.caload, 1)) (kk : Wp l g e d kc ks (pc + 1) ls (vI (σ x i) :: st) t σ Q) : Wp l g e d kc ks pc ls (vI i :: vR x :: st) t σ Q := by
  intro p en R s m args below meth c H locs cells slots QM lsA hC h1 h2 h3 h4 hH hS hZ hls hol hos hr
  have hb : b32 i := okTs_hd hos
  have hv : b32 (σ x i) := okS_at hH.2.1 hA h0
  have kw := kk p en R s m args below meth c H locs cells slots QM lsA hC h1 h2 h3 h4 hH hS hZ hls hol (okTs_cons hv (okTs_tl (okTs_tl hos))) hr
  show W _ _ _ _ _ _ _ _ _ _ _ _ _ _ _ (F0 _ _ _ (.int (Int32.ofInt i) :: rf g x :: _))
  rw [rf_ref hA.1]
  exact va_cald (cA := gC g 4) (n := lenOf t x) (f := fun j => Int32.ofInt (σ x j)) hC.1 hC.2.1 hC.2.2.2.2.2.2.2.2.1 hH.1 x.toNat 4 (by rw [world_atI hA.1 hA.2]; rfl) (tyL_at g (by decide)) (in_of h0 hn hb) hd (by rw [rd_at (σ := σ) (x := x) h0 hb]; exact kw)
theorem r_iast {x i y : Int} (hA : isT t x 0) (h0 : 0 ≤ i) (hn : i < lenOf t x) (hd : decode (mC e) pc = .ok (.iastore, 1)) (kk : Wp l g e d kc ks (pc + 1) ls st t (up σ x i (y)) Q) : Wp l g e d kc ks pc ls (vI y :: vI i :: vR x :: st) t σ Q := by
  intro p en R s m args below meth c H locs cells slots QM lsA hC h1 h2 h3 h4 hH hS hZ hls hol hos hr
  have hy : b32 y := okTs_hd hos
  have hb : b32 i := okTs_hd (okTs_tl hos)
  have hv : b32 (y) := by first | exact hy | exact i8_b _ | exact i1_b _ | exact ich_b _
  have hm : MemOk t (up σ x i (y)) := MemOk_up hH.2.1 hA.1 h0 hA.2 hv
  show W _ _ _ _ _ _ _ _ _ _ _ _ _ _ _ (F0 _ _ _ (.int (Int32.ofInt y) :: .int (Int32.ofInt i) :: rf g x :: _))
  rw [rf_ref hA.1]
  refine va_iast (cA := gC g 0) (n := lenOf t x) (f := fun j => Int32.ofInt (σ x j)) hC.1 hC.2.1 hC.2.2.2.2.2.2.2.2.1 hH.1 (world_D g t σ) hS x.toNat 0 (by rw [world_atI hA.1 hA.2]; rfl) (tyL_at g (by decide)) (in_of h0 hn hb) hd (fun H1 locs1 hP1 hD1 hS1 => ?_)
  have hse := world_set (g := g) (s := σ) (s' := up σ x i (y)) hA.1 hA.2 (fun o ho => up_ne ho) (e' := .inl (gC g 0, lenOf t x, .inl (upd (fun j : Nat => Int32.ofInt (σ x j)) (Int32.ofInt i).toNatClampNeg (Int32.ofInt y)))) (by
    rw [show (Int32.ofInt y) = Int32.ofInt (y) from rfl, ← upd_up h0 hb]; rfl)
  rw [hse] at hP1
  exact kk p en R s m args below meth c H1 locs1 cells slots QM lsA hC h1 h2 h3 h4 (Hld_of hP1 hm hS1 hZ.1) hS1 hZ hls hol (okTs_tl (okTs_tl (okTs_tl hos))) hr
theorem r_bast {x i y : Int} (hA : isT t x 2) (h0 : 0 ≤ i) (hn : i < lenOf t x) (hd : decode (mC e) pc = .ok (.bastore, 1)) (kk : Wp l g e d kc ks (pc + 1) ls st t (up σ x i (i8 y)) Q) : Wp l g e d kc ks pc ls (vI y :: vI i :: vR x :: st) t σ Q := by
  intro p en R s m args below meth c H locs cells slots QM lsA hC h1 h2 h3 h4 hH hS hZ hls hol hos hr
  have hy : b32 y := okTs_hd hos
  have hb : b32 i := okTs_hd (okTs_tl hos)
  have hv : b32 (i8 y) := by first | exact hy | exact i8_b _ | exact i1_b _ | exact ich_b _
  have hm : MemOk t (up σ x i (i8 y)) := MemOk_up hH.2.1 hA.1 h0 hA.2 hv
  show W _ _ _ _ _ _ _ _ _ _ _ _ _ _ _ (F0 _ _ _ (.int (Int32.ofInt y) :: .int (Int32.ofInt i) :: rf g x :: _))
  rw [rf_ref hA.1]
  refine va_bast (cA := gC g 2) (n := lenOf t x) (f := fun j => Int32.ofInt (σ x j)) hC.1 hC.2.1 hC.2.2.2.2.2.2.2.2.1 hH.1 (world_D g t σ) hS x.toNat 2 (by rw [world_atI hA.1 hA.2]; rfl) (tyL_at g (by decide)) (in_of h0 hn hb) hd (fun H1 locs1 hP1 hD1 hS1 => ?_)
  have hse := world_set (g := g) (s := σ) (s' := up σ x i (i8 y)) hA.1 hA.2 (fun o ho => up_ne ho) (e' := .inl (gC g 2, lenOf t x, .inl (upd (fun j : Nat => Int32.ofInt (σ x j)) (Int32.ofInt i).toNatClampNeg (vp_nar .byte (Int32.ofInt y))))) (by
    rw [show (vp_nar .byte (Int32.ofInt y)) = Int32.ofInt (i8 y) from of_i8 y, ← upd_up h0 hb]; rfl)
  rw [hse] at hP1
  exact kk p en R s m args below meth c H1 locs1 cells slots QM lsA hC h1 h2 h3 h4 (Hld_of hP1 hm hS1 hZ.1) hS1 hZ hls hol (okTs_tl (okTs_tl (okTs_tl hos))) hr
theorem r_zast {x i y : Int} (hA : isT t x 3) (h0 : 0 ≤ i) (hn : i < lenOf t x) (hd : decode (mC e) pc = .ok (.bastore, 1)) (kk : Wp l g e d kc ks (pc + 1) ls st t (up σ x i (i1 y)) Q) : Wp l g e d kc ks pc ls (vI y :: vI i :: vR x :: st) t σ Q := by
  intro p en R s m args below meth c H locs cells slots QM lsA hC h1 h2 h3 h4 hH hS hZ hls hol hos hr
  have hy : b32 y := okTs_hd hos
  have hb : b32 i := okTs_hd (okTs_tl hos)
  have hv : b32 (i1 y) := by first | exact hy | exact i8_b _ | exact i1_b _ | exact ich_b _
  have hm : MemOk t (up σ x i (i1 y)) := MemOk_up hH.2.1 hA.1 h0 hA.2 hv
  show W _ _ _ _ _ _ _ _ _ _ _ _ _ _ _ (F0 _ _ _ (.int (Int32.ofInt y) :: .int (Int32.ofInt i) :: rf g x :: _))
  rw [rf_ref hA.1]
  refine va_zast (cA := gC g 3) (n := lenOf t x) (f := fun j => Int32.ofInt (σ x j)) hC.1 hC.2.1 hC.2.2.2.2.2.2.2.2.1 hH.1 (world_D g t σ) hS x.toNat 3 (by rw [world_atI hA.1 hA.2]; rfl) (tyL_at g (by decide)) (in_of h0 hn hb) hd (fun H1 locs1 hP1 hD1 hS1 => ?_)
  have hse := world_set (g := g) (s := σ) (s' := up σ x i (i1 y)) hA.1 hA.2 (fun o ho => up_ne ho) (e' := .inl (gC g 3, lenOf t x, .inl (upd (fun j : Nat => Int32.ofInt (σ x j)) (Int32.ofInt i).toNatClampNeg (vp_nar .boolean (Int32.ofInt y))))) (by
    rw [show (vp_nar .boolean (Int32.ofInt y)) = Int32.ofInt (i1 y) from of_i1 y, ← upd_up h0 hb]; rfl)
  rw [hse] at hP1
  exact kk p en R s m args below meth c H1 locs1 cells slots QM lsA hC h1 h2 h3 h4 (Hld_of hP1 hm hS1 hZ.1) hS1 hZ hls hol (okTs_tl (okTs_tl (okTs_tl hos))) hr
theorem r_cast {x i y : Int} (hA : isT t x 4) (h0 : 0 ≤ i) (hn : i < lenOf t x) (hd : decode (mC e) pc = .ok (.castore, 1)) (kk : Wp l g e d kc ks (pc + 1) ls st t (up σ x i (ich y)) Q) : Wp l g e d kc ks pc ls (vI y :: vI i :: vR x :: st) t σ Q := by
  intro p en R s m args below meth c H locs cells slots QM lsA hC h1 h2 h3 h4 hH hS hZ hls hol hos hr
  have hy : b32 y := okTs_hd hos
  have hb : b32 i := okTs_hd (okTs_tl hos)
  have hv : b32 (ich y) := by first | exact hy | exact i8_b _ | exact i1_b _ | exact ich_b _
  have hm : MemOk t (up σ x i (ich y)) := MemOk_up hH.2.1 hA.1 h0 hA.2 hv
  show W _ _ _ _ _ _ _ _ _ _ _ _ _ _ _ (F0 _ _ _ (.int (Int32.ofInt y) :: .int (Int32.ofInt i) :: rf g x :: _))
  rw [rf_ref hA.1]
  refine va_cast (cA := gC g 4) (n := lenOf t x) (f := fun j => Int32.ofInt (σ x j)) hC.1 hC.2.1 hC.2.2.2.2.2.2.2.2.1 hH.1 (world_D g t σ) hS x.toNat 4 (by rw [world_atI hA.1 hA.2]; rfl) (tyL_at g (by decide)) (in_of h0 hn hb) hd (fun H1 locs1 hP1 hD1 hS1 => ?_)
  have hse := world_set (g := g) (s := σ) (s' := up σ x i (ich y)) hA.1 hA.2 (fun o ho => up_ne ho) (e' := .inl (gC g 4, lenOf t x, .inl (upd (fun j : Nat => Int32.ofInt (σ x j)) (Int32.ofInt i).toNatClampNeg (vp_nar .char (Int32.ofInt y))))) (by
    rw [show (vp_nar .char (Int32.ofInt y)) = Int32.ofInt (ich y) from of_ich y, ← upd_up h0 hb]; rfl)
  rw [hse] at hP1
  exact kk p en R s m args below meth c H1 locs1 cells slots QM lsA hC h1 h2 h3 h4 (Hld_of hP1 hm hS1 hZ.1) hS1 hZ hls hol (okTs_tl (okTs_tl (okTs_tl hos))) hr
theorem r_lald {x i : Int} (hA : isT t x 1) (h0 : 0 ≤ i) (hn : i < lenOf t x) (hd : decode (mC e) pc = .ok (.laload, 1)) (kk : Wp l g e d kc ks (pc + 1) ls (vL (σ x i) :: st) t σ Q) : Wp l g e d kc ks pc ls (vI i :: vR x :: st) t σ Q := by
  intro p en R s m args below meth c H locs cells slots QM lsA hC h1 h2 h3 h4 hH hS hZ hls hol hos hr
  have hb : b32 i := okTs_hd hos
  have hv : b64 (σ x i) := okS_at hH.2.1 hA h0
  have kw := kk p en R s m args below meth c H locs cells slots QM lsA hC h1 h2 h3 h4 hH hS hZ hls hol (okTs_cons hv (okTs_tl (okTs_tl hos))) hr
  show W _ _ _ _ _ _ _ _ _ _ _ _ _ _ _ (F0 _ _ _ (.int (Int32.ofInt i) :: rf g x :: _))
  rw [rf_ref hA.1]
  exact va_lald (cA := gC g 1) (n := lenOf t x) (f := fun j => Int64.ofInt (σ x j)) hC.1 hC.2.1 hC.2.2.2.2.2.2.2.2.1 hH.1 x.toNat 1 (by rw [world_atI hA.1 hA.2]; rfl) (tyL_at g (by decide)) (in_of h0 hn hb) hd (by rw [rd_at (σ := σ) (x := x) h0 hb]; exact kw)
theorem r_last {x i y : Int} (hA : isT t x 1) (h0 : 0 ≤ i) (hn : i < lenOf t x) (hd : decode (mC e) pc = .ok (.lastore, 1)) (kk : Wp l g e d kc ks (pc + 1) ls st t (up σ x i y) Q) : Wp l g e d kc ks pc ls (vL y :: vI i :: vR x :: st) t σ Q := by
  intro p en R s m args below meth c H locs cells slots QM lsA hC h1 h2 h3 h4 hH hS hZ hls hol hos hr
  have hy : b64 y := okTs_hd hos
  have hb : b32 i := okTs_hd (okTs_tl hos)
  have hm : MemOk t (up σ x i y) := MemOk_up hH.2.1 hA.1 h0 hA.2 hy
  show W _ _ _ _ _ _ _ _ _ _ _ _ _ _ _ (F0 _ _ _ (.long (Int64.ofInt y) :: .int (Int32.ofInt i) :: rf g x :: _))
  rw [rf_ref hA.1]
  refine va_last (cA := gC g 1) (n := lenOf t x) (f := fun j => Int64.ofInt (σ x j)) hC.1 hC.2.1 hC.2.2.2.2.2.2.2.2.1 hH.1 (world_D g t σ) hS x.toNat 1 (by rw [world_atI hA.1 hA.2]; rfl) (tyL_at g (by decide)) (in_of h0 hn hb) hd (fun H1 locs1 hP1 hD1 hS1 => ?_)
  have hse := world_set (g := g) (s := σ) (s' := up σ x i y) hA.1 hA.2 (fun o ho => up_ne ho) (e' := .inl (gC g 1, lenOf t x, .inr (.inl (vp_updL (fun j : Nat => Int64.ofInt (σ x j)) (Int32.ofInt i).toNatClampNeg (Int64.ofInt y))))) (by
    rw [← updL_up h0 hb]; rfl)
  rw [hse] at hP1
  exact kk p en R s m args below meth c H1 locs1 cells slots QM lsA hC h1 h2 h3 h4 (Hld_of hP1 hm hS1 hZ.1) hS1 hZ hls hol (okTs_tl (okTs_tl (okTs_tl hos))) hr
theorem r_aald {x i : Int} (hA : isT t x 5) (h0 : 0 ≤ i) (hn : i < lenOf t x) (hd : decode (mC e) pc = .ok (.aaload, 1)) (kk : Wp l g e d kc ks (pc + 1) ls (vR (σ x i) :: st) t σ Q) : Wp l g e d kc ks pc ls (vI i :: vR x :: st) t σ Q := by
  intro p en R s m args below meth c H locs cells slots QM lsA hC h1 h2 h3 h4 hH hS hZ hls hol hos hr
  have hb : b32 i := okTs_hd hos
  have hv : -1 ≤ σ x i := okS_at hH.2.1 hA h0
  have kw := kk p en R s m args below meth c H locs cells slots QM lsA hC h1 h2 h3 h4 hH hS hZ hls hol (okTs_cons trivial (okTs_tl (okTs_tl hos))) hr
  show W _ _ _ _ _ _ _ _ _ _ _ _ _ _ _ (F0 _ _ _ (.int (Int32.ofInt i) :: rf g x :: _))
  rw [rf_ref hA.1]
  exact va_aldq (cA := gC g 5) (C := "StruckColours$Sea") (n := lenOf t x) (f := fun j => rfo g (σ x j)) hC.1 hC.2.1 hC.2.2.2.2.2.2.2.2.1 hH.1 x.toNat 5 (by rw [world_atI hA.1 hA.2]; rfl) (tyL_at g (by decide)) (in_of h0 hn hb) hd (by rw [rd_at (σ := σ) (x := x) h0 hb, rf_rfo hv]; exact kw)
theorem r_aast {x i y : Int} (hA : isT t x 5) (hy : isO t y 5) (h0 : 0 ≤ i) (hn : i < lenOf t x) (hd : decode (mC e) pc = .ok (.aastore, 1)) (kk : Wp l g e d kc ks (pc + 1) ls st t (up σ x i y) Q) : Wp l g e d kc ks pc ls (vR y :: vI i :: vR x :: st) t σ Q := by
  intro p en R s m args below meth c H locs cells slots QM lsA hC h1 h2 h3 h4 hH hS hZ hls hol hos hr
  obtain ⟨hy0, fin, hys⟩ := hy
  have hb : b32 i := okTs_hd (okTs_tl hos)
  have hm : MemOk t (up σ x i y) := MemOk_up hH.2.1 hA.1 h0 hA.2 (show -1 ≤ y by omega)
  show W _ _ _ _ _ _ _ _ _ _ _ _ _ _ _ (F0 _ _ _ (rf g y :: .int (Int32.ofInt i) :: rf g x :: _))
  rw [rf_ref hA.1, rf_ref hy0]
  refine va_astq (cA := gC g 5) (r := (RX5, TX5, 9)) (n := lenOf t x) (f := fun j => rfo g (σ x j)) hC.1 hC.2.1 hC.2.2.2.2.2.2.2.2.1 hH.1 (world_D g t σ) hS x.toNat 5 y.toNat 5 (by rw [world_atI hA.1 hA.2]; rfl) (tyL_at g (by decide)) (by rw [world_atI hy0 hys]; rfl) rfl (in_of h0 hn hb) hd (fun H1 locs1 hP1 hD1 hS1 => ?_)
  have hse := world_set (g := g) (s := σ) (s' := up σ x i y) hA.1 hA.2 (fun o ho => up_ne ho) (e' := .inl (gC g 5, lenOf t x, .inr (.inr (.inr (.inr (va_up (fun j : Nat => rfo g (σ x j)) (Int32.ofInt i).toNatClampNeg (some (gO g + y.toNat)))))))) (by
    rw [show some (gO g + y.toNat) = rfo g y by simp [rfo, hy0], ← updR_up h0 hb]; rfl)
  rw [hse] at hP1
  exact kk p en R s m args below meth c H1 locs1 cells slots QM lsA hC h1 h2 h3 h4 (Hld_of hP1 hm hS1 hZ.1) hS1 hZ hls hol (okTs_tl (okTs_tl (okTs_tl hos))) hr
theorem r_alen {x : Int} {ty : Nat} (hty : ty ≤ 5) (hA : isT t x ty) (hn : lenOf t x < 2147483648) (hd : decode (mC e) pc = .ok (.arraylength, 1)) (kk : Wp l g e d kc ks (pc + 1) ls (vI (lenOf t x) :: st) t σ Q) : Wp l g e d kc ks pc ls (vR x :: st) t σ Q := by
  intro p en R s m args below meth c H locs cells slots QM lsA hC h1 h2 h3 h4 hH hS hZ hls hol hos hr
  have kw := kk p en R s m args below meth c H locs cells slots QM lsA hC h1 h2 h3 h4 hH hS hZ hls hol (okTs_cons (show b32 _ by unfold b32; omega) (okTs_tl hos)) hr
  show W _ _ _ _ _ _ _ _ _ _ _ _ _ _ _ (F0 _ _ _ (rf g x :: _))
  rw [rf_ref hA.1]
  exact va_alen (cA := gC g ty) (x := (lenOf t x, arrE g ty (σ x))) hC.1 hC.2.1 hC.2.2.2.2.2.2.2.2.1 hH.1 x.toNat ty (by rw [world_atI hA.1 hA.2]; rfl) (tyL_at g hty) Int32.ofInt_eq_ofNat.symm hd kw
theorem rf_st {g : GE} {i : Nat} (h : 2 ≤ i) : rf g (-(i : Int)) = .ref (gS g i) := by
  unfold rf
  rw [if_neg (by omega), if_neg (by omega)]
  congr 2
  omega
theorem r_slen {i : Nat} (h2i : 2 ≤ i) (hi5 : i ≤ 5) (hd : decode (mC e) pc = .ok (.arraylength, 1)) (kk : Wp l g e d kc ks (pc + 1) ls (vI (sLen g i) :: st) t σ Q) : Wp l g e d kc ks pc ls (vR (-(i : Int)) :: st) t σ Q := by
  intro p en R s m args below meth c H locs cells slots QM lsA hC h1 h2 h3 h4 hH hS hZ hls hol hos hr
  have hg := hC.2.2.2.2.2.2.2.2.2.2.2.2.2.2
  have hn : sLen g i < 2147483648 := by
    unfold sLen
    split
    · exact hg
    · split <;> omega
  have kw := kk p en R s m args below meth c H locs cells slots QM lsA hC h1 h2 h3 h4 hH hS hZ hls hol (okTs_cons (show b32 _ by unfold b32; omega) (okTs_tl hos)) hr
  show W _ _ _ _ _ _ _ _ _ _ _ _ _ _ _ (F0 _ _ _ (rf g (-(i : Int)) :: _))
  rw [rf_st h2i]
  exact va_tlen hC.1 hC.2.1 (hC.2.2.2.2.2.2.2.2.2.2.2.1 i h2i hi5) hS Int32.ofInt_eq_ofNat.symm hd kw
theorem r_sald {i : Nat} {j : Int} (h3i : 3 ≤ i) (hi5 : i ≤ 5) (h0 : 0 ≤ j) (hn : j < sLen g i) (hd : decode (mC e) pc = .ok (.iaload, 1)) (kk : Wp l g e d kc ks (pc + 1) ls (vI (sCt g i j.toNat) :: st) t σ Q) : Wp l g e d kc ks pc ls (vI j :: vR (-(i : Int)) :: st) t σ Q := by
  intro p en R s m args below meth c H locs cells slots QM lsA hC h1 h2 h3 h4 hH hS hZ hls hol hos hr
  have hb : b32 j := okTs_hd hos
  have kw := kk p en R s m args below meth c H locs cells slots QM lsA hC h1 h2 h3 h4 hH hS hZ hls hol (okTs_cons (hC.2.2.2.2.2.2.2.2.2.2.2.2.2.1 i j.toNat) (okTs_tl (okTs_tl hos))) hr
  show W _ _ _ _ _ _ _ _ _ _ _ _ _ _ _ (F0 _ _ _ (.int (Int32.ofInt j) :: rf g (-(i : Int)) :: _))
  rw [rf_st (by omega)]
  have hT := hC.2.2.2.2.2.2.2.2.2.2.2.1 i (by omega) hi5
  have hty : sTy i = 0 := by unfold sTy; rw [if_neg (by omega)]
  rw [hty] at hT
  exact va_ti hC.1 hC.2.1 hT hS (in_of h0 hn hb) (v := .int (Int32.ofInt (sCt g i j.toNat))) (by rw [clamp_of' hb]) hd kw
theorem r_scald {j : Int} (h0 : 0 ≤ j) (hn : j < 7) (hd : decode (mC e) pc = .ok (.caload, 1)) (kk : Wp l g e d kc ks (pc + 1) ls (vI (sCt g 2 j.toNat) :: st) t σ Q) : Wp l g e d kc ks pc ls (vI j :: vR (-2) :: st) t σ Q := by
  intro p en R s m args below meth c H locs cells slots QM lsA hC h1 h2 h3 h4 hH hS hZ hls hol hos hr
  have hb : b32 j := okTs_hd hos
  have kw := kk p en R s m args below meth c H locs cells slots QM lsA hC h1 h2 h3 h4 hH hS hZ hls hol (okTs_cons (hC.2.2.2.2.2.2.2.2.2.2.2.2.2.1 2 j.toNat) (okTs_tl (okTs_tl hos))) hr
  show W _ _ _ _ _ _ _ _ _ _ _ _ _ _ _ (F0 _ _ _ (.int (Int32.ofInt j) :: rf g (-((2 : Nat) : Int)) :: _))
  rw [rf_st (by omega)]
  have hT := hC.2.2.2.2.2.2.2.2.2.2.2.1 2 (by omega) (by omega)
  exact va_tc hC.1 hC.2.1 hT hS (in_of h0 (by exact hn) hb) (v := .int (Int32.ofInt (sCt g 2 j.toNat))) (by rw [clamp_of' hb]) hd kw
def sLink (own : String) (idx i : Nat) : Bool := decide (Cond.fieldLink own idx "StruckColours" (sNm i).1 (sNm i).2 ∈ lw_tbl) && goodWord (Cond.fieldLink own idx "StruckColours" (sNm i).1 (sNm i).2)
theorem r_gets {idx i : Nat} (h2i : 2 ≤ i) (hi4 : i ≤ 4) (hl : sLink (mN e).cls idx i = true) (hd : decode (mC e) pc = .ok (.getstatic idx, 3)) (kk : Wp l g e d kc ks (pc + 3) ls (vR (-(i : Int)) :: st) t σ Q) : Wp l g e d kc ks pc ls st t σ Q := by
  intro p en R s m args below meth c H locs cells slots QM lsA hC h1 h2 h3 h4 hH hS hZ hls hol hos hr
  have kw := kk p en R s m args below meth c H locs cells slots QM lsA hC h1 h2 h3 h4 hH hS hZ hls hol (okTs_cons trivial hos) hr
  rw [List.map_cons, show cv g (vR (-(i : Int))) = rf g (-(i : Int)) from rfl, rf_st h2i] at kw
  unfold sLink at hl
  simp only [Bool.and_eq_true, decide_eq_true_eq] at hl
  exact va_gets hC.1 hC.2.1 (hC.2.2.2.2.2.2.2.2.2.2.2.2.1 i h2i hi4) hS hC.2.2.2.2.1 (hC.2.2.2.2.2.1 _ (List.mem_filter.mpr hl)) (fun _ z => z) hd kw
def cpy (σ : Mem) (a sp b dp n : Int) : Mem := fun o j => if o = b ∧ dp ≤ j ∧ j < dp + n then σ a (j - dp + sp) else σ o j
def cLink (own : String) (idx : Nat) : Bool := inALL [Cond.methodLink own idx arraycopyName, Cond.native arraycopyName, Cond.static arraycopyName, Cond.initialized "java/lang/System"]
theorem nfw : nativeFrameWords "java/lang/System" "arraycopy" 5 ≤ 40 := by decide +kernel
theorem r_copy {idx : Nat} {a b sp dp n : Int} (hA : isT t a 0) (hB : isT t b 0) (q1 : 0 ≤ sp) (q2 : 0 ≤ dp) (q3 : 0 ≤ n) (q4 : sp + n ≤ lenOf t a) (q5 : dp + n ≤ lenOf t b) (hst : (st.map catT).sum ≤ 8) (hl : cLink (mN e).cls idx = true) (hd : decode (mC e) pc = .ok (.invokestatic idx, 3))
    (kk : Wp l g e (d + 1) kc ks (pc + 3) ls st t (cpy σ a sp b dp n) Q) : Wp l g e (d + 1) kc ks pc ls (vI n :: vI dp :: vR b :: vI sp :: vR a :: st) t σ Q := by
  intro p en R s m args below meth c H locs cells slots QM lsA hC h1 h2 h3 h4 hH hS hZ hls hol hos hr
  have hn : b32 n := okTs_hd hos
  have hdp : b32 dp := okTs_hd (okTs_tl hos)
  have hsp : b32 sp := okTs_hd (okTs_tl (okTs_tl (okTs_tl hos)))
  have hwd := inALL_of hl
  have w1 := hC.2.2.2.2.2.1 _ (hwd _ List.mem_cons_self)
  have w2 := hC.2.2.2.2.2.1 _ (hwd _ (List.mem_cons_of_mem _ List.mem_cons_self))
  have w3 := hC.2.2.2.2.2.1 _ (hwd _ (List.mem_cons_of_mem _ (List.mem_cons_of_mem _ List.mem_cons_self)))
  have w4 := hC.2.2.2.2.2.1 _ (hwd _ (List.mem_cons_of_mem _ (List.mem_cons_of_mem _ (List.mem_cons_of_mem _ List.mem_cons_self))))
  have hm : MemOk t (cpy σ a sp b dp n) := by
    intro k sh hk j
    unfold cpy
    by_cases hc : (k : Int) = b ∧ dp ≤ (j : Int) ∧ (j : Int) < dp + n
    · rw [if_pos hc]
      have hkb : k = b.toNat := by omega
      rw [hkb, hB.2] at hk
      cases hk
      exact okS_at hH.2.1 hA (i := (j : Int) - dp + sp) (by omega)
    · rw [if_neg hc]
      exact hH.2.1 k sh hk j
  show W _ _ _ _ _ _ _ _ _ _ _ _ _ _ _ (F0 _ _ _ (.int (Int32.ofInt n) :: .int (Int32.ofInt dp) :: rf g b :: .int (Int32.ofInt sp) :: rf g a :: _))
  rw [rf_ref hA.1, rf_ref hB.1]
  refine va_copyi (c0 := gC g 0) (c1 := gC g 0) (n0 := lenOf t a) (n1 := lenOf t b) (f := fun j => Int32.ofInt (σ a j)) (g := fun j => Int32.ofInt (σ b j)) (ty := .int) hC.1 hC.2.1 (hC.2.2.2.1.trans hls.1.symm) hC.2.2.2.2.1 w1 w2 w3 w4 hC.2.2.2.2.2.2.2.2.1 hH.1 (world_D g t σ) hS a.toNat b.toNat 0 0 (by rw [world_atI hA.1 hA.2]; rfl) (by rw [world_atI hB.1 hB.2]; rfl) (tyL_at g (by decide)) (tyL_at g (by decide)) rfl
    (fun z => by have := (lt_of hsp b32_0).mp z; omega) (fun z => by have := (lt_of hdp b32_0).mp z; omega) (fun z => by have := (lt_of hn b32_0).mp z; omega) (by rw [clamp_of' hsp, clamp_of' hn]; omega) (by rw [clamp_of' hdp, clamp_of' hn]; omega) (fun i _ => rfl) (by omega) (by rw [cat_map]; have := nfw; omega) hd (fun H1 locs1 hP1 hD1 hS1 => ?_)
  have hse := world_set (g := g) (s := σ) (s' := cpy σ a sp b dp n) hB.1 hB.2 (fun o ho => by funext j; simp [cpy, ho]) (e' := .inl (gC g 0, lenOf t b, .inl (va_cpy (fun j : Nat => Int32.ofInt (σ a j)) (fun j : Nat => Int32.ofInt (σ b j)) (Int32.ofInt sp).toNatClampNeg (Int32.ofInt dp).toNatClampNeg (Int32.ofInt n).toNatClampNeg))) (by
    rw [clamp_of' hsp, clamp_of' hdp, clamp_of' hn]
    show Sum.inl (gC g 0, lenOf t b, Sum.inl (fun j : Nat => Int32.ofInt (cpy σ a sp b dp n b j))) = _
    have : (fun j : Nat => Int32.ofInt (cpy σ a sp b dp n b j)) = va_cpy (fun j : Nat => Int32.ofInt (σ a j)) (fun j : Nat => Int32.ofInt (σ b j)) sp.toNat dp.toNat n.toNat := by
      funext j
      unfold cpy va_cpy
      by_cases hc : dp.toNat ≤ j ∧ j < dp.toNat + n.toNat
      · rw [if_pos hc, if_pos ⟨rfl, by omega, by omega⟩]
        congr 2
        omega
      · rw [if_neg hc, if_neg (fun z => hc (by omega))]
    rw [this])
  rw [hse] at hP1
  exact kk p en R s m args below meth c H1 locs1 cells slots QM lsA hC h1 h2 h3 h4 (Hld_of hP1 hm hS1 hZ.1) hS1 hZ hls hol (okTs_tl (okTs_tl (okTs_tl (okTs_tl (okTs_tl hos))))) hr
end ARR
