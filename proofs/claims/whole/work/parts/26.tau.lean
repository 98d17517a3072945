/-! the shapes of all objects, as the constructors leave them -/
def NotT (t : Tau) (a : Int) : Prop := isO t a 1 ∧ (finOf t a 0 = a + 1 ∧ finOf t a 1 = a + 2 ∧ finOf t a 2 = a + 3) ∧ (isT t (a + 1) 0 ∧ isT t (a + 2) 0 ∧ isT t (a + 3) 0) ∧ lenOf t (a + 1) = 12 ∧ lenOf t (a + 2) = 12 ∧ lenOf t (a + 3) = 12
def RulT (t : Tau) (a : Int) : Prop := isO t a 4 ∧ (finOf t a 0 = a + 1 ∧ finOf t a 1 = a + 2 ∧ finOf t a 2 = a + 3) ∧ (isT t (a + 1) 0 ∧ isT t (a + 2) 4 ∧ isT t (a + 3) 0) ∧ lenOf t (a + 1) = 40 ∧ lenOf t (a + 2) = 40 ∧ lenOf t (a + 3) = 40
def TC (t : Tau) : Prop := isO t 0 8 ∧ finOf t 0 0 = 1 ∧ finOf t 0 1 = 3 ∧ finOf t 0 2 = 5 ∧ finOf t 0 3 = 12 ∧ finOf t 0 4 = 19 ∧ finOf t 0 5 = 26 ∧ finOf t 0 6 = 112 ∧ finOf t 0 7 = 119 ∧ finOf t 0 8 = 126 ∧ finOf t 0 9 = 157 ∧ finOf t 0 10 = 161 ∧ finOf t 0 11 = 165 ∧ isO t 1 7 ∧ finOf t 1 0 = 2 ∧ isT t 2 4 ∧ lenOf t 2 = 80 ∧ isO t 3 3 ∧ finOf t 3 0 = 4 ∧ isT t 4 1 ∧ lenOf t 4 = 8 ∧ SeaT t 5 ∧ SeaT t 12 ∧ SeaT t 19 ∧ SeaT t 112 ∧ SeaT t 119 ∧ isO t 26 2 ∧ finOf t 26 0 = 27 ∧ isT t 27 5 ∧ lenOf t 27 = 12 ∧ (∀ k : Int, 0 ≤ k → k < 12 → SeaT t (28 + 7 * k)) ∧ isO t 126 6 ∧ finOf t 126 0 = 127 ∧ finOf t 126 1 = 128 ∧ isT t 127 5 ∧ lenOf t 127 = 4 ∧ isT t 128 0 ∧ lenOf t 128 = 6 ∧ (∀ k : Int, 0 ≤ k → k < 4 → SeaT t (129 + 7 * k)) ∧ NotT t 157 ∧ NotT t 161 ∧ isO t 165 0 ∧ finOf t 165 0 = 166 ∧ isT t 166 3 ∧ lenOf t 166 = 169 ∧ RulT t 167 ∧ RulT t 171
theorem TC.o0 {t : Tau} (h : TC t) : isO t 0 8 := h.1
theorem TC.f0_0 {t : Tau} (h : TC t) : finOf t 0 0 = 1 := h.2.1
theorem TC.f0_1 {t : Tau} (h : TC t) : finOf t 0 1 = 3 := h.2.2.1
theorem TC.f0_2 {t : Tau} (h : TC t) : finOf t 0 2 = 5 := h.2.2.2.1
theorem TC.f0_3 {t : Tau} (h : TC t) : finOf t 0 3 = 12 := h.2.2.2.2.1
theorem TC.f0_4 {t : Tau} (h : TC t) : finOf t 0 4 = 19 := h.2.2.2.2.2.1
theorem TC.f0_5 {t : Tau} (h : TC t) : finOf t 0 5 = 26 := h.2.2.2.2.2.2.1
theorem TC.f0_6 {t : Tau} (h : TC t) : finOf t 0 6 = 112 := h.2.2.2.2.2.2.2.1
theorem TC.f0_7 {t : Tau} (h : TC t) : finOf t 0 7 = 119 := h.2.2.2.2.2.2.2.2.1
theorem TC.f0_8 {t : Tau} (h : TC t) : finOf t 0 8 = 126 := h.2.2.2.2.2.2.2.2.2.1
theorem TC.f0_9 {t : Tau} (h : TC t) : finOf t 0 9 = 157 := h.2.2.2.2.2.2.2.2.2.2.1
theorem TC.f0_10 {t : Tau} (h : TC t) : finOf t 0 10 = 161 := h.2.2.2.2.2.2.2.2.2.2.2.1
theorem TC.f0_11 {t : Tau} (h : TC t) : finOf t 0 11 = 165 := h.2.2.2.2.2.2.2.2.2.2.2.2.1
theorem TC.o1 {t : Tau} (h : TC t) : isO t 1 7 := h.2.2.2.2.2.2.2.2.2.2.2.2.2.1
theorem TC.f1 {t : Tau} (h : TC t) : finOf t 1 0 = 2 := h.2.2.2.2.2.2.2.2.2.2.2.2.2.2.1
theorem TC.t2 {t : Tau} (h : TC t) : isT t 2 4 := h.2.2.2.2.2.2.2.2.2.2.2.2.2.2.2.1
theorem TC.l2 {t : Tau} (h : TC t) : lenOf t 2 = 80 := h.2.2.2.2.2.2.2.2.2.2.2.2.2.2.2.2.1
theorem TC.o3 {t : Tau} (h : TC t) : isO t 3 3 := h.2.2.2.2.2.2.2.2.2.2.2.2.2.2.2.2.2.1
theorem TC.f3 {t : Tau} (h : TC t) : finOf t 3 0 = 4 := h.2.2.2.2.2.2.2.2.2.2.2.2.2.2.2.2.2.2.1
theorem TC.t4 {t : Tau} (h : TC t) : isT t 4 1 := h.2.2.2.2.2.2.2.2.2.2.2.2.2.2.2.2.2.2.2.1
theorem TC.l4 {t : Tau} (h : TC t) : lenOf t 4 = 8 := h.2.2.2.2.2.2.2.2.2.2.2.2.2.2.2.2.2.2.2.2.1
theorem TC.s5 {t : Tau} (h : TC t) : SeaT t 5 := h.2.2.2.2.2.2.2.2.2.2.2.2.2.2.2.2.2.2.2.2.2.1
theorem TC.s12 {t : Tau} (h : TC t) : SeaT t 12 := h.2.2.2.2.2.2.2.2.2.2.2.2.2.2.2.2.2.2.2.2.2.2.1
theorem TC.s19 {t : Tau} (h : TC t) : SeaT t 19 := h.2.2.2.2.2.2.2.2.2.2.2.2.2.2.2.2.2.2.2.2.2.2.2.1
theorem TC.s112 {t : Tau} (h : TC t) : SeaT t 112 := h.2.2.2.2.2.2.2.2.2.2.2.2.2.2.2.2.2.2.2.2.2.2.2.2.1
theorem TC.s119 {t : Tau} (h : TC t) : SeaT t 119 := h.2.2.2.2.2.2.2.2.2.2.2.2.2.2.2.2.2.2.2.2.2.2.2.2.2.1
theorem TC.o26 {t : Tau} (h : TC t) : isO t 26 2 := h.2.2.2.2.2.2.2.2.2.2.2.2.2.2.2.2.2.2.2.2.2.2.2.2.2.2.1
theorem TC.f26 {t : Tau} (h : TC t) : finOf t 26 0 = 27 := h.2.2.2.2.2.2.2.2.2.2.2.2.2.2.2.2.2.2.2.2.2.2.2.2.2.2.2.1
theorem TC.t27 {t : Tau} (h : TC t) : isT t 27 5 := h.2.2.2.2.2.2.2.2.2.2.2.2.2.2.2.2.2.2.2.2.2.2.2.2.2.2.2.2.1
theorem TC.l27 {t : Tau} (h : TC t) : lenOf t 27 = 12 := h.2.2.2.2.2.2.2.2.2.2.2.2.2.2.2.2.2.2.2.2.2.2.2.2.2.2.2.2.2.1
theorem TC.s28 {t : Tau} (h : TC t) : (∀ k : Int, 0 ≤ k → k < 12 → SeaT t (28 + 7 * k)) := h.2.2.2.2.2.2.2.2.2.2.2.2.2.2.2.2.2.2.2.2.2.2.2.2.2.2.2.2.2.2.1
theorem TC.o126 {t : Tau} (h : TC t) : isO t 126 6 := h.2.2.2.2.2.2.2.2.2.2.2.2.2.2.2.2.2.2.2.2.2.2.2.2.2.2.2.2.2.2.2.1
theorem TC.f126_0 {t : Tau} (h : TC t) : finOf t 126 0 = 127 := h.2.2.2.2.2.2.2.2.2.2.2.2.2.2.2.2.2.2.2.2.2.2.2.2.2.2.2.2.2.2.2.2.1
theorem TC.f126_1 {t : Tau} (h : TC t) : finOf t 126 1 = 128 := h.2.2.2.2.2.2.2.2.2.2.2.2.2.2.2.2.2.2.2.2.2.2.2.2.2.2.2.2.2.2.2.2.2.1
theorem TC.t127 {t : Tau} (h : TC t) : isT t 127 5 := h.2.2.2.2.2.2.2.2.2.2.2.2.2.2.2.2.2.2.2.2.2.2.2.2.2.2.2.2.2.2.2.2.2.2.1
theorem TC.l127 {t : Tau} (h : TC t) : lenOf t 127 = 4 := h.2.2.2.2.2.2.2.2.2.2.2.2.2.2.2.2.2.2.2.2.2.2.2.2.2.2.2.2.2.2.2.2.2.2.2.1
theorem TC.t128 {t : Tau} (h : TC t) : isT t 128 0 := h.2.2.2.2.2.2.2.2.2.2.2.2.2.2.2.2.2.2.2.2.2.2.2.2.2.2.2.2.2.2.2.2.2.2.2.2.1
theorem TC.l128 {t : Tau} (h : TC t) : lenOf t 128 = 6 := h.2.2.2.2.2.2.2.2.2.2.2.2.2.2.2.2.2.2.2.2.2.2.2.2.2.2.2.2.2.2.2.2.2.2.2.2.2.1
theorem TC.s129 {t : Tau} (h : TC t) : (∀ k : Int, 0 ≤ k → k < 4 → SeaT t (129 + 7 * k)) := h.2.2.2.2.2.2.2.2.2.2.2.2.2.2.2.2.2.2.2.2.2.2.2.2.2.2.2.2.2.2.2.2.2.2.2.2.2.2.1
theorem TC.n157 {t : Tau} (h : TC t) : NotT t 157 := h.2.2.2.2.2.2.2.2.2.2.2.2.2.2.2.2.2.2.2.2.2.2.2.2.2.2.2.2.2.2.2.2.2.2.2.2.2.2.2.1
theorem TC.n161 {t : Tau} (h : TC t) : NotT t 161 := h.2.2.2.2.2.2.2.2.2.2.2.2.2.2.2.2.2.2.2.2.2.2.2.2.2.2.2.2.2.2.2.2.2.2.2.2.2.2.2.2.1
theorem TC.o165 {t : Tau} (h : TC t) : isO t 165 0 := h.2.2.2.2.2.2.2.2.2.2.2.2.2.2.2.2.2.2.2.2.2.2.2.2.2.2.2.2.2.2.2.2.2.2.2.2.2.2.2.2.2.1
theorem TC.f165 {t : Tau} (h : TC t) : finOf t 165 0 = 166 := h.2.2.2.2.2.2.2.2.2.2.2.2.2.2.2.2.2.2.2.2.2.2.2.2.2.2.2.2.2.2.2.2.2.2.2.2.2.2.2.2.2.2.1
theorem TC.t166 {t : Tau} (h : TC t) : isT t 166 3 := h.2.2.2.2.2.2.2.2.2.2.2.2.2.2.2.2.2.2.2.2.2.2.2.2.2.2.2.2.2.2.2.2.2.2.2.2.2.2.2.2.2.2.2.1
theorem TC.l166 {t : Tau} (h : TC t) : lenOf t 166 = 169 := h.2.2.2.2.2.2.2.2.2.2.2.2.2.2.2.2.2.2.2.2.2.2.2.2.2.2.2.2.2.2.2.2.2.2.2.2.2.2.2.2.2.2.2.2.1
theorem TC.r167 {t : Tau} (h : TC t) : RulT t 167 := h.2.2.2.2.2.2.2.2.2.2.2.2.2.2.2.2.2.2.2.2.2.2.2.2.2.2.2.2.2.2.2.2.2.2.2.2.2.2.2.2.2.2.2.2.2.1
theorem TC.r171 {t : Tau} (h : TC t) : RulT t 171 := h.2.2.2.2.2.2.2.2.2.2.2.2.2.2.2.2.2.2.2.2.2.2.2.2.2.2.2.2.2.2.2.2.2.2.2.2.2.2.2.2.2.2.2.2.2.2
def TM (t : Tau) : Prop := isO t 175 9 ∧ finOf t 175 0 = 176 ∧ isT t 176 0 ∧ lenOf t 176 = 50 ∧ finOf t 175 3 = 177 ∧ isT t 177 0 ∧ lenOf t 177 = 6 ∧ finOf t 175 4 = 178 ∧ isT t 178 2 ∧ lenOf t 178 = 80 ∧ finOf t 175 6 = 179 ∧ isT t 179 1 ∧ lenOf t 179 = 16 ∧ finOf t 175 14 = 180 ∧ isT t 180 0 ∧ lenOf t 180 = 12 ∧ isT t 181 2 ∧ lenOf t 181 = 40 ∧ isT t 182 2 ∧ lenOf t 182 = 40 ∧ finOf t 175 19 = 183 ∧ isT t 183 0 ∧ lenOf t 183 = 6 ∧ finOf t 175 20 = 184 ∧ isT t 184 0 ∧ lenOf t 184 = 600 ∧ finOf t 175 22 = 185 ∧ isT t 185 0 ∧ lenOf t 185 = 50 ∧ finOf t 175 23 = 186 ∧ isT t 186 0 ∧ lenOf t 186 = 50 ∧ finOf t 175 24 = 187 ∧ isT t 187 0 ∧ lenOf t 187 = 320 ∧ finOf t 175 25 = 188 ∧ isT t 188 0 ∧ lenOf t 188 = 200 ∧ finOf t 175 26 = 189 ∧ isT t 189 0 ∧ lenOf t 189 = 6 ∧ finOf t 175 27 = 190 ∧ isT t 190 0 ∧ lenOf t 190 = 50 ∧ finOf t 175 28 = 191 ∧ isT t 191 0 ∧ lenOf t 191 = 12 ∧ finOf t 175 29 = 192 ∧ isT t 192 0 ∧ lenOf t 192 = 12 ∧ finOf t 175 31 = 193 ∧ isT t 193 0 ∧ lenOf t 193 = 12 ∧ finOf t 175 32 = 194 ∧ isT t 194 0 ∧ lenOf t 194 = 12 ∧ finOf t 175 35 = 195 ∧ isT t 195 3 ∧ lenOf t 195 = 961 ∧ finOf t 175 38 = 196 ∧ isT t 196 0 ∧ lenOf t 196 = 100 ∧ finOf t 175 39 = 197 ∧ isT t 197 3 ∧ lenOf t 197 = 2 ∧ finOf t 175 40 = 198 ∧ isT t 198 0 ∧ lenOf t 198 = 2
theorem TM.o {t : Tau} (h : TM t) : isO t 175 9 := h.1
theorem TM.f0 {t : Tau} (h : TM t) : finOf t 175 0 = 176 := h.2.1
theorem TM.t176 {t : Tau} (h : TM t) : isT t 176 0 := h.2.2.1
theorem TM.l176 {t : Tau} (h : TM t) : lenOf t 176 = 50 := h.2.2.2.1
theorem TM.f3 {t : Tau} (h : TM t) : finOf t 175 3 = 177 := h.2.2.2.2.1
theorem TM.t177 {t : Tau} (h : TM t) : isT t 177 0 := h.2.2.2.2.2.1
theorem TM.l177 {t : Tau} (h : TM t) : lenOf t 177 = 6 := h.2.2.2.2.2.2.1
theorem TM.f4 {t : Tau} (h : TM t) : finOf t 175 4 = 178 := h.2.2.2.2.2.2.2.1
theorem TM.t178 {t : Tau} (h : TM t) : isT t 178 2 := h.2.2.2.2.2.2.2.2.1
theorem TM.l178 {t : Tau} (h : TM t) : lenOf t 178 = 80 := h.2.2.2.2.2.2.2.2.2.1
theorem TM.f6 {t : Tau} (h : TM t) : finOf t 175 6 = 179 := h.2.2.2.2.2.2.2.2.2.2.1
theorem TM.t179 {t : Tau} (h : TM t) : isT t 179 1 := h.2.2.2.2.2.2.2.2.2.2.2.1
theorem TM.l179 {t : Tau} (h : TM t) : lenOf t 179 = 16 := h.2.2.2.2.2.2.2.2.2.2.2.2.1
theorem TM.f14 {t : Tau} (h : TM t) : finOf t 175 14 = 180 := h.2.2.2.2.2.2.2.2.2.2.2.2.2.1
theorem TM.t180 {t : Tau} (h : TM t) : isT t 180 0 := h.2.2.2.2.2.2.2.2.2.2.2.2.2.2.1
theorem TM.l180 {t : Tau} (h : TM t) : lenOf t 180 = 12 := h.2.2.2.2.2.2.2.2.2.2.2.2.2.2.2.1
theorem TM.t181 {t : Tau} (h : TM t) : isT t 181 2 := h.2.2.2.2.2.2.2.2.2.2.2.2.2.2.2.2.1
theorem TM.l181 {t : Tau} (h : TM t) : lenOf t 181 = 40 := h.2.2.2.2.2.2.2.2.2.2.2.2.2.2.2.2.2.1
theorem TM.t182 {t : Tau} (h : TM t) : isT t 182 2 := h.2.2.2.2.2.2.2.2.2.2.2.2.2.2.2.2.2.2.1
theorem TM.l182 {t : Tau} (h : TM t) : lenOf t 182 = 40 := h.2.2.2.2.2.2.2.2.2.2.2.2.2.2.2.2.2.2.2.1
theorem TM.f19 {t : Tau} (h : TM t) : finOf t 175 19 = 183 := h.2.2.2.2.2.2.2.2.2.2.2.2.2.2.2.2.2.2.2.2.1
theorem TM.t183 {t : Tau} (h : TM t) : isT t 183 0 := h.2.2.2.2.2.2.2.2.2.2.2.2.2.2.2.2.2.2.2.2.2.1
theorem TM.l183 {t : Tau} (h : TM t) : lenOf t 183 = 6 := h.2.2.2.2.2.2.2.2.2.2.2.2.2.2.2.2.2.2.2.2.2.2.1
theorem TM.f20 {t : Tau} (h : TM t) : finOf t 175 20 = 184 := h.2.2.2.2.2.2.2.2.2.2.2.2.2.2.2.2.2.2.2.2.2.2.2.1
theorem TM.t184 {t : Tau} (h : TM t) : isT t 184 0 := h.2.2.2.2.2.2.2.2.2.2.2.2.2.2.2.2.2.2.2.2.2.2.2.2.1
theorem TM.l184 {t : Tau} (h : TM t) : lenOf t 184 = 600 := h.2.2.2.2.2.2.2.2.2.2.2.2.2.2.2.2.2.2.2.2.2.2.2.2.2.1
theorem TM.f22 {t : Tau} (h : TM t) : finOf t 175 22 = 185 := h.2.2.2.2.2.2.2.2.2.2.2.2.2.2.2.2.2.2.2.2.2.2.2.2.2.2.1
theorem TM.t185 {t : Tau} (h : TM t) : isT t 185 0 := h.2.2.2.2.2.2.2.2.2.2.2.2.2.2.2.2.2.2.2.2.2.2.2.2.2.2.2.1
theorem TM.l185 {t : Tau} (h : TM t) : lenOf t 185 = 50 := h.2.2.2.2.2.2.2.2.2.2.2.2.2.2.2.2.2.2.2.2.2.2.2.2.2.2.2.2.1
theorem TM.f23 {t : Tau} (h : TM t) : finOf t 175 23 = 186 := h.2.2.2.2.2.2.2.2.2.2.2.2.2.2.2.2.2.2.2.2.2.2.2.2.2.2.2.2.2.1
theorem TM.t186 {t : Tau} (h : TM t) : isT t 186 0 := h.2.2.2.2.2.2.2.2.2.2.2.2.2.2.2.2.2.2.2.2.2.2.2.2.2.2.2.2.2.2.1
theorem TM.l186 {t : Tau} (h : TM t) : lenOf t 186 = 50 := h.2.2.2.2.2.2.2.2.2.2.2.2.2.2.2.2.2.2.2.2.2.2.2.2.2.2.2.2.2.2.2.1
theorem TM.f24 {t : Tau} (h : TM t) : finOf t 175 24 = 187 := h.2.2.2.2.2.2.2.2.2.2.2.2.2.2.2.2.2.2.2.2.2.2.2.2.2.2.2.2.2.2.2.2.1
theorem TM.t187 {t : Tau} (h : TM t) : isT t 187 0 := h.2.2.2.2.2.2.2.2.2.2.2.2.2.2.2.2.2.2.2.2.2.2.2.2.2.2.2.2.2.2.2.2.2.1
theorem TM.l187 {t : Tau} (h : TM t) : lenOf t 187 = 320 := h.2.2.2.2.2.2.2.2.2.2.2.2.2.2.2.2.2.2.2.2.2.2.2.2.2.2.2.2.2.2.2.2.2.2.1
theorem TM.f25 {t : Tau} (h : TM t) : finOf t 175 25 = 188 := h.2.2.2.2.2.2.2.2.2.2.2.2.2.2.2.2.2.2.2.2.2.2.2.2.2.2.2.2.2.2.2.2.2.2.2.1
theorem TM.t188 {t : Tau} (h : TM t) : isT t 188 0 := h.2.2.2.2.2.2.2.2.2.2.2.2.2.2.2.2.2.2.2.2.2.2.2.2.2.2.2.2.2.2.2.2.2.2.2.2.1
theorem TM.l188 {t : Tau} (h : TM t) : lenOf t 188 = 200 := h.2.2.2.2.2.2.2.2.2.2.2.2.2.2.2.2.2.2.2.2.2.2.2.2.2.2.2.2.2.2.2.2.2.2.2.2.2.1
theorem TM.f26 {t : Tau} (h : TM t) : finOf t 175 26 = 189 := h.2.2.2.2.2.2.2.2.2.2.2.2.2.2.2.2.2.2.2.2.2.2.2.2.2.2.2.2.2.2.2.2.2.2.2.2.2.2.1
theorem TM.t189 {t : Tau} (h : TM t) : isT t 189 0 := h.2.2.2.2.2.2.2.2.2.2.2.2.2.2.2.2.2.2.2.2.2.2.2.2.2.2.2.2.2.2.2.2.2.2.2.2.2.2.2.1
theorem TM.l189 {t : Tau} (h : TM t) : lenOf t 189 = 6 := h.2.2.2.2.2.2.2.2.2.2.2.2.2.2.2.2.2.2.2.2.2.2.2.2.2.2.2.2.2.2.2.2.2.2.2.2.2.2.2.2.1
theorem TM.f27 {t : Tau} (h : TM t) : finOf t 175 27 = 190 := h.2.2.2.2.2.2.2.2.2.2.2.2.2.2.2.2.2.2.2.2.2.2.2.2.2.2.2.2.2.2.2.2.2.2.2.2.2.2.2.2.2.1
theorem TM.t190 {t : Tau} (h : TM t) : isT t 190 0 := h.2.2.2.2.2.2.2.2.2.2.2.2.2.2.2.2.2.2.2.2.2.2.2.2.2.2.2.2.2.2.2.2.2.2.2.2.2.2.2.2.2.2.1
theorem TM.l190 {t : Tau} (h : TM t) : lenOf t 190 = 50 := h.2.2.2.2.2.2.2.2.2.2.2.2.2.2.2.2.2.2.2.2.2.2.2.2.2.2.2.2.2.2.2.2.2.2.2.2.2.2.2.2.2.2.2.1
theorem TM.f28 {t : Tau} (h : TM t) : finOf t 175 28 = 191 := h.2.2.2.2.2.2.2.2.2.2.2.2.2.2.2.2.2.2.2.2.2.2.2.2.2.2.2.2.2.2.2.2.2.2.2.2.2.2.2.2.2.2.2.2.1
theorem TM.t191 {t : Tau} (h : TM t) : isT t 191 0 := h.2.2.2.2.2.2.2.2.2.2.2.2.2.2.2.2.2.2.2.2.2.2.2.2.2.2.2.2.2.2.2.2.2.2.2.2.2.2.2.2.2.2.2.2.2.1
theorem TM.l191 {t : Tau} (h : TM t) : lenOf t 191 = 12 := h.2.2.2.2.2.2.2.2.2.2.2.2.2.2.2.2.2.2.2.2.2.2.2.2.2.2.2.2.2.2.2.2.2.2.2.2.2.2.2.2.2.2.2.2.2.2.1
theorem TM.f29 {t : Tau} (h : TM t) : finOf t 175 29 = 192 := h.2.2.2.2.2.2.2.2.2.2.2.2.2.2.2.2.2.2.2.2.2.2.2.2.2.2.2.2.2.2.2.2.2.2.2.2.2.2.2.2.2.2.2.2.2.2.2.1
theorem TM.t192 {t : Tau} (h : TM t) : isT t 192 0 := h.2.2.2.2.2.2.2.2.2.2.2.2.2.2.2.2.2.2.2.2.2.2.2.2.2.2.2.2.2.2.2.2.2.2.2.2.2.2.2.2.2.2.2.2.2.2.2.2.1
theorem TM.l192 {t : Tau} (h : TM t) : lenOf t 192 = 12 := h.2.2.2.2.2.2.2.2.2.2.2.2.2.2.2.2.2.2.2.2.2.2.2.2.2.2.2.2.2.2.2.2.2.2.2.2.2.2.2.2.2.2.2.2.2.2.2.2.2.1
theorem TM.f31 {t : Tau} (h : TM t) : finOf t 175 31 = 193 := h.2.2.2.2.2.2.2.2.2.2.2.2.2.2.2.2.2.2.2.2.2.2.2.2.2.2.2.2.2.2.2.2.2.2.2.2.2.2.2.2.2.2.2.2.2.2.2.2.2.2.1
theorem TM.t193 {t : Tau} (h : TM t) : isT t 193 0 := h.2.2.2.2.2.2.2.2.2.2.2.2.2.2.2.2.2.2.2.2.2.2.2.2.2.2.2.2.2.2.2.2.2.2.2.2.2.2.2.2.2.2.2.2.2.2.2.2.2.2.2.1
theorem TM.l193 {t : Tau} (h : TM t) : lenOf t 193 = 12 := h.2.2.2.2.2.2.2.2.2.2.2.2.2.2.2.2.2.2.2.2.2.2.2.2.2.2.2.2.2.2.2.2.2.2.2.2.2.2.2.2.2.2.2.2.2.2.2.2.2.2.2.2.1
theorem TM.f32 {t : Tau} (h : TM t) : finOf t 175 32 = 194 := h.2.2.2.2.2.2.2.2.2.2.2.2.2.2.2.2.2.2.2.2.2.2.2.2.2.2.2.2.2.2.2.2.2.2.2.2.2.2.2.2.2.2.2.2.2.2.2.2.2.2.2.2.2.1
theorem TM.t194 {t : Tau} (h : TM t) : isT t 194 0 := h.2.2.2.2.2.2.2.2.2.2.2.2.2.2.2.2.2.2.2.2.2.2.2.2.2.2.2.2.2.2.2.2.2.2.2.2.2.2.2.2.2.2.2.2.2.2.2.2.2.2.2.2.2.2.1
theorem TM.l194 {t : Tau} (h : TM t) : lenOf t 194 = 12 := h.2.2.2.2.2.2.2.2.2.2.2.2.2.2.2.2.2.2.2.2.2.2.2.2.2.2.2.2.2.2.2.2.2.2.2.2.2.2.2.2.2.2.2.2.2.2.2.2.2.2.2.2.2.2.2.1
theorem TM.f35 {t : Tau} (h : TM t) : finOf t 175 35 = 195 := h.2.2.2.2.2.2.2.2.2.2.2.2.2.2.2.2.2.2.2.2.2.2.2.2.2.2.2.2.2.2.2.2.2.2.2.2.2.2.2.2.2.2.2.2.2.2.2.2.2.2.2.2.2.2.2.2.1
theorem TM.t195 {t : Tau} (h : TM t) : isT t 195 3 := h.2.2.2.2.2.2.2.2.2.2.2.2.2.2.2.2.2.2.2.2.2.2.2.2.2.2.2.2.2.2.2.2.2.2.2.2.2.2.2.2.2.2.2.2.2.2.2.2.2.2.2.2.2.2.2.2.2.1
theorem TM.l195 {t : Tau} (h : TM t) : lenOf t 195 = 961 := h.2.2.2.2.2.2.2.2.2.2.2.2.2.2.2.2.2.2.2.2.2.2.2.2.2.2.2.2.2.2.2.2.2.2.2.2.2.2.2.2.2.2.2.2.2.2.2.2.2.2.2.2.2.2.2.2.2.2.1
theorem TM.f38 {t : Tau} (h : TM t) : finOf t 175 38 = 196 := h.2.2.2.2.2.2.2.2.2.2.2.2.2.2.2.2.2.2.2.2.2.2.2.2.2.2.2.2.2.2.2.2.2.2.2.2.2.2.2.2.2.2.2.2.2.2.2.2.2.2.2.2.2.2.2.2.2.2.2.1
theorem TM.t196 {t : Tau} (h : TM t) : isT t 196 0 := h.2.2.2.2.2.2.2.2.2.2.2.2.2.2.2.2.2.2.2.2.2.2.2.2.2.2.2.2.2.2.2.2.2.2.2.2.2.2.2.2.2.2.2.2.2.2.2.2.2.2.2.2.2.2.2.2.2.2.2.2.1
theorem TM.l196 {t : Tau} (h : TM t) : lenOf t 196 = 100 := h.2.2.2.2.2.2.2.2.2.2.2.2.2.2.2.2.2.2.2.2.2.2.2.2.2.2.2.2.2.2.2.2.2.2.2.2.2.2.2.2.2.2.2.2.2.2.2.2.2.2.2.2.2.2.2.2.2.2.2.2.2.1
theorem TM.f39 {t : Tau} (h : TM t) : finOf t 175 39 = 197 := h.2.2.2.2.2.2.2.2.2.2.2.2.2.2.2.2.2.2.2.2.2.2.2.2.2.2.2.2.2.2.2.2.2.2.2.2.2.2.2.2.2.2.2.2.2.2.2.2.2.2.2.2.2.2.2.2.2.2.2.2.2.2.1
theorem TM.t197 {t : Tau} (h : TM t) : isT t 197 3 := h.2.2.2.2.2.2.2.2.2.2.2.2.2.2.2.2.2.2.2.2.2.2.2.2.2.2.2.2.2.2.2.2.2.2.2.2.2.2.2.2.2.2.2.2.2.2.2.2.2.2.2.2.2.2.2.2.2.2.2.2.2.2.2.1
theorem TM.l197 {t : Tau} (h : TM t) : lenOf t 197 = 2 := h.2.2.2.2.2.2.2.2.2.2.2.2.2.2.2.2.2.2.2.2.2.2.2.2.2.2.2.2.2.2.2.2.2.2.2.2.2.2.2.2.2.2.2.2.2.2.2.2.2.2.2.2.2.2.2.2.2.2.2.2.2.2.2.2.1
theorem TM.f40 {t : Tau} (h : TM t) : finOf t 175 40 = 198 := h.2.2.2.2.2.2.2.2.2.2.2.2.2.2.2.2.2.2.2.2.2.2.2.2.2.2.2.2.2.2.2.2.2.2.2.2.2.2.2.2.2.2.2.2.2.2.2.2.2.2.2.2.2.2.2.2.2.2.2.2.2.2.2.2.2.1
theorem TM.t198 {t : Tau} (h : TM t) : isT t 198 0 := h.2.2.2.2.2.2.2.2.2.2.2.2.2.2.2.2.2.2.2.2.2.2.2.2.2.2.2.2.2.2.2.2.2.2.2.2.2.2.2.2.2.2.2.2.2.2.2.2.2.2.2.2.2.2.2.2.2.2.2.2.2.2.2.2.2.2.1
theorem TM.l198 {t : Tau} (h : TM t) : lenOf t 198 = 2 := h.2.2.2.2.2.2.2.2.2.2.2.2.2.2.2.2.2.2.2.2.2.2.2.2.2.2.2.2.2.2.2.2.2.2.2.2.2.2.2.2.2.2.2.2.2.2.2.2.2.2.2.2.2.2.2.2.2.2.2.2.2.2.2.2.2.2.2
def aRR (as : List TV) (f : Int → Int → Prop) : Prop := match as with
  | [.inr (.inr a), .inr (.inr b)] => f a b
  | _ => False
theorem aRR_e {as : List TV} {f : Int → Int → Prop} (h : aRR as f) : ∃ a b, as = [vR a, vR b] ∧ f a b := by
  unfold aRR at h
  split at h
  · exact ⟨_, _, rfl, h⟩
  · exact h.elim
theorem aRR_c {a b : Int} {f : Int → Int → Prop} : aRR [.inr (.inr a), .inr (.inr b)] f = f a b := propext Iff.rfl
def aRRI (as : List TV) (f : Int → Int → Int → Prop) : Prop := match as with
  | [.inr (.inr a), .inr (.inr b), .inl c] => f a b c
  | _ => False
theorem aRRI_e {as : List TV} {f : Int → Int → Int → Prop} (h : aRRI as f) : ∃ a b c, as = [vR a, vR b, vI c] ∧ f a b c := by
  unfold aRRI at h
  split at h
  · exact ⟨_, _, _, rfl, h⟩
  · exact h.elim
theorem aRRI_c {a b c : Int} {f : Int → Int → Int → Prop} : aRRI [.inr (.inr a), .inr (.inr b), .inl c] f = f a b c := propext Iff.rfl
def aRRII (as : List TV) (f : Int → Int → Int → Int → Prop) : Prop := match as with
  | [.inr (.inr a), .inr (.inr b), .inl c, .inl d] => f a b c d
  | _ => False
theorem aRRII_e {as : List TV} {f : Int → Int → Int → Int → Prop} (h : aRRII as f) : ∃ a b c d, as = [vR a, vR b, vI c, vI d] ∧ f a b c d := by
  unfold aRRII at h
  split at h
  · exact ⟨_, _, _, _, rfl, h⟩
  · exact h.elim
theorem aRRII_c {a b c d : Int} {f : Int → Int → Int → Int → Prop} : aRRII [.inr (.inr a), .inr (.inr b), .inl c, .inl d] f = f a b c d := propext Iff.rfl
def aRRIII (as : List TV) (f : Int → Int → Int → Int → Int → Prop) : Prop := match as with
  | [.inr (.inr a), .inr (.inr b), .inl c, .inl d, .inl e] => f a b c d e
  | _ => False
theorem aRRIII_e {as : List TV} {f : Int → Int → Int → Int → Int → Prop} (h : aRRIII as f) : ∃ a b c d e, as = [vR a, vR b, vI c, vI d, vI e] ∧ f a b c d e := by
  unfold aRRIII at h
  split at h
  · exact ⟨_, _, _, _, _, rfl, h⟩
  · exact h.elim
theorem aRRIII_c {a b c d e : Int} {f : Int → Int → Int → Int → Int → Prop} : aRRIII [.inr (.inr a), .inr (.inr b), .inl c, .inl d, .inl e] f = f a b c d e := propext Iff.rfl
def aRIIII (as : List TV) (f : Int → Int → Int → Int → Int → Prop) : Prop := match as with
  | [.inr (.inr a), .inl b, .inl c, .inl d, .inl e] => f a b c d e
  | _ => False
theorem aRIIII_e {as : List TV} {f : Int → Int → Int → Int → Int → Prop} (h : aRIIII as f) : ∃ a b c d e, as = [vR a, vI b, vI c, vI d, vI e] ∧ f a b c d e := by
  unfold aRIIII at h
  split at h
  · exact ⟨_, _, _, _, _, rfl, h⟩
  · exact h.elim
theorem aRIIII_c {a b c d e : Int} {f : Int → Int → Int → Int → Int → Prop} : aRIIII [.inr (.inr a), .inl b, .inl c, .inl d, .inl e] f = f a b c d e := propext Iff.rfl
def aRL (as : List TV) (f : Int → Int → Prop) : Prop := match as with
  | [.inr (.inr a), .inr (.inl b)] => f a b
  | _ => False
theorem aRL_e {as : List TV} {f : Int → Int → Prop} (h : aRL as f) : ∃ a b, as = [vR a, vL b] ∧ f a b := by
  unfold aRL at h
  split at h
  · exact ⟨_, _, rfl, h⟩
  · exact h.elim
theorem aRL_c {a b : Int} {f : Int → Int → Prop} : aRL [.inr (.inr a), .inr (.inl b)] f = f a b := propext Iff.rfl
def aRLL (as : List TV) (f : Int → Int → Int → Prop) : Prop := match as with
  | [.inr (.inr a), .inr (.inl b), .inr (.inl c)] => f a b c
  | _ => False
theorem aRLL_e {as : List TV} {f : Int → Int → Int → Prop} (h : aRLL as f) : ∃ a b c, as = [vR a, vL b, vL c] ∧ f a b c := by
  unfold aRLL at h
  split at h
  · exact ⟨_, _, _, rfl, h⟩
  · exact h.elim
theorem aRLL_c {a b c : Int} {f : Int → Int → Int → Prop} : aRLL [.inr (.inr a), .inr (.inl b), .inr (.inl c)] f = f a b c := propext Iff.rfl
def aLL (as : List TV) (f : Int → Int → Prop) : Prop := match as with
  | [.inr (.inl a), .inr (.inl b)] => f a b
  | _ => False
theorem aLL_e {as : List TV} {f : Int → Int → Prop} (h : aLL as f) : ∃ a b, as = [vL a, vL b] ∧ f a b := by
  unfold aLL at h
  split at h
  · exact ⟨_, _, rfl, h⟩
  · exact h.elim
theorem aLL_c {a b : Int} {f : Int → Int → Prop} : aLL [.inr (.inl a), .inr (.inl b)] f = f a b := propext Iff.rfl
def aRRRI (as : List TV) (f : Int → Int → Int → Int → Prop) : Prop := match as with
  | [.inr (.inr a), .inr (.inr b), .inr (.inr c), .inl d] => f a b c d
  | _ => False
theorem aRRRI_e {as : List TV} {f : Int → Int → Int → Int → Prop} (h : aRRRI as f) : ∃ a b c d, as = [vR a, vR b, vR c, vI d] ∧ f a b c d := by
  unfold aRRRI at h
  split at h
  · exact ⟨_, _, _, _, rfl, h⟩
  · exact h.elim
theorem aRRRI_c {a b c d : Int} {f : Int → Int → Int → Int → Prop} : aRRRI [.inr (.inr a), .inr (.inr b), .inr (.inr c), .inl d] f = f a b c d := propext Iff.rfl
def aIL (as : List TV) (f : Int → Int → Prop) : Prop := match as with
  | [.inl a, .inr (.inl b)] => f a b
  | _ => False
theorem aIL_e {as : List TV} {f : Int → Int → Prop} (h : aIL as f) : ∃ a b, as = [vI a, vL b] ∧ f a b := by
  unfold aIL at h
  split at h
  · exact ⟨_, _, rfl, h⟩
  · exact h.elim
theorem aIL_c {a b : Int} {f : Int → Int → Prop} : aIL [.inl a, .inr (.inl b)] f = f a b := propext Iff.rfl
def aIIII (as : List TV) (f : Int → Int → Int → Int → Prop) : Prop := match as with
  | [.inl a, .inl b, .inl c, .inl d] => f a b c d
  | _ => False
theorem aIIII_e {as : List TV} {f : Int → Int → Int → Int → Prop} (h : aIIII as f) : ∃ a b c d, as = [vI a, vI b, vI c, vI d] ∧ f a b c d := by
  unfold aIIII at h
  split at h
  · exact ⟨_, _, _, _, rfl, h⟩
  · exact h.elim
theorem aIIII_c {a b c d : Int} {f : Int → Int → Int → Int → Prop} : aIIII [.inl a, .inl b, .inl c, .inl d] f = f a b c d := propext Iff.rfl
def aRRIIII (as : List TV) (f : Int → Int → Int → Int → Int → Int → Prop) : Prop := match as with
  | [.inr (.inr a), .inr (.inr b), .inl c, .inl d, .inl e, .inl p] => f a b c d e p
  | _ => False
theorem aRRIIII_e {as : List TV} {f : Int → Int → Int → Int → Int → Int → Prop} (h : aRRIIII as f) : ∃ a b c d e p, as = [vR a, vR b, vI c, vI d, vI e, vI p] ∧ f a b c d e p := by
  unfold aRRIIII at h
  split at h
  · exact ⟨_, _, _, _, _, _, rfl, h⟩
  · exact h.elim
theorem aRRIIII_c {a b c d e p : Int} {f : Int → Int → Int → Int → Int → Int → Prop} : aRRIIII [.inr (.inr a), .inr (.inr b), .inl c, .inl d, .inl e, .inl p] f = f a b c d e p := propext Iff.rfl
def aIRII (as : List TV) (f : Int → Int → Int → Int → Prop) : Prop := match as with
  | [.inl a, .inr (.inr b), .inl c, .inl d] => f a b c d
  | _ => False
theorem aIRII_e {as : List TV} {f : Int → Int → Int → Int → Prop} (h : aIRII as f) : ∃ a b c d, as = [vI a, vR b, vI c, vI d] ∧ f a b c d := by
  unfold aIRII at h
  split at h
  · exact ⟨_, _, _, _, rfl, h⟩
  · exact h.elim
theorem aIRII_c {a b c d : Int} {f : Int → Int → Int → Int → Prop} : aIRII [.inl a, .inr (.inr b), .inl c, .inl d] f = f a b c d := propext Iff.rfl
def aIR (as : List TV) (f : Int → Int → Prop) : Prop := match as with
  | [.inl a, .inr (.inr b)] => f a b
  | _ => False
theorem aIR_e {as : List TV} {f : Int → Int → Prop} (h : aIR as f) : ∃ a b, as = [vI a, vR b] ∧ f a b := by
  unfold aIR at h
  split at h
  · exact ⟨_, _, rfl, h⟩
  · exact h.elim
theorem aIR_c {a b : Int} {f : Int → Int → Prop} : aIR [.inl a, .inr (.inr b)] f = f a b := propext Iff.rfl
def aLI (as : List TV) (f : Int → Int → Prop) : Prop := match as with
  | [.inr (.inl a), .inl b] => f a b
  | _ => False
theorem aLI_e {as : List TV} {f : Int → Int → Prop} (h : aLI as f) : ∃ a b, as = [vL a, vI b] ∧ f a b := by
  unfold aLI at h
  split at h
  · exact ⟨_, _, rfl, h⟩
  · exact h.elim
theorem aLI_c {a b : Int} {f : Int → Int → Prop} : aLI [.inr (.inl a), .inl b] f = f a b := propext Iff.rfl
def aRIR (as : List TV) (f : Int → Int → Int → Prop) : Prop := match as with
  | [.inr (.inr a), .inl b, .inr (.inr c)] => f a b c
  | _ => False
theorem aRIR_e {as : List TV} {f : Int → Int → Int → Prop} (h : aRIR as f) : ∃ a b c, as = [vR a, vI b, vR c] ∧ f a b c := by
  unfold aRIR at h
  split at h
  · exact ⟨_, _, _, rfl, h⟩
  · exact h.elim
theorem aRIR_c {a b c : Int} {f : Int → Int → Int → Prop} : aRIR [.inr (.inr a), .inl b, .inr (.inr c)] f = f a b c := propext Iff.rfl
def aRIIR (as : List TV) (f : Int → Int → Int → Int → Prop) : Prop := match as with
  | [.inr (.inr a), .inl b, .inl c, .inr (.inr d)] => f a b c d
  | _ => False
theorem aRIIR_e {as : List TV} {f : Int → Int → Int → Int → Prop} (h : aRIIR as f) : ∃ a b c d, as = [vR a, vI b, vI c, vR d] ∧ f a b c d := by
  unfold aRIIR at h
  split at h
  · exact ⟨_, _, _, _, rfl, h⟩
  · exact h.elim
theorem aRIIR_c {a b c d : Int} {f : Int → Int → Int → Int → Prop} : aRIIR [.inr (.inr a), .inl b, .inl c, .inr (.inr d)] f = f a b c d := propext Iff.rfl
