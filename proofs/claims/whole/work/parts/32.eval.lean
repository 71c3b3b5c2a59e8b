/-! laws: their code, worked out -/
theorem lCmp_le {a b : Int} : (lCmp a b ≤ 0) = (a ≤ b) := by
  unfold lCmp
  apply propext
  split <;> (try split) <;> omega
theorem lCmp_ge {a b : Int} : (0 ≤ lCmp a b) = (b ≤ a) := by
  unfold lCmp
  apply propext
  split <;> (try split) <;> omega
theorem lCmp_lt {a b : Int} : (lCmp a b < 0) = (a < b) := by
  unfold lCmp
  apply propext
  split <;> (try split) <;> omega
theorem lCmp_gt {a b : Int} : (0 < lCmp a b) = (b < a) := by
  unfold lCmp
  apply propext
  split <;> (try split) <;> omega
theorem lCmp_eq {a b : Int} : (lCmp a b = 0) = (a = b) := by
  unfold lCmp
  apply propext
  split <;> (try split) <;> omega
theorem mul_R {x y : Int} (hx : -1000000 ≤ x ∧ x ≤ 1000000) (hy : -1000000 ≤ y ∧ y ≤ 1000000) : -1000000000000 ≤ x * y ∧ x * y ≤ 1000000000000 := by
  have h : (x * y).natAbs ≤ 1000000 * 1000000 := by
    rw [Int.natAbs_mul]
    exact Nat.mul_le_mul (by omega) (by omega)
  omega
theorem tdiv_R {x : Int} (y : Int) (hx : -1000000 ≤ x ∧ x ≤ 1000000) : -1000000 ≤ Int.tdiv x y ∧ Int.tdiv x y ≤ 1000000 := by
  have h : (Int.tdiv x y).natAbs ≤ 1000000 := by
    rw [Int.natAbs_tdiv]
    exact Nat.le_trans (Nat.div_le_self _ _) (by omega)
  omega
def bnd (v : Int) : Int := if 1000000 < v then 1000000 else if v < -1000000 then -1000000 else v
/-- what an order of two does -/
def wk (o x y : Int) : Int := if o = 43 then bnd (x + y) else if o = 45 then bnd (x - y) else if o = 42 then bnd (x * y) else if o = 47 then (if y = 0 then 0 else Int.tdiv x y) else if o = 37 then (if y = 0 then 0 else Int.tmod x y) else if o = 60 then b2i (x < y) else if o = 62 then b2i (y < x) else if o = 61 then b2i (x = y) else if o = 35 then b2i (x ≠ y) else if o = 300 then b2i (x ≤ y) else if o = 301 then b2i (y ≤ x) else if o = 406 then x * y else b2i (0 < x + y)
def pst (nm : Int → Int) (q : Int × Int) (st : List Int) : List Int := if q.1 = 400 then q.2 :: st else if q.1 = 401 then nm q.2 :: st else match st with
  | [] => []
  | x :: r => if q.1 = 402 then -x :: r else if q.1 = 405 then (1 - x) :: r else match r with
    | [] => []
    | y :: r2 => wk q.1 y x :: r2
def pev (nm : Int → Int) : List (Int × Int) → List Int → List Int
  | [], st => st
  | q :: L, st => pev nm L (pst nm q st)
def evL (nm : Int → Int) (L : List (Int × Int)) : Int := (pev nm L []).headD 0
/-- the class's number of an order, and of a name -/
def oTk (o : Int) : Int := if o = 402 then 45 else if o = 405 then 14 else if o = 406 then 13 else if o = 407 then 12 else if o = 43 then 34 else if o = 45 then 35 else if o = 42 then 36 else if o = 47 then 37 else if o = 37 then 38 else if o = 60 then 28 else if o = 300 then 29 else if o = 62 then 30 else if o = 301 then 31 else if o = 61 then 32 else 33
def nTk (n : Int) : Int := if n = 0 then 8 else if n = 1 then 5 else n + 13
def enc (q : Int × Int) : Int := if q.1 = 400 then q.2 else if q.1 = 401 then 10000 + nTk q.2 else 20000 + oTk q.1
def isAr (o : Int) : Prop := o = 43 ∨ o = 45 ∨ o = 42 ∨ o = 47 ∨ o = 37
def isCm (o : Int) : Prop := o = 60 ∨ o = 62 ∨ o = 61 ∨ o = 35 ∨ o = 300 ∨ o = 301
theorem c_joinedA {d : Nat} {M : mM} {K : mQ} {o x y : Int} (ho : isAr o) (hx : -1000000 ≤ x ∧ x ≤ 1000000) (hy : -1000000 ≤ y ∧ y ≤ 1000000) : mCall (d + 1) 78 [vi (oTk o), vi x, vi y] M K = K (some (vi (wk o x y))) M := by
  have hm := mul_R hx hy
  have hd := tdiv_R y hx
  have hr := tmod_R (y := y) (lo := -1000000) (hi := 1000000) (by decide) (by decide) hx.1 hx.2
  rcases ho with rfl | rfl | rfl | rfl | rfl
  all_goals simp only [oTk, wk, Int.reduceEq, if_true, if_false, bnd]
  all_goals repeat' first | (simp (disch := first | decide | omega) only [b78, w78_0, w78_1, w78_124, w78_125, w78_126, w78_127, w78_128, w78_129, w78_130, w78_131, w78_132, w78_133, w78_134, w78_137, w78_138, w78_141, w78_142, w78_143, w78_144, w78_145, w78_148, w78_149, w78_152, w78_153, w78_154, w78_155, w78_156, w78_159, w78_160, w78_163, w78_164, w78_165, w78_166, w78_167, w78_170, w78_171, w78_174, w78_175, w78_176, w78_177, w78_178, w78_181, w78_182, w78_185, w78_186, w78_187, w78_188, w78_189, w78_192, w78_193, w78_196, w78_197, w78_198, w78_199, w78_202, w78_203, w78_206, w78_207, w78_208, w78_209, w78_210, w78_211, w78_214, w78_215, w78_218, w78_219, w78_220, w78_221, w78_222, w78_223, w78_224, w78_225, w78_226, w78_227, w78_228, w78_231, w78_232, w78_233, w78_234, w78_235, w78_236, w78_237, w78_240, w78_241, w78_242, w78_243, w78_244, w78_245, w78_246, w78_247, w78_250, w78_251, w78_254, w78_256, w78_257, w78_258, w78_261, w78_262, w78_265, w78_267, w78_270, w78_271, w78_272, xLoad_i, xLoad_l, xLoad_r, xInc_s, xBr_t, xBr_f, xNz_s, xGf_s, xPf_s, xPz_s, xLd_2, xLd_7, xLd_10, xLdb_3, xLdb_5, xLdb_9, xLdl_4, xLdr_6, xSt_2, xStl_4, xStb_3, xStb_5, xLen_s, xLen_10, xCpy_s, xIv_s, xMx_s, mCont_s, mCont_n, w32_s, w64_s, upC_e, upC_n, upC_u, upC_c, mEn_c, mEn_n, mcw_i, mcw_l, mcw_r, mcat_n, mcat_i, mcat_l, mcat_r, xlong_i, xlong_l, xlong_r, xlong_n, s1_at, s2_at, ↓reduceIte, reduceCtorEq, and_self, true_and, and_true, false_and, and_false, Bool.false_eq_true, ne_eq, not_true_eq_false, not_false_eq_true, or_true, true_or, or_false, false_or, or_self, Int.tmod_eq_emod_of_nonneg, Int.tdiv_eq_ediv_of_nonneg, Classical.not_not, xSw, rOK, b2i_ok, b2i_0, b2i_1, Nat.reduceAdd, Nat.reduceSub, Nat.reduceMul, Nat.reduceEqDiff, Nat.reduceLeDiff, Nat.reduceLT, Int.reduceAdd, Int.reduceSub, Int.reduceMul, Int.reduceNeg, Int.reduceEq, Int.reduceNe, Int.reduceLT, Int.reduceLE, Int.reduceToNat, Int.reduceTDiv, Int.reduceTMod, swT, List.getD_cons_zero, List.getD_cons_succ, List.getD_nil, lCmp_le, lCmp_ge, lCmp_lt, lCmp_gt]) | refine xBr_en (fun _ => ?_) (fun _ => ?_) | refine xBr_e (fun _ => ?_) (fun _ => ?_)
  all_goals (repeat' first | rw [if_pos (by omega)] | rw [if_neg (by omega)])
theorem c_joinedC {d : Nat} {M : mM} {K : mQ} {o x y : Int} (ho : isCm o) : mCall (d + 1) 78 [vi (oTk o), vi x, vi y] M K = K (some (vi (wk o x y))) M := by
  rcases ho with rfl | rfl | rfl | rfl | rfl | rfl
  all_goals simp only [oTk, wk, Int.reduceEq, if_true, if_false]
  all_goals repeat' first | (simp (disch := first | decide | omega) only [b78, w78_0, w78_1, w78_124, w78_125, w78_126, w78_127, w78_128, w78_129, w78_130, w78_131, w78_132, w78_133, w78_134, w78_137, w78_138, w78_141, w78_142, w78_143, w78_144, w78_145, w78_148, w78_149, w78_152, w78_153, w78_154, w78_155, w78_156, w78_159, w78_160, w78_163, w78_164, w78_165, w78_166, w78_167, w78_170, w78_171, w78_174, w78_175, w78_176, w78_177, w78_178, w78_181, w78_182, w78_185, w78_186, w78_187, w78_188, w78_189, w78_192, w78_193, w78_196, w78_197, w78_198, w78_199, w78_202, w78_203, w78_206, w78_207, w78_208, w78_209, w78_210, w78_211, w78_214, w78_215, w78_218, w78_219, w78_220, w78_221, w78_222, w78_223, w78_224, w78_225, w78_226, w78_227, w78_228, w78_231, w78_232, w78_233, w78_234, w78_235, w78_236, w78_237, w78_240, w78_241, w78_242, w78_243, w78_244, w78_245, w78_246, w78_247, w78_250, w78_251, w78_254, w78_256, w78_257, w78_258, w78_261, w78_262, w78_265, w78_267, w78_270, w78_271, w78_272, xLoad_i, xLoad_l, xLoad_r, xInc_s, xBr_t, xBr_f, xNz_s, xGf_s, xPf_s, xPz_s, xLd_2, xLd_7, xLd_10, xLdb_3, xLdb_5, xLdb_9, xLdl_4, xLdr_6, xSt_2, xStl_4, xStb_3, xStb_5, xLen_s, xLen_10, xCpy_s, xIv_s, xMx_s, mCont_s, mCont_n, w32_s, w64_s, upC_e, upC_n, upC_u, upC_c, mEn_c, mEn_n, mcw_i, mcw_l, mcw_r, mcat_n, mcat_i, mcat_l, mcat_r, xlong_i, xlong_l, xlong_r, xlong_n, s1_at, s2_at, ↓reduceIte, reduceCtorEq, and_self, true_and, and_true, false_and, and_false, Bool.false_eq_true, ne_eq, not_true_eq_false, not_false_eq_true, or_true, true_or, or_false, false_or, or_self, Int.tmod_eq_emod_of_nonneg, Int.tdiv_eq_ediv_of_nonneg, Classical.not_not, xSw, rOK, b2i_ok, b2i_0, b2i_1, Nat.reduceAdd, Nat.reduceSub, Nat.reduceMul, Nat.reduceEqDiff, Nat.reduceLeDiff, Nat.reduceLT, Int.reduceAdd, Int.reduceSub, Int.reduceMul, Int.reduceNeg, Int.reduceEq, Int.reduceNe, Int.reduceLT, Int.reduceLE, Int.reduceToNat, Int.reduceTDiv, Int.reduceTMod, swT, List.getD_cons_zero, List.getD_cons_succ, List.getD_nil]) | refine xBr_en (fun _ => ?_) (fun _ => ?_) | refine xBr_e (fun _ => ?_) (fun _ => ?_)
  all_goals first | rw [b2i_t (by omega)] | rw [b2i_f (by omega)]
theorem c_joinedB {d : Nat} {M : mM} {K : mQ} {o x y : Int} (ho : o = 406 ∨ o = 407) (hx : x = 0 ∨ x = 1) (hy : y = 0 ∨ y = 1) : mCall (d + 1) 78 [vi (oTk o), vi x, vi y] M K = K (some (vi (wk o x y))) M := by
  rcases ho with rfl | rfl <;> rcases hx with rfl | rfl <;> rcases hy with rfl | rfl
  all_goals simp only [oTk, wk, Int.reduceEq, if_true, if_false]
  all_goals repeat' first | (simp (disch := first | decide | omega) only [b78, w78_0, w78_1, w78_124, w78_125, w78_126, w78_127, w78_128, w78_129, w78_130, w78_131, w78_132, w78_133, w78_134, w78_137, w78_138, w78_141, w78_142, w78_143, w78_144, w78_145, w78_148, w78_149, w78_152, w78_153, w78_154, w78_155, w78_156, w78_159, w78_160, w78_163, w78_164, w78_165, w78_166, w78_167, w78_170, w78_171, w78_174, w78_175, w78_176, w78_177, w78_178, w78_181, w78_182, w78_185, w78_186, w78_187, w78_188, w78_189, w78_192, w78_193, w78_196, w78_197, w78_198, w78_199, w78_202, w78_203, w78_206, w78_207, w78_208, w78_209, w78_210, w78_211, w78_214, w78_215, w78_218, w78_219, w78_220, w78_221, w78_222, w78_223, w78_224, w78_225, w78_226, w78_227, w78_228, w78_231, w78_232, w78_233, w78_234, w78_235, w78_236, w78_237, w78_240, w78_241, w78_242, w78_243, w78_244, w78_245, w78_246, w78_247, w78_250, w78_251, w78_254, w78_256, w78_257, w78_258, w78_261, w78_262, w78_265, w78_267, w78_270, w78_271, w78_272, xLoad_i, xLoad_l, xLoad_r, xInc_s, xBr_t, xBr_f, xNz_s, xGf_s, xPf_s, xPz_s, xLd_2, xLd_7, xLd_10, xLdb_3, xLdb_5, xLdb_9, xLdl_4, xLdr_6, xSt_2, xStl_4, xStb_3, xStb_5, xLen_s, xLen_10, xCpy_s, xIv_s, xMx_s, mCont_s, mCont_n, w32_s, w64_s, upC_e, upC_n, upC_u, upC_c, mEn_c, mEn_n, mcw_i, mcw_l, mcw_r, mcat_n, mcat_i, mcat_l, mcat_r, xlong_i, xlong_l, xlong_r, xlong_n, s1_at, s2_at, ↓reduceIte, reduceCtorEq, and_self, true_and, and_true, false_and, and_false, Bool.false_eq_true, ne_eq, not_true_eq_false, not_false_eq_true, or_true, true_or, or_false, false_or, or_self, Int.tmod_eq_emod_of_nonneg, Int.tdiv_eq_ediv_of_nonneg, Classical.not_not, xSw, rOK, b2i_ok, b2i_0, b2i_1, Nat.reduceAdd, Nat.reduceSub, Nat.reduceMul, Nat.reduceEqDiff, Nat.reduceLeDiff, Nat.reduceLT, Int.reduceAdd, Int.reduceSub, Int.reduceMul, Int.reduceNeg, Int.reduceEq, Int.reduceNe, Int.reduceLT, Int.reduceLE, Int.reduceToNat, Int.reduceTDiv, Int.reduceTMod, swT, List.getD_cons_zero, List.getD_cons_succ, List.getD_nil]) | refine xBr_en (fun _ => ?_) (fun _ => ?_) | refine xBr_e (fun _ => ?_) (fun _ => ?_)
  all_goals rfl
/-- a stack as an array holds it -/
def aSt (f : Int → Int) : List Int → Prop
  | [] => True
  | x :: r => f r.length = x ∧ aSt f r
theorem aSt_u {f : Int → Int} {v : Int} {n : Int} : ∀ {st : List Int}, (st.length : Int) ≤ n → (aSt (mU f n v) st ↔ aSt f st)
  | [], _ => Iff.rfl
  | x :: r, h => by
    have hl : (((x :: r).length : Nat) : Int) = r.length + 1 := by rw [List.length_cons]; omega
    unfold aSt
    rw [mU_n (by omega), aSt_u (by omega)]
/-- the code of a law in the class's array -/
def cod (f : Int → Int) : Int → List (Int × Int) → Prop
  | _, [] => True
  | i, q :: L => f i = enc q ∧ cod f (i + 1) L
/-- kinds of what stands on the stack: true for an answer of an ask -/
def tyc (t : List Bool) (q : Int × Int) : Option (List Bool) := if q.1 = 400 ∨ q.1 = 401 then some (false :: t) else if q.1 = 402 then (match t with
    | false :: r => some (false :: r)
    | _ => none) else if q.1 = 405 then (match t with
    | true :: r => some (true :: r)
    | _ => none) else if q.1 = 43 ∨ q.1 = 45 ∨ q.1 = 42 ∨ q.1 = 47 ∨ q.1 = 37 then (match t with
    | false :: false :: r => some (false :: r)
    | _ => none) else if q.1 = 60 ∨ q.1 = 62 ∨ q.1 = 61 ∨ q.1 = 35 ∨ q.1 = 300 ∨ q.1 = 301 then (match t with
    | false :: false :: r => some (true :: r)
    | _ => none) else if q.1 = 406 ∨ q.1 = 407 then (match t with
    | true :: true :: r => some (true :: r)
    | _ => none) else none
def vok (x : Int) (b : Bool) : Prop := (b = true → x = 0 ∨ x = 1) ∧ (-1000000 ≤ x ∧ x ≤ 1000000)
def vty : List Int → List Bool → Prop
  | [], [] => True
  | x :: r, b :: t => vok x b ∧ vty r t
  | _, _ => False
/-- which names may stand in a law -/
def okN (w n : Int) : Prop := 0 ≤ n ∧ n ≤ 14 ∧ (n < 2 ∨ (w = 0 ∧ n < 8) ∨ (w = 1 ∧ 8 ≤ n ∧ n ≤ 11) ∨ (w = 2 ∧ n < 6) ∨ (w = 3 ∧ (n < 8 ∨ 11 < n)))
def okI (w : Int) (q : Int × Int) : Prop := (q.1 = 400 → 0 ≤ q.2 ∧ q.2 ≤ 9999) ∧ (q.1 = 401 → okN w q.2)
def wfc (w : Int) : List (Int × Int) → List Bool → List Bool → Prop
  | [], t, t2 => t = t2
  | q :: L, t, t2 => okI w q ∧ ∃ t1, tyc t q = some t1 ∧ t1.length ≤ 60 ∧ wfc w L t1 t2
theorem vty_len : ∀ {st : List Int} {t : List Bool}, vty st t → st.length = t.length
  | [], [], _ => rfl
  | _ :: r, _ :: t, h => by rw [List.length_cons, List.length_cons, vty_len h.2]
  | [], _ :: _, h => h.elim
  | _ :: _, [], h => h.elim
