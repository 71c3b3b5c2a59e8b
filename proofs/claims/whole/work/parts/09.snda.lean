/-! soundness: what the small machine comes to, the Java machine comes to -/
def wStr (G : mG) (A : Nat → Prop) (U : State) (M : mM) (k kv n : Nat) : Prop := va_O "java/lang/String" (G.2.2.1 k) A U U.heap ∧ va_OF "java/lang/String" "coder" "B" (.int 0) (G.2.2.1 k) A U U.heap ∧ va_OF "java/lang/String" "value" "[B" (.ref (G.2.2.1 kv)) (G.2.2.1 k) A U U.heap ∧ va_T .byte (G.2.2.1 kv) n (fun i => .int (Int32.ofInt (M kv i))) A U U.heap ∧ M k 1 = 0
def wSt (G : mG) (A : Nat → Prop) (U : State) (M : mM) : Prop := (∀ q, q < 5 → va_T .int (G.2.2.1 (142 + q)) 6 (fun i => .int (Int32.ofInt (M (142 + q) i))) A U U.heap) ∧ (∀ q, q < 5 → va_Z (sNa q).1 (sNa q).2.1 (sNa q).2.2 (.ref (G.2.2.1 (142 + q))) A U U.heap) ∧ va_Z (sNa 5).1 (sNa 5).2.1 (sNa 5).2.2 (.int 1) A U U.heap ∧ va_Z (sNa 6).1 (sNa 6).2.1 (sNa 6).2.2 (va_rf G.2.2.2.1) A U U.heap ∧ wStr G A U M 147 148 168 ∧ wStr G A U M 149 150 14 ∧ (∃ tx, vk_R (clsS 9) 43 tx (G.2.2.1 147) U) ∧ (∃ tx, vk_R (clsS 9) 60 tx (G.2.2.1 149) U) ∧ (0 ≤ M 152 (-1) ∧ va_X (G.2.2.1 152) (M 152 (-1)).toNat (fun i => Int32.ofInt (M 152 i)) U U.heap ∧ G.2.2.1 152 < U.heap.size ∧ ¬ A (G.2.2.1 152)) ∧ (∀ (a : String) (i : Nat) (x : MethodName) (h : String), Cond.methodLinkNest a i x h ∈ lw_tbl → va_Nw (.methodLinkNest a i x h) U)
theorem wStr_mk {G : mG} {A : Nat → Prop} {s t : State} {M : mM} {k kv n : Nat} (hv : s.vm.Alike t.vm) (hh : ∀ a : Nat, a < s.heap.size → ¬ A a → t.heap[a]? = s.heap[a]?) (h : wStr G A s M k kv n) : wStr G A t M k kv n :=
  ⟨(h.1.moved hv).kept hh, (h.2.1.moved hv).kept hh, (h.2.2.1.moved hv).kept hh, (h.2.2.2.1.moved hv).kept hh, h.2.2.2.2⟩
theorem wSt_mk {G : mG} {A : Nat → Prop} {s t : State} {M : mM} (hv : s.vm.Alike t.vm) (hz : s.heap.size ≤ t.heap.size) (hh : ∀ a : Nat, a < s.heap.size → ¬ A a → t.heap[a]? = s.heap[a]?) (hr : ∀ (own : String) (k : Nat) (tx : String) (a : Nat), vk_R own k tx a s → vk_R own k tx a t) (hn : ∀ (a : String) (i : Nat) (x : MethodName) (h : String), va_Nw (.methodLinkNest a i x h) s → va_Nw (.methodLinkNest a i x h) t) (h : wSt G A s M) : wSt G A t M := by
  obtain ⟨h1, h2, h3, h4, h5, h6, ⟨x7, h7⟩, ⟨x8, h8⟩, ⟨h9, h10, h11, h12⟩, h13⟩ := h
  exact ⟨fun q hq => ((h1 q hq).moved hv).kept hh, fun q hq => ((h2 q hq).moved hv).kept hh, (h3.moved hv).kept hh, (h4.moved hv).kept hh, wStr_mk hv hh h5, wStr_mk hv hh h6, ⟨x7, hr _ _ _ _ h7⟩, ⟨x8, hr _ _ _ _ h8⟩, ⟨h9, (h10.moved hv).kept (hh _ h11 h12), Nat.lt_of_lt_of_le h11 hz, h12⟩, fun a i x h hw => hn _ _ _ _ (h13 a i x h hw)⟩
theorem wSt_cong {G : mG} {A : Nat → Prop} {U : State} {M M' : mM} (e : ∀ k, 142 ≤ k → M' k = M k) (h : wSt G A U M) : wSt G A U M' := by
  obtain ⟨h1, h2, h3, h4, h5, h6, h7, h8, h9, h13⟩ := h
  refine ⟨fun q hq => ?_, h2, h3, h4, ?_, ?_, h7, h8, ?_, h13⟩
  · rw [e (142 + q) (by omega)]; exact h1 q hq
  · unfold wStr; rw [e 147 (by omega), e 148 (by omega)]; exact h5
  · unfold wStr; rw [e 149 (by omega), e 150 (by omega)]; exact h6
  · rw [e 152 (by omega)]; exact h9
theorem wSt_narrow {G : mG} {A B : Nat → Prop} {U : State} {M : mM} (hAB : ∀ q, B q → A q) (h : wSt G A U M) : wSt G B U M := by
  obtain ⟨h1, h2, h3, h4, h5, h6, h7, h8, ⟨h9, h10, h11, h12⟩, h13⟩ := h
  exact ⟨fun q hq => (h1 q hq).narrow hAB, fun q hq => (h2 q hq).narrow hAB, h3.narrow hAB, h4.narrow hAB, ⟨h5.1.narrow hAB, h5.2.1.narrow hAB, h5.2.2.1.narrow hAB, h5.2.2.2.1.narrow hAB, h5.2.2.2.2⟩, ⟨h6.1.narrow hAB, h6.2.1.narrow hAB, h6.2.2.1.narrow hAB, h6.2.2.2.1.narrow hAB, h6.2.2.2.2⟩, h7, h8, ⟨h9, h10, h11, fun q => h12 (hAB _ q)⟩, h13⟩
def wld (G : mG) (U : State) (M : mM) : Prop := va_P (G.1, G.2.1) vwCl (wW G M) U.heap ∧ va_K (G.1, G.2.1) vwCl (wTy G) U ∧ okM M ∧ wSt G (wA G) U M
def wsO (k : Nat) : List Cond := Cond.code (yOf k) (cOf k) (nOf k) (rtOf k) :: gw
def rmO (d : Nat) : Room := { frames := d + 1, cells := 0, slots := 0, locals := 80 * (d + 1) }
def okR : Option mV → Prop
  | some v => okV v
  | none => True
def sS (M M' : mM) : Prop := ∀ k, 142 ≤ k → M' k = M k
def mQc (G : mG) (M : mM) (Q : mQ) : Array Value → State → Outcome → State → Prop := fun _ st oc t => (∃ (r : Option mV) (M' : mM), oc = .returned (r.map (cv G)) ∧ okR r ∧ Q r M' ∧ sS M M' ∧ wld G t M') ∧ va_F (wA G) st t
def mIH (G : mG) (l : Launch) (d : Nat) : Prop := ∀ (k : Nat) (a : List mV) (M : mM) (P : mQ), k ∈ mUse → mCall d k a M P → okM M → (∀ v ∈ a, okV v) → Met l (yOf k) (wsO k) (rmO d) (va_Pc (a.map (cv G)) (fun U => wld G U M)) (mQc G M P) 0 0 (wA G)
theorem wld_blind {G : mG} {a : List mV} {M : mM} : FrameBlind (va_Pc (a.map (cv G)) (fun U => wld G U M)) := by
  intro b U g mk h
  obtain ⟨h0, h1, h2, h3, h4⟩ := h
  exact ⟨h0, h1, va_K.moved (u := U) (U := U.calling g mk b) (Vm.Alike.refl U.vm) h2, h3, wSt_mk (s := U) (t := U.calling g mk b) (Vm.Alike.refl U.vm) (Nat.le_refl _) (fun _ _ _ => rfl) (fun own k tx a h => vk_R.same rfl h) (fun a i x h hw => va_Nw.same rfl rfl hw) h4⟩
theorem okM_up {M : mM} {k : Nat} {g : Int → Int} (h : okM M) (hg : okc k g) : okM (upC M k g) := by
  intro q
  unfold upC
  by_cases e : q = k
  · subst e; rw [if_pos rfl]; exact hg
  · rw [if_neg e]; exact h q
theorem okc_u {k : Nat} {g : Int → Int} {i v : Int} (h : okc k g) (hv : (ak k = 4 → R64 v) ∧ (ak k ≠ 4 → R32 v)) : okc k (mU g i v) := by
  intro q
  unfold mU
  by_cases e : q = i
  · rw [if_pos e]; exact hv
  · rw [if_neg e]; exact h q
theorem okc_c {k k2 : Nat} {f g : Int → Int} {sp dp n : Int} (hf : okc k f) (hg : okc k2 g) (e : ak k = ak k2) : okc k2 (mCpy f g sp dp n) := by
  intro q
  unfold mCpy
  by_cases c : dp ≤ q ∧ q < dp + n
  · rw [if_pos c, ← e]; exact hf _
  · rw [if_neg c]; exact hg q
theorem okl_s1 {n : Nat} {lv : mL} {x : Nat} {v : mV} (okl : ∀ i v, lv i = some v → okV v ∧ i < n) (hx : x < n) (hv : okV v) : ∀ i w, s1 lv x v i = some w → okV w ∧ i < n := by
  intro i w hw
  rw [s1_at] at hw
  by_cases e : i = x
  · rw [if_pos e] at hw
    cases hw
    exact ⟨hv, by rw [e]; exact hx⟩
  · rw [if_neg e] at hw
    by_cases e2 : i + 1 = x ∧ xlong (lv i) = true
    · rw [if_pos e2] at hw; cases hw
    · rw [if_neg e2] at hw; exact okl i w hw
theorem okl_s2 {n : Nat} {lv : mL} {x : Nat} {v : mV} (okl : ∀ i v, lv i = some v → okV v ∧ i < n) (hx : x + 1 < n) (hv : okV v) : ∀ i w, s2 lv x v i = some w → okV w ∧ i < n := by
  intro i w hw
  rw [s2_at] at hw
  by_cases e : i = x
  · rw [if_pos e] at hw
    cases hw
    exact ⟨hv, by omega⟩
  · rw [if_neg e] at hw
    by_cases e1 : i = x + 1
    · rw [if_pos e1] at hw; cases hw
    · rw [if_neg e1] at hw
      by_cases e2 : i + 1 = x ∧ xlong (lv i) = true
      · rw [if_pos e2] at hw; cases hw
      · rw [if_neg e2] at hw; exact okl i w hw
theorem sS_up {M0 M : mM} {k : Nat} {g : Int → Int} (h : sS M0 M) (hk : k ≤ 141) : sS M0 (upC M k g) := fun q hq => by rw [upC_n (by omega)]; exact h q hq
def mAb (p : Program) (l : Launch) (e : Env) (R : Room) (s : State) (m : MethodId) (args : Array Value) (below : List Frame) (meth : Method) (c : Code) (QQ : State → Prop) (G : mG) (A : Nat → Prop) (cells slots j : Nat) (M0 : mM) : mK := fun pc lv st M =>
  okM M → sS M0 M → (∀ i v, lv i = some v → okV v ∧ i < nOf j) → (∀ v ∈ st, okV v) → ∀ (ls : Array Slot) (H : Heap) (locs : List Loc), lv_has ls (nOf j) (mLl G lv (nOf j)) → va_P (G.1, G.2.1) vwCl (wW G M) H → va_S A s.heap H locs → W p l e R s m args below meth c H locs cells slots QQ (F0 m pc ls (st.map (cv G)))
def mCx (p : Program) (l : Launch) (R : Room) (s : State) (m : MethodId) (args : Array Value) (c : Code) (G : mG) (A : Nat → Prop) (cells slots d j : Nat) (M0 : mM) : Prop :=
  p.tables.exec = Jvm.exec ∧ c.code = cOf j ∧ c.maxLocals = nOf j ∧ s.vm.findClass (clsS (oOf j)) = some m.cls ∧ (∀ w ∈ gw, w.before args s = true) ∧ va_K (G.1, G.2.1) vwCl (wTy G) s ∧ wSt G A s M0 ∧ wI G ∧ (∀ q, wA G q → A q) ∧ (d + 2 ≤ R.frames ∧ 80 * (d + 2) ≤ R.locals ∧ cells ≤ R.cells ∧ slots ≤ R.slots) ∧ mIH G l d
section Rows
variable {p : Program} {l : Launch} {e : Env} {R : Room} {s : State} {m : MethodId} {args : Array Value} {below : List Frame} {meth : Method} {c : Code} {QQ : State → Prop} {G : mG} {A : Nat → Prop} {cells slots d j : Nat} {M0 : mM} {Q : mQ}
theorem ab_iconst (CX : mCx p l R s m args c G A cells slots d j M0) {pc : Nat} {lv : mL} {st : List mV} {M : mM} {z : Int} (hd : decode (cOf j) pc = .ok (.iconst z, 1)) (h : mAb p l e R s m args below meth c QQ G A cells slots j M0 (pc + 1) lv (vi (w32 z) :: st) M) : mAb p l e R s m args below meth c QQ G A cells slots j M0 pc lv st M := by
  intro okm hs okl oks ls H locs hl hP hS
  have e0 := (o_w32 z).symm
  refine lv_iconst CX.1 CX.2.1 hd rfl ?_
  rw [e0]
  exact h okm hs okl (List.forall_mem_cons.mpr ⟨w32_R z, fun v hv => oks v hv⟩) ls H locs hl hP hS
theorem ab_bipush (CX : mCx p l R s m args c G A cells slots d j M0) {pc : Nat} {lv : mL} {st : List mV} {M : mM} {z : Int} (hd : decode (cOf j) pc = .ok (.bipush z, 2)) (h : mAb p l e R s m args below meth c QQ G A cells slots j M0 (pc + 2) lv (vi (Int8.ofInt z).toInt :: st) M) : mAb p l e R s m args below meth c QQ G A cells slots j M0 pc lv st M := by
  intro okm hs okl oks ls H locs hl hP hS
  have e0 := o_i8 (Int8.ofInt z)
  refine lv_bipush CX.1 CX.2.1 hd rfl ?_
  rw [e0]
  exact h okm hs okl (List.forall_mem_cons.mpr ⟨(by have := Int8.le_toInt (Int8.ofInt z); have := Int8.toInt_lt (Int8.ofInt z); show R32 _; unfold R32; omega), fun v hv => oks v hv⟩) ls H locs hl hP hS
theorem ab_sipush (CX : mCx p l R s m args c G A cells slots d j M0) {pc : Nat} {lv : mL} {st : List mV} {M : mM} {z : Int} (hd : decode (cOf j) pc = .ok (.sipush z, 3)) (h : mAb p l e R s m args below meth c QQ G A cells slots j M0 (pc + 3) lv (vi (Int16.ofInt z).toInt :: st) M) : mAb p l e R s m args below meth c QQ G A cells slots j M0 pc lv st M := by
  intro okm hs okl oks ls H locs hl hP hS
  have e0 := o_i16 (Int16.ofInt z)
  refine lv_sipush CX.1 CX.2.1 hd rfl ?_
  rw [e0]
  exact h okm hs okl (List.forall_mem_cons.mpr ⟨(by have := Int16.le_toInt (Int16.ofInt z); have := Int16.toInt_lt (Int16.ofInt z); show R32 _; unfold R32; omega), fun v hv => oks v hv⟩) ls H locs hl hP hS
theorem ab_lconst (CX : mCx p l R s m args c G A cells slots d j M0) {pc : Nat} {lv : mL} {st : List mV} {M : mM} {z : Fin 2} (hd : decode (cOf j) pc = .ok (.lconst z, 1)) (h : mAb p l e R s m args below meth c QQ G A cells slots j M0 (pc + 1) lv (vl ((z : Nat) : Int) :: st) M) : mAb p l e R s m args below meth c QQ G A cells slots j M0 pc lv st M := by
  intro okm hs okl oks ls H locs hl hP hS
  have e0 := o_fin2 z
  refine lv_lconst CX.1 CX.2.1 hd rfl ?_
  rw [e0]
  exact h okm hs okl (List.forall_mem_cons.mpr ⟨(by show R64 _; unfold R64; have := z.isLt; omega), fun v hv => oks v hv⟩) ls H locs hl hP hS
theorem ab_null (CX : mCx p l R s m args c G A cells slots d j M0) {pc : Nat} {lv : mL} {st : List mV} {M : mM} (hd : decode (cOf j) pc = .ok (.aconst_null, 1)) (h : mAb p l e R s m args below meth c QQ G A cells slots j M0 (pc + 1) lv (vr 0 :: st) M) : mAb p l e R s m args below meth c QQ G A cells slots j M0 pc lv st M := by
  intro okm hs okl oks ls H locs hl hP hS
  refine lv_null CX.1 CX.2.1 hd ?_
  exact h okm hs okl (List.forall_mem_cons.mpr ⟨trivial, fun v hv => oks v hv⟩) ls H locs hl hP hS
theorem ab_ldc (CX : mCx p l R s m args c G A cells slots d j M0) {pc : Nat} {lv : mL} {st : List mV} {M : mM} {x : Nat} {z : Int} (hd : decode (cOf j) pc = .ok (.ldc x, 2)) (hk : kR (oOf j) x = (1, z)) (h : mAb p l e R s m args below meth c QQ G A cells slots j M0 (pc + 2) lv (vi (w32 z) :: st) M) : mAb p l e R s m args below meth c QQ G A cells slots j M0 pc lv st M := by
  intro okm hs okl oks ls H locs hl hP hS
  have e0 := (o_w32 z).symm
  refine lv_ldc CX.1 CX.2.1 CX.2.2.2.1 (CX.2.2.2.2.1 _ (kR_1 hk)) hd ?_
  rw [e0]
  exact h okm hs okl (List.forall_mem_cons.mpr ⟨w32_R z, fun v hv => oks v hv⟩) ls H locs hl hP hS
theorem ab_ldcw (CX : mCx p l R s m args c G A cells slots d j M0) {pc : Nat} {lv : mL} {st : List mV} {M : mM} {x : Nat} {z : Int} (hd : decode (cOf j) pc = .ok (.ldc_w x, 3)) (hk : kR (oOf j) x = (1, z)) (h : mAb p l e R s m args below meth c QQ G A cells slots j M0 (pc + 3) lv (vi (w32 z) :: st) M) : mAb p l e R s m args below meth c QQ G A cells slots j M0 pc lv st M := by
  intro okm hs okl oks ls H locs hl hP hS
  have e0 := (o_w32 z).symm
  refine lv_ldcw CX.1 CX.2.1 CX.2.2.2.1 (CX.2.2.2.2.1 _ (kR_1 hk)) hd ?_
  rw [e0]
  exact h okm hs okl (List.forall_mem_cons.mpr ⟨w32_R z, fun v hv => oks v hv⟩) ls H locs hl hP hS
theorem ab_ldc2 (CX : mCx p l R s m args c G A cells slots d j M0) {pc : Nat} {lv : mL} {st : List mV} {M : mM} {x : Nat} {z : Int} (hd : decode (cOf j) pc = .ok (.ldc2_w x, 3)) (hk : kR (oOf j) x = (3, z)) (h : mAb p l e R s m args below meth c QQ G A cells slots j M0 (pc + 3) lv (vl (w64 z) :: st) M) : mAb p l e R s m args below meth c QQ G A cells slots j M0 pc lv st M := by
  intro okm hs okl oks ls H locs hl hP hS
  have e0 := (o_w64 z).symm
  refine lv_ldc2 CX.1 CX.2.1 CX.2.2.2.1 (CX.2.2.2.2.1 _ (kR_3 hk)) hd ?_
  rw [e0]
  exact h okm hs okl (List.forall_mem_cons.mpr ⟨w64_R z, fun v hv => oks v hv⟩) ls H locs hl hP hS
theorem ab_ldcs (CX : mCx p l R s m args c G A cells slots d j M0) {pc : Nat} {lv : mL} {st : List mV} {M : mM} {x : Nat} {z : Int} (hd : decode (cOf j) pc = .ok (.ldc x, 2)) (hk : kR (oOf j) x = (2, z)) (h : mAb p l e R s m args below meth c QQ G A cells slots j M0 (pc + 2) lv (vr z.toNat :: st) M) : mAb p l e R s m args below meth c QQ G A cells slots j M0 pc lv st M := by
  intro okm hs okl oks ls H locs hl hP hS
  obtain ⟨ho, hz⟩ := kR_2 hk
  obtain ⟨-, -, -, -, -, -, ⟨x7, h7⟩, ⟨x8, h8⟩, -⟩ := CX.2.2.2.2.2.2.1
  have hown : s.vm.findClass (clsS 9) = some m.cls := by rw [← ho]; exact CX.2.2.2.1
  have h := h okm hs okl (List.forall_mem_cons.mpr ⟨trivial, oks⟩) ls H locs hl hP hS
  rcases hz with ⟨rfl, rfl⟩ | ⟨rfl, rfl⟩
  · exact va_ldcS CX.1 CX.2.1 hown h7 hd h
  · exact va_ldcS CX.1 CX.2.1 hown h8 hd h
theorem ab_iadd (CX : mCx p l R s m args c G A cells slots d j M0) {pc : Nat} {lv : mL} {st : List mV} {M : mM} {x y : Int} (hd : decode (cOf j) pc = .ok (.iadd, 1)) (h : mAb p l e R s m args below meth c QQ G A cells slots j M0 (pc + 1) lv (vi (w32 (x + y)) :: st) M) : mAb p l e R s m args below meth c QQ G A cells slots j M0 pc lv (vi y :: vi x :: st) M := by
  intro okm hs okl oks ls H locs hl hP hS
  have e0 := o_add x y
  refine lv_iadd CX.1 CX.2.1 hd ?_
  rw [e0]
  exact h okm hs okl (List.forall_mem_cons.mpr ⟨w32_R _, fun v hv => oks v (List.mem_cons_of_mem _ (List.mem_cons_of_mem _ hv))⟩) ls H locs hl hP hS
theorem ab_isub (CX : mCx p l R s m args c G A cells slots d j M0) {pc : Nat} {lv : mL} {st : List mV} {M : mM} {x y : Int} (hd : decode (cOf j) pc = .ok (.isub, 1)) (h : mAb p l e R s m args below meth c QQ G A cells slots j M0 (pc + 1) lv (vi (w32 (x - y)) :: st) M) : mAb p l e R s m args below meth c QQ G A cells slots j M0 pc lv (vi y :: vi x :: st) M := by
  intro okm hs okl oks ls H locs hl hP hS
  have e0 := o_sub x y
  refine lv_isub CX.1 CX.2.1 hd ?_
  rw [e0]
  exact h okm hs okl (List.forall_mem_cons.mpr ⟨w32_R _, fun v hv => oks v (List.mem_cons_of_mem _ (List.mem_cons_of_mem _ hv))⟩) ls H locs hl hP hS
theorem ab_imul (CX : mCx p l R s m args c G A cells slots d j M0) {pc : Nat} {lv : mL} {st : List mV} {M : mM} {x y : Int} (hd : decode (cOf j) pc = .ok (.imul, 1)) (h : mAb p l e R s m args below meth c QQ G A cells slots j M0 (pc + 1) lv (vi (w32 (x * y)) :: st) M) : mAb p l e R s m args below meth c QQ G A cells slots j M0 pc lv (vi y :: vi x :: st) M := by
  intro okm hs okl oks ls H locs hl hP hS
  have e0 := o_mul x y
  refine lv_imul CX.1 CX.2.1 hd ?_
  rw [e0]
  exact h okm hs okl (List.forall_mem_cons.mpr ⟨w32_R _, fun v hv => oks v (List.mem_cons_of_mem _ (List.mem_cons_of_mem _ hv))⟩) ls H locs hl hP hS
theorem ab_iand (CX : mCx p l R s m args c G A cells slots d j M0) {pc : Nat} {lv : mL} {st : List mV} {M : mM} {x y : Int} (hd : decode (cOf j) pc = .ok (.iand, 1)) (h : mAb p l e R s m args below meth c QQ G A cells slots j M0 (pc + 1) lv (vi (iAnd x y) :: st) M) : mAb p l e R s m args below meth c QQ G A cells slots j M0 pc lv (vi y :: vi x :: st) M := by
  intro okm hs okl oks ls H locs hl hP hS
  have e0 := (show Int32.ofInt x &&& Int32.ofInt y = Int32.ofInt (iAnd x y) from (o_ti _).symm)
  refine lv_iand CX.1 CX.2.1 hd ?_
  rw [e0]
  exact h okm hs okl (List.forall_mem_cons.mpr ⟨i32_R _, fun v hv => oks v (List.mem_cons_of_mem _ (List.mem_cons_of_mem _ hv))⟩) ls H locs hl hP hS
theorem ab_ior (CX : mCx p l R s m args c G A cells slots d j M0) {pc : Nat} {lv : mL} {st : List mV} {M : mM} {x y : Int} (hd : decode (cOf j) pc = .ok (.ior, 1)) (h : mAb p l e R s m args below meth c QQ G A cells slots j M0 (pc + 1) lv (vi (iOr x y) :: st) M) : mAb p l e R s m args below meth c QQ G A cells slots j M0 pc lv (vi y :: vi x :: st) M := by
  intro okm hs okl oks ls H locs hl hP hS
  have e0 := (show Int32.ofInt x ||| Int32.ofInt y = Int32.ofInt (iOr x y) from (o_ti _).symm)
  refine lv_ior CX.1 CX.2.1 hd ?_
  rw [e0]
  exact h okm hs okl (List.forall_mem_cons.mpr ⟨i32_R _, fun v hv => oks v (List.mem_cons_of_mem _ (List.mem_cons_of_mem _ hv))⟩) ls H locs hl hP hS
theorem ab_ixor (CX : mCx p l R s m args c G A cells slots d j M0) {pc : Nat} {lv : mL} {st : List mV} {M : mM} {x y : Int} (hd : decode (cOf j) pc = .ok (.ixor, 1)) (h : mAb p l e R s m args below meth c QQ G A cells slots j M0 (pc + 1) lv (vi (iXor x y) :: st) M) : mAb p l e R s m args below meth c QQ G A cells slots j M0 pc lv (vi y :: vi x :: st) M := by
  intro okm hs okl oks ls H locs hl hP hS
  have e0 := (show Int32.ofInt x ^^^ Int32.ofInt y = Int32.ofInt (iXor x y) from (o_ti _).symm)
  refine lv_ixor CX.1 CX.2.1 hd ?_
  rw [e0]
  exact h okm hs okl (List.forall_mem_cons.mpr ⟨i32_R _, fun v hv => oks v (List.mem_cons_of_mem _ (List.mem_cons_of_mem _ hv))⟩) ls H locs hl hP hS
theorem ab_ishl (CX : mCx p l R s m args c G A cells slots d j M0) {pc : Nat} {lv : mL} {st : List mV} {M : mM} {x y : Int} (hd : decode (cOf j) pc = .ok (.ishl, 1)) (h : mAb p l e R s m args below meth c QQ G A cells slots j M0 (pc + 1) lv (vi (iShl x y) :: st) M) : mAb p l e R s m args below meth c QQ G A cells slots j M0 pc lv (vi y :: vi x :: st) M := by
  intro okm hs okl oks ls H locs hl hP hS
  have e0 := (show Int32.ofInt x <<< (Int32.ofInt y &&& 31) = Int32.ofInt (iShl x y) from (o_ti _).symm)
  refine lv_ishl CX.1 CX.2.1 hd ?_
  rw [e0]
  exact h okm hs okl (List.forall_mem_cons.mpr ⟨i32_R _, fun v hv => oks v (List.mem_cons_of_mem _ (List.mem_cons_of_mem _ hv))⟩) ls H locs hl hP hS
theorem ab_ishr (CX : mCx p l R s m args c G A cells slots d j M0) {pc : Nat} {lv : mL} {st : List mV} {M : mM} {x y : Int} (hd : decode (cOf j) pc = .ok (.ishr, 1)) (h : mAb p l e R s m args below meth c QQ G A cells slots j M0 (pc + 1) lv (vi (iShr x y) :: st) M) : mAb p l e R s m args below meth c QQ G A cells slots j M0 pc lv (vi y :: vi x :: st) M := by
  intro okm hs okl oks ls H locs hl hP hS
  have e0 := (show Int32.ofInt x >>> (Int32.ofInt y &&& 31) = Int32.ofInt (iShr x y) from (o_ti _).symm)
  refine lv_ishr CX.1 CX.2.1 hd ?_
  rw [e0]
  exact h okm hs okl (List.forall_mem_cons.mpr ⟨i32_R _, fun v hv => oks v (List.mem_cons_of_mem _ (List.mem_cons_of_mem _ hv))⟩) ls H locs hl hP hS
theorem ab_iushr (CX : mCx p l R s m args c G A cells slots d j M0) {pc : Nat} {lv : mL} {st : List mV} {M : mM} {x y : Int} (hd : decode (cOf j) pc = .ok (.iushr, 1)) (h : mAb p l e R s m args below meth c QQ G A cells slots j M0 (pc + 1) lv (vi (iUsh x y) :: st) M) : mAb p l e R s m args below meth c QQ G A cells slots j M0 pc lv (vi y :: vi x :: st) M := by
  intro okm hs okl oks ls H locs hl hP hS
  refine lv_iushr CX.1 CX.2.1 hd (show _ = Int32.ofInt (iUsh x y) from (o_ti _).symm) ?_
  exact h okm hs okl (List.forall_mem_cons.mpr ⟨i32_R _, fun v hv => oks v (List.mem_cons_of_mem _ (List.mem_cons_of_mem _ hv))⟩) ls H locs hl hP hS
theorem ab_ladd (CX : mCx p l R s m args c G A cells slots d j M0) {pc : Nat} {lv : mL} {st : List mV} {M : mM} {x y : Int} (hd : decode (cOf j) pc = .ok (.ladd, 1)) (h : mAb p l e R s m args below meth c QQ G A cells slots j M0 (pc + 1) lv (vl (w64 (x + y)) :: st) M) : mAb p l e R s m args below meth c QQ G A cells slots j M0 pc lv (vl y :: vl x :: st) M := by
  intro okm hs okl oks ls H locs hl hP hS
  have e0 := p_add x y
  refine lv_ladd CX.1 CX.2.1 hd ?_
  rw [e0]
  exact h okm hs okl (List.forall_mem_cons.mpr ⟨w64_R _, fun v hv => oks v (List.mem_cons_of_mem _ (List.mem_cons_of_mem _ hv))⟩) ls H locs hl hP hS
theorem ab_lsub (CX : mCx p l R s m args c G A cells slots d j M0) {pc : Nat} {lv : mL} {st : List mV} {M : mM} {x y : Int} (hd : decode (cOf j) pc = .ok (.lsub, 1)) (h : mAb p l e R s m args below meth c QQ G A cells slots j M0 (pc + 1) lv (vl (w64 (x - y)) :: st) M) : mAb p l e R s m args below meth c QQ G A cells slots j M0 pc lv (vl y :: vl x :: st) M := by
  intro okm hs okl oks ls H locs hl hP hS
  have e0 := p_sub x y
  refine lv_lsub CX.1 CX.2.1 hd ?_
  rw [e0]
  exact h okm hs okl (List.forall_mem_cons.mpr ⟨w64_R _, fun v hv => oks v (List.mem_cons_of_mem _ (List.mem_cons_of_mem _ hv))⟩) ls H locs hl hP hS
theorem ab_lmul (CX : mCx p l R s m args c G A cells slots d j M0) {pc : Nat} {lv : mL} {st : List mV} {M : mM} {x y : Int} (hd : decode (cOf j) pc = .ok (.lmul, 1)) (h : mAb p l e R s m args below meth c QQ G A cells slots j M0 (pc + 1) lv (vl (w64 (x * y)) :: st) M) : mAb p l e R s m args below meth c QQ G A cells slots j M0 pc lv (vl y :: vl x :: st) M := by
  intro okm hs okl oks ls H locs hl hP hS
  have e0 := p_mul x y
  refine lv_lmul CX.1 CX.2.1 hd ?_
  rw [e0]
  exact h okm hs okl (List.forall_mem_cons.mpr ⟨w64_R _, fun v hv => oks v (List.mem_cons_of_mem _ (List.mem_cons_of_mem _ hv))⟩) ls H locs hl hP hS
theorem ab_land (CX : mCx p l R s m args c G A cells slots d j M0) {pc : Nat} {lv : mL} {st : List mV} {M : mM} {x y : Int} (hd : decode (cOf j) pc = .ok (.land, 1)) (h : mAb p l e R s m args below meth c QQ G A cells slots j M0 (pc + 1) lv (vl (lAnd x y) :: st) M) : mAb p l e R s m args below meth c QQ G A cells slots j M0 pc lv (vl y :: vl x :: st) M := by
  intro okm hs okl oks ls H locs hl hP hS
  have e0 := (show Int64.ofInt x &&& Int64.ofInt y = Int64.ofInt (lAnd x y) from (o_tl _).symm)
  refine lv_land CX.1 CX.2.1 hd ?_
  rw [e0]
  exact h okm hs okl (List.forall_mem_cons.mpr ⟨i64_R _, fun v hv => oks v (List.mem_cons_of_mem _ (List.mem_cons_of_mem _ hv))⟩) ls H locs hl hP hS
theorem ab_lor (CX : mCx p l R s m args c G A cells slots d j M0) {pc : Nat} {lv : mL} {st : List mV} {M : mM} {x y : Int} (hd : decode (cOf j) pc = .ok (.lor, 1)) (h : mAb p l e R s m args below meth c QQ G A cells slots j M0 (pc + 1) lv (vl (lOr x y) :: st) M) : mAb p l e R s m args below meth c QQ G A cells slots j M0 pc lv (vl y :: vl x :: st) M := by
  intro okm hs okl oks ls H locs hl hP hS
  have e0 := (show Int64.ofInt x ||| Int64.ofInt y = Int64.ofInt (lOr x y) from (o_tl _).symm)
  refine lv_lor CX.1 CX.2.1 hd ?_
  rw [e0]
  exact h okm hs okl (List.forall_mem_cons.mpr ⟨i64_R _, fun v hv => oks v (List.mem_cons_of_mem _ (List.mem_cons_of_mem _ hv))⟩) ls H locs hl hP hS
theorem ab_lxor (CX : mCx p l R s m args c G A cells slots d j M0) {pc : Nat} {lv : mL} {st : List mV} {M : mM} {x y : Int} (hd : decode (cOf j) pc = .ok (.lxor, 1)) (h : mAb p l e R s m args below meth c QQ G A cells slots j M0 (pc + 1) lv (vl (lXor x y) :: st) M) : mAb p l e R s m args below meth c QQ G A cells slots j M0 pc lv (vl y :: vl x :: st) M := by
  intro okm hs okl oks ls H locs hl hP hS
  have e0 := (show Int64.ofInt x ^^^ Int64.ofInt y = Int64.ofInt (lXor x y) from (o_tl _).symm)
  refine lv_lxor CX.1 CX.2.1 hd ?_
  rw [e0]
  exact h okm hs okl (List.forall_mem_cons.mpr ⟨i64_R _, fun v hv => oks v (List.mem_cons_of_mem _ (List.mem_cons_of_mem _ hv))⟩) ls H locs hl hP hS
theorem ab_lshl (CX : mCx p l R s m args c G A cells slots d j M0) {pc : Nat} {lv : mL} {st : List mV} {M : mM} {x y : Int} (hd : decode (cOf j) pc = .ok (.lshl, 1)) (h : mAb p l e R s m args below meth c QQ G A cells slots j M0 (pc + 1) lv (vl (lShl x y) :: st) M) : mAb p l e R s m args below meth c QQ G A cells slots j M0 pc lv (vi y :: vl x :: st) M := by
  intro okm hs okl oks ls H locs hl hP hS
  refine lv_lshl CX.1 CX.2.1 hd (show _ = Int64.ofInt (lShl x y) from (o_tl _).symm) ?_
  exact h okm hs okl (List.forall_mem_cons.mpr ⟨i64_R _, fun v hv => oks v (List.mem_cons_of_mem _ (List.mem_cons_of_mem _ hv))⟩) ls H locs hl hP hS
theorem ab_lshr (CX : mCx p l R s m args c G A cells slots d j M0) {pc : Nat} {lv : mL} {st : List mV} {M : mM} {x y : Int} (hd : decode (cOf j) pc = .ok (.lshr, 1)) (h : mAb p l e R s m args below meth c QQ G A cells slots j M0 (pc + 1) lv (vl (lShr x y) :: st) M) : mAb p l e R s m args below meth c QQ G A cells slots j M0 pc lv (vi y :: vl x :: st) M := by
  intro okm hs okl oks ls H locs hl hP hS
  refine lv_lshr CX.1 CX.2.1 hd (show _ = Int64.ofInt (lShr x y) from (o_tl _).symm) ?_
  exact h okm hs okl (List.forall_mem_cons.mpr ⟨i64_R _, fun v hv => oks v (List.mem_cons_of_mem _ (List.mem_cons_of_mem _ hv))⟩) ls H locs hl hP hS
theorem ab_idiv (CX : mCx p l R s m args c G A cells slots d j M0) {pc : Nat} {lv : mL} {st : List mV} {M : mM} {x y : Int} (hd : decode (cOf j) pc = .ok (.idiv, 1)) (hy : y ≠ 0) (h : mAb p l e R s m args below meth c QQ G A cells slots j M0 (pc + 1) lv (vi (w32 (Int.tdiv x y)) :: st) M) : mAb p l e R s m args below meth c QQ G A cells slots j M0 pc lv (vi y :: vi x :: st) M := by
  intro okm hs okl oks ls H locs hl hP hS
  have e0 := o_div (oks _ (List.mem_cons_of_mem _ List.mem_cons_self)) (oks _ List.mem_cons_self)
  refine lv_idiv CX.1 CX.2.1 hd (by intro q; exact hy ((o_eq (oks _ List.mem_cons_self) R32_0).mp q)) ?_
  rw [e0]
  exact h okm hs okl (List.forall_mem_cons.mpr ⟨w32_R _, fun v hv => oks v (List.mem_cons_of_mem _ (List.mem_cons_of_mem _ hv))⟩) ls H locs hl hP hS
theorem ab_irem (CX : mCx p l R s m args c G A cells slots d j M0) {pc : Nat} {lv : mL} {st : List mV} {M : mM} {x y : Int} (hd : decode (cOf j) pc = .ok (.irem, 1)) (hy : y ≠ 0) (h : mAb p l e R s m args below meth c QQ G A cells slots j M0 (pc + 1) lv (vi (Int.tmod x y) :: st) M) : mAb p l e R s m args below meth c QQ G A cells slots j M0 pc lv (vi y :: vi x :: st) M := by
  intro okm hs okl oks ls H locs hl hP hS
  have e0 := o_rem (oks _ (List.mem_cons_of_mem _ List.mem_cons_self)) (oks _ List.mem_cons_self)
  refine lv_irem CX.1 CX.2.1 hd (by intro q; exact hy ((o_eq (oks _ List.mem_cons_self) R32_0).mp q)) ?_
  rw [e0]
  exact h okm hs okl (List.forall_mem_cons.mpr ⟨(by have a : R32 x := (oks _ (List.mem_cons_of_mem _ List.mem_cons_self)); have b := tmod_R (y := y) (lo := -2147483648) (hi := 2147483647) (by decide) (by decide) a.1 (by have := a.2; omega); show R32 _; exact ⟨b.1, by omega⟩), fun v hv => oks v (List.mem_cons_of_mem _ (List.mem_cons_of_mem _ hv))⟩) ls H locs hl hP hS
theorem ab_ldiv (CX : mCx p l R s m args c G A cells slots d j M0) {pc : Nat} {lv : mL} {st : List mV} {M : mM} {x y : Int} (hd : decode (cOf j) pc = .ok (.ldiv, 1)) (hy : y ≠ 0) (h : mAb p l e R s m args below meth c QQ G A cells slots j M0 (pc + 1) lv (vl (w64 (Int.tdiv x y)) :: st) M) : mAb p l e R s m args below meth c QQ G A cells slots j M0 pc lv (vl y :: vl x :: st) M := by
  intro okm hs okl oks ls H locs hl hP hS
  have e0 := p_div (oks _ (List.mem_cons_of_mem _ List.mem_cons_self)) (oks _ List.mem_cons_self)
  refine lv_ldiv CX.1 CX.2.1 hd (by intro q; exact hy ((p_eq (oks _ List.mem_cons_self) (by unfold R64; omega)).mp q)) ?_
  rw [e0]
  exact h okm hs okl (List.forall_mem_cons.mpr ⟨w64_R _, fun v hv => oks v (List.mem_cons_of_mem _ (List.mem_cons_of_mem _ hv))⟩) ls H locs hl hP hS
theorem ab_lrem (CX : mCx p l R s m args c G A cells slots d j M0) {pc : Nat} {lv : mL} {st : List mV} {M : mM} {x y : Int} (hd : decode (cOf j) pc = .ok (.lrem, 1)) (hy : y ≠ 0) (h : mAb p l e R s m args below meth c QQ G A cells slots j M0 (pc + 1) lv (vl (Int.tmod x y) :: st) M) : mAb p l e R s m args below meth c QQ G A cells slots j M0 pc lv (vl y :: vl x :: st) M := by
  intro okm hs okl oks ls H locs hl hP hS
  have e0 := p_rem (oks _ (List.mem_cons_of_mem _ List.mem_cons_self)) (oks _ List.mem_cons_self)
  refine lv_lrem CX.1 CX.2.1 hd (by intro q; exact hy ((p_eq (oks _ List.mem_cons_self) (by unfold R64; omega)).mp q)) ?_
  rw [e0]
  exact h okm hs okl (List.forall_mem_cons.mpr ⟨(by have a : R64 x := (oks _ (List.mem_cons_of_mem _ List.mem_cons_self)); have b := tmod_R (y := y) (lo := -9223372036854775808) (hi := 9223372036854775807) (by decide) (by decide) a.1 (by have := a.2; omega); show R64 _; exact ⟨b.1, by omega⟩), fun v hv => oks v (List.mem_cons_of_mem _ (List.mem_cons_of_mem _ hv))⟩) ls H locs hl hP hS
theorem ab_lcmp (CX : mCx p l R s m args c G A cells slots d j M0) {pc : Nat} {lv : mL} {st : List mV} {M : mM} {x y : Int} (hd : decode (cOf j) pc = .ok (.lcmp, 1)) (h : mAb p l e R s m args below meth c QQ G A cells slots j M0 (pc + 1) lv (vi (lCmp x y) :: st) M) : mAb p l e R s m args below meth c QQ G A cells slots j M0 pc lv (vl y :: vl x :: st) M := by
  intro okm hs okl oks ls H locs hl hP hS
  have e0 := o_cmp (oks _ (List.mem_cons_of_mem _ List.mem_cons_self)) (oks _ List.mem_cons_self)
  refine W.lcmp CX.1 CX.2.1 hd ?_
  rw [e0]
  exact h okm hs okl (List.forall_mem_cons.mpr ⟨(by show R32 _; unfold lCmp R32; split <;> (try split) <;> omega), fun v hv => oks v (List.mem_cons_of_mem _ (List.mem_cons_of_mem _ hv))⟩) ls H locs hl hP hS
theorem ab_ineg (CX : mCx p l R s m args c G A cells slots d j M0) {pc : Nat} {lv : mL} {st : List mV} {M : mM} {x : Int} (hd : decode (cOf j) pc = .ok (.ineg, 1)) (h : mAb p l e R s m args below meth c QQ G A cells slots j M0 (pc + 1) lv (vi (w32 (-x)) :: st) M) : mAb p l e R s m args below meth c QQ G A cells slots j M0 pc lv (vi x :: st) M := by
  intro okm hs okl oks ls H locs hl hP hS
  have e0 := o_neg x
  refine lv_ineg CX.1 CX.2.1 hd ?_
  rw [e0]
  exact h okm hs okl (List.forall_mem_cons.mpr ⟨w32_R _, fun v hv => oks v (List.mem_cons_of_mem _ hv)⟩) ls H locs hl hP hS
theorem ab_lneg (CX : mCx p l R s m args c G A cells slots d j M0) {pc : Nat} {lv : mL} {st : List mV} {M : mM} {x : Int} (hd : decode (cOf j) pc = .ok (.lneg, 1)) (h : mAb p l e R s m args below meth c QQ G A cells slots j M0 (pc + 1) lv (vl (w64 (-x)) :: st) M) : mAb p l e R s m args below meth c QQ G A cells slots j M0 pc lv (vl x :: st) M := by
  intro okm hs okl oks ls H locs hl hP hS
  have e0 := p_neg x
  refine lv_lneg CX.1 CX.2.1 hd ?_
  rw [e0]
  exact h okm hs okl (List.forall_mem_cons.mpr ⟨w64_R _, fun v hv => oks v (List.mem_cons_of_mem _ hv)⟩) ls H locs hl hP hS
theorem ab_i2l (CX : mCx p l R s m args c G A cells slots d j M0) {pc : Nat} {lv : mL} {st : List mV} {M : mM} {x : Int} (hd : decode (cOf j) pc = .ok (.i2l, 1)) (h : mAb p l e R s m args below meth c QQ G A cells slots j M0 (pc + 1) lv (vl x :: st) M) : mAb p l e R s m args below meth c QQ G A cells slots j M0 pc lv (vi x :: st) M := by
  intro okm hs okl oks ls H locs hl hP hS
  have e0 := o_wide (oks _ List.mem_cons_self)
  refine lv_i2l CX.1 CX.2.1 hd rfl ?_
  rw [e0]
  exact h okm hs okl (List.forall_mem_cons.mpr ⟨(by have a : R32 x := (oks _ List.mem_cons_self); show R64 _; unfold R32 at a; unfold R64; omega), fun v hv => oks v (List.mem_cons_of_mem _ hv)⟩) ls H locs hl hP hS
theorem ab_l2i (CX : mCx p l R s m args c G A cells slots d j M0) {pc : Nat} {lv : mL} {st : List mV} {M : mM} {x : Int} (hd : decode (cOf j) pc = .ok (.l2i, 1)) (h : mAb p l e R s m args below meth c QQ G A cells slots j M0 (pc + 1) lv (vi (w32 x) :: st) M) : mAb p l e R s m args below meth c QQ G A cells slots j M0 pc lv (vl x :: st) M := by
  intro okm hs okl oks ls H locs hl hP hS
  have e0 := o_narrow x
  refine lv_l2i CX.1 CX.2.1 hd rfl ?_
  rw [e0]
  exact h okm hs okl (List.forall_mem_cons.mpr ⟨w32_R _, fun v hv => oks v (List.mem_cons_of_mem _ hv)⟩) ls H locs hl hP hS
theorem ab_i2b (CX : mCx p l R s m args c G A cells slots d j M0) {pc : Nat} {lv : mL} {st : List mV} {M : mM} {x : Int} (hd : decode (cOf j) pc = .ok (.i2b, 1)) (h : mAb p l e R s m args below meth c QQ G A cells slots j M0 (pc + 1) lv (vi (i2b x) :: st) M) : mAb p l e R s m args below meth c QQ G A cells slots j M0 pc lv (vi x :: st) M := by
  intro okm hs okl oks ls H locs hl hP hS
  have e0 := o_byte x
  refine lv_i2b CX.1 CX.2.1 hd rfl ?_
  rw [e0]
  exact h okm hs okl (List.forall_mem_cons.mpr ⟨(by have := i2b_R x; show R32 _; unfold R32; omega), fun v hv => oks v (List.mem_cons_of_mem _ hv)⟩) ls H locs hl hP hS
theorem ab_i2c (CX : mCx p l R s m args c G A cells slots d j M0) {pc : Nat} {lv : mL} {st : List mV} {M : mM} {x : Int} (hd : decode (cOf j) pc = .ok (.i2c, 1)) (h : mAb p l e R s m args below meth c QQ G A cells slots j M0 (pc + 1) lv (vi (i2c x) :: st) M) : mAb p l e R s m args below meth c QQ G A cells slots j M0 pc lv (vi x :: st) M := by
  intro okm hs okl oks ls H locs hl hP hS
  have e0 := o_char x
  refine lv_i2c CX.1 CX.2.1 hd rfl ?_
  rw [e0]
  exact h okm hs okl (List.forall_mem_cons.mpr ⟨(by show R32 _; unfold i2c R32; omega), fun v hv => oks v (List.mem_cons_of_mem _ hv)⟩) ls H locs hl hP hS
theorem ab_dup (CX : mCx p l R s m args c G A cells slots d j M0) {pc : Nat} {lv : mL} {st : List mV} {M : mM} {v : mV} (hd : decode (cOf j) pc = .ok (.dup, 1)) (hv : mcw v = 1) (h : mAb p l e R s m args below meth c QQ G A cells slots j M0 (pc + 1) lv (v :: v :: st) M) : mAb p l e R s m args below meth c QQ G A cells slots j M0 pc lv (v :: st) M := by
  intro okm hs okl oks ls H locs hl hP hS
  refine lv_dup CX.1 CX.2.1 hd (by rw [cv_cat]; exact hv) ?_
  exact h okm hs okl (List.forall_mem_cons.mpr ⟨oks _ List.mem_cons_self, oks⟩) ls H locs hl hP hS
theorem ab_pop (CX : mCx p l R s m args c G A cells slots d j M0) {pc : Nat} {lv : mL} {st : List mV} {M : mM} {v : mV} (hd : decode (cOf j) pc = .ok (.pop, 1)) (hv : mcw v = 1) (h : mAb p l e R s m args below meth c QQ G A cells slots j M0 (pc + 1) lv st M) : mAb p l e R s m args below meth c QQ G A cells slots j M0 pc lv (v :: st) M := by
  intro okm hs okl oks ls H locs hl hP hS
  refine lv_pop CX.1 CX.2.1 hd (by rw [cv_cat]; exact hv) ?_
  exact h okm hs okl (fun w hw => oks w (List.mem_cons_of_mem _ hw)) ls H locs hl hP hS
theorem ab_dup2 (CX : mCx p l R s m args c G A cells slots d j M0) {pc : Nat} {lv : mL} {st : List mV} {M : mM} {v u : mV} (hd : decode (cOf j) pc = .ok (.dup2, 1)) (hv : mcw v = 1) (hu : mcw u = 1) (h : mAb p l e R s m args below meth c QQ G A cells slots j M0 (pc + 1) lv (v :: u :: v :: u :: st) M) : mAb p l e R s m args below meth c QQ G A cells slots j M0 pc lv (v :: u :: st) M := by
  intro okm hs okl oks ls H locs hl hP hS
  refine lv_dup2_11 CX.1 CX.2.1 hd (by rw [cv_cat]; exact hv) (by rw [cv_cat]; exact hu) ?_
  exact h okm hs okl (List.forall_mem_cons.mpr ⟨oks _ List.mem_cons_self, List.forall_mem_cons.mpr ⟨oks _ (List.mem_cons_of_mem _ List.mem_cons_self), oks⟩⟩) ls H locs hl hP hS
theorem ab_iload (CX : mCx p l R s m args c G A cells slots d j M0) {pc : Nat} {lv : mL} {st : List mV} {M : mM} {x : Nat} {z : Int} (hd : decode (cOf j) pc = .ok (.iload x, 2)) (hv : lv x = some (vi z)) (h : mAb p l e R s m args below meth c QQ G A cells slots j M0 (pc + 2) lv (vi z :: st) M) : mAb p l e R s m args below meth c QQ G A cells slots j M0 pc lv st M := by
  intro okm hs okl oks ls H locs hl hP hS
  refine lv_iload CX.1 CX.2.1 hd (mLl_get hl hv (okl _ _ hv).2) ?_
  exact h okm hs okl (List.forall_mem_cons.mpr ⟨(okl _ _ hv).1, oks⟩) ls H locs hl hP hS
theorem ab_lload (CX : mCx p l R s m args c G A cells slots d j M0) {pc : Nat} {lv : mL} {st : List mV} {M : mM} {x : Nat} {z : Int} (hd : decode (cOf j) pc = .ok (.lload x, 2)) (hv : lv x = some (vl z)) (h : mAb p l e R s m args below meth c QQ G A cells slots j M0 (pc + 2) lv (vl z :: st) M) : mAb p l e R s m args below meth c QQ G A cells slots j M0 pc lv st M := by
  intro okm hs okl oks ls H locs hl hP hS
  refine lv_lload CX.1 CX.2.1 hd (mLl_get hl hv (okl _ _ hv).2) ?_
  exact h okm hs okl (List.forall_mem_cons.mpr ⟨(okl _ _ hv).1, oks⟩) ls H locs hl hP hS
theorem ab_aload (CX : mCx p l R s m args c G A cells slots d j M0) {pc : Nat} {lv : mL} {st : List mV} {M : mM} {x : Nat} {z : Nat} (hd : decode (cOf j) pc = .ok (.aload x, 2)) (hv : lv x = some (vr z)) (h : mAb p l e R s m args below meth c QQ G A cells slots j M0 (pc + 2) lv (vr z :: st) M) : mAb p l e R s m args below meth c QQ G A cells slots j M0 pc lv st M := by
  intro okm hs okl oks ls H locs hl hP hS
  have g := mLl_get hl hv (okl _ _ hv).2
  have h := h okm hs okl (List.forall_mem_cons.mpr ⟨(okl _ _ hv).1, oks⟩) ls H locs hl hP hS
  have e0 : cv G (vr z) = va_rf (al G z) := rfl
  rw [e0] at g
  rw [List.map_cons, e0] at h
  cases ha : al G z with
  | none =>
    rw [ha] at g h
    exact lv_aloadN CX.1 CX.2.1 hd g h
  | some a =>
    rw [ha] at g h
    exact lv_aload CX.1 CX.2.1 hd g h
theorem ab_istore (CX : mCx p l R s m args c G A cells slots d j M0) {pc : Nat} {lv : mL} {st : List mV} {M : mM} {x : Nat} {z : Int} (hd : decode (cOf j) pc = .ok (.istore x, 2)) (hx : x < nOf j) (h : mAb p l e R s m args below meth c QQ G A cells slots j M0 (pc + 2) (s1 lv x (vi z)) st M) : mAb p l e R s m args below meth c QQ G A cells slots j M0 pc lv (vi z :: st) M := by
  intro okm hs okl oks ls H locs hl hP hS
  refine lv_istore CX.1 CX.2.1 hd hl hx rfl (fun ls hl => ?_)
  exact h okm hs (okl_s1 okl hx (oks _ List.mem_cons_self)) (fun w hw => oks w (List.mem_cons_of_mem _ hw)) ls H locs (mLl_s1 (v := vi z) hl) hP hS
theorem ab_astore (CX : mCx p l R s m args c G A cells slots d j M0) {pc : Nat} {lv : mL} {st : List mV} {M : mM} {x : Nat} {z : Nat} (hd : decode (cOf j) pc = .ok (.astore x, 2)) (hx : x < nOf j) (h : mAb p l e R s m args below meth c QQ G A cells slots j M0 (pc + 2) (s1 lv x (vr z)) st M) : mAb p l e R s m args below meth c QQ G A cells slots j M0 pc lv (vr z :: st) M := by
  intro okm hs okl oks ls H locs hl hP hS
  have h2 := h okm hs (okl_s1 okl hx (oks _ List.mem_cons_self)) (fun w hw => oks w (List.mem_cons_of_mem _ hw))
  rw [List.map_cons, show cv G (vr z) = va_rf (al G z) from rfl]
  cases ha : al G z with
  | none => exact lv_astoreN CX.1 CX.2.1 hd hl hx rfl (fun ls hl => h2 ls H locs (mLl_s1 (v := vr z) (by rw [show cv G (vr z) = va_rf (al G z) from rfl, ha]; exact hl)) hP hS)
  | some a => exact lv_astore CX.1 CX.2.1 hd hl hx rfl (fun ls hl => h2 ls H locs (mLl_s1 (v := vr z) (by rw [show cv G (vr z) = va_rf (al G z) from rfl, ha]; exact hl)) hP hS)
theorem ab_lstore (CX : mCx p l R s m args c G A cells slots d j M0) {pc : Nat} {lv : mL} {st : List mV} {M : mM} {x : Nat} {z : Int} (hd : decode (cOf j) pc = .ok (.lstore x, 2)) (hx : x + 1 < nOf j) (h : mAb p l e R s m args below meth c QQ G A cells slots j M0 (pc + 2) (s2 lv x (vl z)) st M) : mAb p l e R s m args below meth c QQ G A cells slots j M0 pc lv (vl z :: st) M := by
  intro okm hs okl oks ls H locs hl hP hS
  refine lv_lstore CX.1 CX.2.1 hd hl hx rfl (fun ls hl => ?_)
  exact h okm hs (okl_s2 okl hx (oks _ List.mem_cons_self)) (fun w hw => oks w (List.mem_cons_of_mem _ hw)) ls H locs (mLl_s2 (v := vl z) hl) hP hS
theorem ab_iloadn (CX : mCx p l R s m args c G A cells slots d j M0) {pc : Nat} {lv : mL} {st : List mV} {M : mM} {x : Fin 4} {z : Int} (hd : decode (cOf j) pc = .ok (.iload_n x, 1)) (hv : lv (x : Nat) = some (vi z)) (h : mAb p l e R s m args below meth c QQ G A cells slots j M0 (pc + 1) lv (vi z :: st) M) : mAb p l e R s m args below meth c QQ G A cells slots j M0 pc lv st M := by
  intro okm hs okl oks ls H locs hl hP hS
  refine lv_iload_n CX.1 CX.2.1 hd rfl (mLl_get hl hv (okl _ _ hv).2) ?_
  exact h okm hs okl (List.forall_mem_cons.mpr ⟨(okl _ _ hv).1, oks⟩) ls H locs hl hP hS
theorem ab_lloadn (CX : mCx p l R s m args c G A cells slots d j M0) {pc : Nat} {lv : mL} {st : List mV} {M : mM} {x : Fin 4} {z : Int} (hd : decode (cOf j) pc = .ok (.lload_n x, 1)) (hv : lv (x : Nat) = some (vl z)) (h : mAb p l e R s m args below meth c QQ G A cells slots j M0 (pc + 1) lv (vl z :: st) M) : mAb p l e R s m args below meth c QQ G A cells slots j M0 pc lv st M := by
  intro okm hs okl oks ls H locs hl hP hS
  refine lv_lload_n CX.1 CX.2.1 hd rfl (mLl_get hl hv (okl _ _ hv).2) ?_
  exact h okm hs okl (List.forall_mem_cons.mpr ⟨(okl _ _ hv).1, oks⟩) ls H locs hl hP hS
theorem ab_aloadn (CX : mCx p l R s m args c G A cells slots d j M0) {pc : Nat} {lv : mL} {st : List mV} {M : mM} {x : Fin 4} {z : Nat} (hd : decode (cOf j) pc = .ok (.aload_n x, 1)) (hv : lv (x : Nat) = some (vr z)) (h : mAb p l e R s m args below meth c QQ G A cells slots j M0 (pc + 1) lv (vr z :: st) M) : mAb p l e R s m args below meth c QQ G A cells slots j M0 pc lv st M := by
  intro okm hs okl oks ls H locs hl hP hS
  have g := mLl_get hl hv (okl _ _ hv).2
  have h := h okm hs okl (List.forall_mem_cons.mpr ⟨(okl _ _ hv).1, oks⟩) ls H locs hl hP hS
  have e0 : cv G (vr z) = va_rf (al G z) := rfl
  rw [e0] at g
  rw [List.map_cons, e0] at h
  cases ha : al G z with
  | none =>
    rw [ha] at g h
    exact lv_aload_nN CX.1 CX.2.1 hd rfl g h
  | some a =>
    rw [ha] at g h
    exact lv_aload_n CX.1 CX.2.1 hd rfl g h
theorem ab_istoren (CX : mCx p l R s m args c G A cells slots d j M0) {pc : Nat} {lv : mL} {st : List mV} {M : mM} {x : Fin 4} {z : Int} (hd : decode (cOf j) pc = .ok (.istore_n x, 1)) (hx : (x : Nat) < nOf j) (h : mAb p l e R s m args below meth c QQ G A cells slots j M0 (pc + 1) (s1 lv (x : Nat) (vi z)) st M) : mAb p l e R s m args below meth c QQ G A cells slots j M0 pc lv (vi z :: st) M := by
  intro okm hs okl oks ls H locs hl hP hS
  refine lv_istore_n CX.1 CX.2.1 hd rfl hl hx rfl (fun ls hl => ?_)
  exact h okm hs (okl_s1 okl hx (oks _ List.mem_cons_self)) (fun w hw => oks w (List.mem_cons_of_mem _ hw)) ls H locs (mLl_s1 (v := vi z) hl) hP hS
theorem ab_astoren (CX : mCx p l R s m args c G A cells slots d j M0) {pc : Nat} {lv : mL} {st : List mV} {M : mM} {x : Fin 4} {z : Nat} (hd : decode (cOf j) pc = .ok (.astore_n x, 1)) (hx : (x : Nat) < nOf j) (h : mAb p l e R s m args below meth c QQ G A cells slots j M0 (pc + 1) (s1 lv (x : Nat) (vr z)) st M) : mAb p l e R s m args below meth c QQ G A cells slots j M0 pc lv (vr z :: st) M := by
  intro okm hs okl oks ls H locs hl hP hS
  have h2 := h okm hs (okl_s1 okl hx (oks _ List.mem_cons_self)) (fun w hw => oks w (List.mem_cons_of_mem _ hw))
  rw [List.map_cons, show cv G (vr z) = va_rf (al G z) from rfl]
  cases ha : al G z with
  | none => exact lv_astore_nN CX.1 CX.2.1 hd rfl hl hx rfl (fun ls hl => h2 ls H locs (mLl_s1 (v := vr z) (by rw [show cv G (vr z) = va_rf (al G z) from rfl, ha]; exact hl)) hP hS)
  | some a => exact lv_astore_n CX.1 CX.2.1 hd rfl hl hx rfl (fun ls hl => h2 ls H locs (mLl_s1 (v := vr z) (by rw [show cv G (vr z) = va_rf (al G z) from rfl, ha]; exact hl)) hP hS)
theorem ab_lstoren (CX : mCx p l R s m args c G A cells slots d j M0) {pc : Nat} {lv : mL} {st : List mV} {M : mM} {x : Fin 4} {z : Int} (hd : decode (cOf j) pc = .ok (.lstore_n x, 1)) (hx : (x : Nat) + 1 < nOf j) (h : mAb p l e R s m args below meth c QQ G A cells slots j M0 (pc + 1) (s2 lv (x : Nat) (vl z)) st M) : mAb p l e R s m args below meth c QQ G A cells slots j M0 pc lv (vl z :: st) M := by
  intro okm hs okl oks ls H locs hl hP hS
  refine lv_lstore_n CX.1 CX.2.1 hd rfl hl hx rfl (fun ls hl => ?_)
  exact h okm hs (okl_s2 okl hx (oks _ List.mem_cons_self)) (fun w hw => oks w (List.mem_cons_of_mem _ hw)) ls H locs (mLl_s2 (v := vl z) hl) hP hS
theorem ab_iinc (CX : mCx p l R s m args c G A cells slots d j M0) {pc : Nat} {lv : mL} {st : List mV} {M : mM} {x : Nat} {n z : Int} (hd : decode (cOf j) pc = .ok (.iinc x n, 3)) (hx : x < nOf j) (hv : lv x = some (vi z)) (h : mAb p l e R s m args below meth c QQ G A cells slots j M0 (pc + 3) (s1 lv x (vi (w32 (z + n)))) st M) : mAb p l e R s m args below meth c QQ G A cells slots j M0 pc lv st M := by
  intro okm hs okl oks ls H locs hl hP hS
  obtain ⟨k, hk⟩ := List.getElem?_of_mem (mLl_in (G := G) hv hx)
  refine lv_iinc CX.1 CX.2.1 hd hl hk (o_inc z n) hx rfl (fun ls hl => ?_)
  exact h okm hs (okl_s1 okl hx (w32_R _)) oks ls H locs (mLl_s1 (v := vi (w32 (z + n))) hl) hP hS
theorem ab_if_eq (CX : mCx p l R s m args c G A cells slots d j M0) {pc : Nat} {lv : mL} {st : List mV} {M : mM} {off : Int} {t : Nat} {x : Int} (hd : decode (cOf j) pc = .ok (.ifCond .eq off, 3)) (ht : (pc : Int) + off = (t : Int)) (h : xBr (x = 0) (mAb p l e R s m args below meth c QQ G A cells slots j M0) t (pc + 3) lv st M) : mAb p l e R s m args below meth c QQ G A cells slots j M0 pc lv (vi x :: st) M := by
  intro okm hs okl oks ls H locs hl hP hS
  unfold xBr at h
  refine lv_if_eq CX.1 CX.2.1 hd ht (fun g => ?_) (fun g => ?_)
  · rw [if_pos ((o_eq (oks _ List.mem_cons_self) R32_0).mp g)] at h
    exact h okm hs okl (fun w hw => oks w (List.mem_cons_of_mem _ hw)) ls H locs hl hP hS
  · rw [if_neg (fun q => g ((o_eq (oks _ List.mem_cons_self) R32_0).mpr q))] at h
    exact h okm hs okl (fun w hw => oks w (List.mem_cons_of_mem _ hw)) ls H locs hl hP hS
theorem ab_ic_eq (CX : mCx p l R s m args c G A cells slots d j M0) {pc : Nat} {lv : mL} {st : List mV} {M : mM} {off : Int} {t : Nat} {x y : Int} (hd : decode (cOf j) pc = .ok (.if_icmp .eq off, 3)) (ht : (pc : Int) + off = (t : Int)) (h : xBr (x = y) (mAb p l e R s m args below meth c QQ G A cells slots j M0) t (pc + 3) lv st M) : mAb p l e R s m args below meth c QQ G A cells slots j M0 pc lv (vi y :: vi x :: st) M := by
  intro okm hs okl oks ls H locs hl hP hS
  unfold xBr at h
  refine lv_icmp_eq CX.1 CX.2.1 hd ht (fun g => ?_) (fun g => ?_)
  · rw [if_pos ((o_eq (oks _ (List.mem_cons_of_mem _ List.mem_cons_self)) (oks _ List.mem_cons_self)).mp g)] at h
    exact h okm hs okl (fun w hw => oks w (List.mem_cons_of_mem _ (List.mem_cons_of_mem _ hw))) ls H locs hl hP hS
  · rw [if_neg (fun q => g ((o_eq (oks _ (List.mem_cons_of_mem _ List.mem_cons_self)) (oks _ List.mem_cons_self)).mpr q))] at h
    exact h okm hs okl (fun w hw => oks w (List.mem_cons_of_mem _ (List.mem_cons_of_mem _ hw))) ls H locs hl hP hS
theorem ab_if_ne (CX : mCx p l R s m args c G A cells slots d j M0) {pc : Nat} {lv : mL} {st : List mV} {M : mM} {off : Int} {t : Nat} {x : Int} (hd : decode (cOf j) pc = .ok (.ifCond .ne off, 3)) (ht : (pc : Int) + off = (t : Int)) (h : xBr (x ≠ 0) (mAb p l e R s m args below meth c QQ G A cells slots j M0) t (pc + 3) lv st M) : mAb p l e R s m args below meth c QQ G A cells slots j M0 pc lv (vi x :: st) M := by
  intro okm hs okl oks ls H locs hl hP hS
  unfold xBr at h
  refine lv_if_ne CX.1 CX.2.1 hd ht (fun g => ?_) (fun g => ?_)
  · rw [if_pos (fun q => g ((o_eq (oks _ List.mem_cons_self) R32_0).mpr q))] at h
    exact h okm hs okl (fun w hw => oks w (List.mem_cons_of_mem _ hw)) ls H locs hl hP hS
  · rw [if_neg (not_not_intro ((o_eq (oks _ List.mem_cons_self) R32_0).mp g))] at h
    exact h okm hs okl (fun w hw => oks w (List.mem_cons_of_mem _ hw)) ls H locs hl hP hS
theorem ab_ic_ne (CX : mCx p l R s m args c G A cells slots d j M0) {pc : Nat} {lv : mL} {st : List mV} {M : mM} {off : Int} {t : Nat} {x y : Int} (hd : decode (cOf j) pc = .ok (.if_icmp .ne off, 3)) (ht : (pc : Int) + off = (t : Int)) (h : xBr (x ≠ y) (mAb p l e R s m args below meth c QQ G A cells slots j M0) t (pc + 3) lv st M) : mAb p l e R s m args below meth c QQ G A cells slots j M0 pc lv (vi y :: vi x :: st) M := by
  intro okm hs okl oks ls H locs hl hP hS
  unfold xBr at h
  refine lv_icmp_ne CX.1 CX.2.1 hd ht (fun g => ?_) (fun g => ?_)
  · rw [if_pos (fun q => g ((o_eq (oks _ (List.mem_cons_of_mem _ List.mem_cons_self)) (oks _ List.mem_cons_self)).mpr q))] at h
    exact h okm hs okl (fun w hw => oks w (List.mem_cons_of_mem _ (List.mem_cons_of_mem _ hw))) ls H locs hl hP hS
  · rw [if_neg (not_not_intro ((o_eq (oks _ (List.mem_cons_of_mem _ List.mem_cons_self)) (oks _ List.mem_cons_self)).mp g))] at h
    exact h okm hs okl (fun w hw => oks w (List.mem_cons_of_mem _ (List.mem_cons_of_mem _ hw))) ls H locs hl hP hS
theorem ab_if_lt (CX : mCx p l R s m args c G A cells slots d j M0) {pc : Nat} {lv : mL} {st : List mV} {M : mM} {off : Int} {t : Nat} {x : Int} (hd : decode (cOf j) pc = .ok (.ifCond .lt off, 3)) (ht : (pc : Int) + off = (t : Int)) (h : xBr (x < 0) (mAb p l e R s m args below meth c QQ G A cells slots j M0) t (pc + 3) lv st M) : mAb p l e R s m args below meth c QQ G A cells slots j M0 pc lv (vi x :: st) M := by
  intro okm hs okl oks ls H locs hl hP hS
  unfold xBr at h
  refine lv_if_lt CX.1 CX.2.1 hd ht (fun g => ?_) (fun g => ?_)
  · rw [if_pos ((o_lt (oks _ List.mem_cons_self) R32_0).mp g)] at h
    exact h okm hs okl (fun w hw => oks w (List.mem_cons_of_mem _ hw)) ls H locs hl hP hS
  · rw [if_neg (fun q => g ((o_lt (oks _ List.mem_cons_self) R32_0).mpr q))] at h
    exact h okm hs okl (fun w hw => oks w (List.mem_cons_of_mem _ hw)) ls H locs hl hP hS
theorem ab_ic_lt (CX : mCx p l R s m args c G A cells slots d j M0) {pc : Nat} {lv : mL} {st : List mV} {M : mM} {off : Int} {t : Nat} {x y : Int} (hd : decode (cOf j) pc = .ok (.if_icmp .lt off, 3)) (ht : (pc : Int) + off = (t : Int)) (h : xBr (x < y) (mAb p l e R s m args below meth c QQ G A cells slots j M0) t (pc + 3) lv st M) : mAb p l e R s m args below meth c QQ G A cells slots j M0 pc lv (vi y :: vi x :: st) M := by
  intro okm hs okl oks ls H locs hl hP hS
  unfold xBr at h
  refine lv_icmp_lt CX.1 CX.2.1 hd ht (fun g => ?_) (fun g => ?_)
  · rw [if_pos ((o_lt (oks _ (List.mem_cons_of_mem _ List.mem_cons_self)) (oks _ List.mem_cons_self)).mp g)] at h
    exact h okm hs okl (fun w hw => oks w (List.mem_cons_of_mem _ (List.mem_cons_of_mem _ hw))) ls H locs hl hP hS
  · rw [if_neg (fun q => g ((o_lt (oks _ (List.mem_cons_of_mem _ List.mem_cons_self)) (oks _ List.mem_cons_self)).mpr q))] at h
    exact h okm hs okl (fun w hw => oks w (List.mem_cons_of_mem _ (List.mem_cons_of_mem _ hw))) ls H locs hl hP hS
theorem ab_if_ge (CX : mCx p l R s m args c G A cells slots d j M0) {pc : Nat} {lv : mL} {st : List mV} {M : mM} {off : Int} {t : Nat} {x : Int} (hd : decode (cOf j) pc = .ok (.ifCond .ge off, 3)) (ht : (pc : Int) + off = (t : Int)) (h : xBr (0 ≤ x) (mAb p l e R s m args below meth c QQ G A cells slots j M0) t (pc + 3) lv st M) : mAb p l e R s m args below meth c QQ G A cells slots j M0 pc lv (vi x :: st) M := by
  intro okm hs okl oks ls H locs hl hP hS
  unfold xBr at h
  refine lv_if_ge CX.1 CX.2.1 hd ht (fun g => ?_) (fun g => ?_)
  · rw [if_pos ((o_le R32_0 (oks _ List.mem_cons_self)).mp g)] at h
    exact h okm hs okl (fun w hw => oks w (List.mem_cons_of_mem _ hw)) ls H locs hl hP hS
  · rw [if_neg (fun q => g ((o_le R32_0 (oks _ List.mem_cons_self)).mpr q))] at h
    exact h okm hs okl (fun w hw => oks w (List.mem_cons_of_mem _ hw)) ls H locs hl hP hS
theorem ab_ic_ge (CX : mCx p l R s m args c G A cells slots d j M0) {pc : Nat} {lv : mL} {st : List mV} {M : mM} {off : Int} {t : Nat} {x y : Int} (hd : decode (cOf j) pc = .ok (.if_icmp .ge off, 3)) (ht : (pc : Int) + off = (t : Int)) (h : xBr (y ≤ x) (mAb p l e R s m args below meth c QQ G A cells slots j M0) t (pc + 3) lv st M) : mAb p l e R s m args below meth c QQ G A cells slots j M0 pc lv (vi y :: vi x :: st) M := by
  intro okm hs okl oks ls H locs hl hP hS
  unfold xBr at h
  refine lv_icmp_ge CX.1 CX.2.1 hd ht (fun g => ?_) (fun g => ?_)
  · rw [if_pos ((o_le (oks _ List.mem_cons_self) (oks _ (List.mem_cons_of_mem _ List.mem_cons_self))).mp g)] at h
    exact h okm hs okl (fun w hw => oks w (List.mem_cons_of_mem _ (List.mem_cons_of_mem _ hw))) ls H locs hl hP hS
  · rw [if_neg (fun q => g ((o_le (oks _ List.mem_cons_self) (oks _ (List.mem_cons_of_mem _ List.mem_cons_self))).mpr q))] at h
    exact h okm hs okl (fun w hw => oks w (List.mem_cons_of_mem _ (List.mem_cons_of_mem _ hw))) ls H locs hl hP hS
theorem ab_if_gt (CX : mCx p l R s m args c G A cells slots d j M0) {pc : Nat} {lv : mL} {st : List mV} {M : mM} {off : Int} {t : Nat} {x : Int} (hd : decode (cOf j) pc = .ok (.ifCond .gt off, 3)) (ht : (pc : Int) + off = (t : Int)) (h : xBr (0 < x) (mAb p l e R s m args below meth c QQ G A cells slots j M0) t (pc + 3) lv st M) : mAb p l e R s m args below meth c QQ G A cells slots j M0 pc lv (vi x :: st) M := by
  intro okm hs okl oks ls H locs hl hP hS
  unfold xBr at h
  refine lv_if_gt CX.1 CX.2.1 hd ht (fun g => ?_) (fun g => ?_)
  · rw [if_pos ((o_lt R32_0 (oks _ List.mem_cons_self)).mp g)] at h
    exact h okm hs okl (fun w hw => oks w (List.mem_cons_of_mem _ hw)) ls H locs hl hP hS
  · rw [if_neg (fun q => g ((o_lt R32_0 (oks _ List.mem_cons_self)).mpr q))] at h
    exact h okm hs okl (fun w hw => oks w (List.mem_cons_of_mem _ hw)) ls H locs hl hP hS
theorem ab_ic_gt (CX : mCx p l R s m args c G A cells slots d j M0) {pc : Nat} {lv : mL} {st : List mV} {M : mM} {off : Int} {t : Nat} {x y : Int} (hd : decode (cOf j) pc = .ok (.if_icmp .gt off, 3)) (ht : (pc : Int) + off = (t : Int)) (h : xBr (y < x) (mAb p l e R s m args below meth c QQ G A cells slots j M0) t (pc + 3) lv st M) : mAb p l e R s m args below meth c QQ G A cells slots j M0 pc lv (vi y :: vi x :: st) M := by
  intro okm hs okl oks ls H locs hl hP hS
  unfold xBr at h
  refine lv_icmp_gt CX.1 CX.2.1 hd ht (fun g => ?_) (fun g => ?_)
  · rw [if_pos ((o_lt (oks _ List.mem_cons_self) (oks _ (List.mem_cons_of_mem _ List.mem_cons_self))).mp g)] at h
    exact h okm hs okl (fun w hw => oks w (List.mem_cons_of_mem _ (List.mem_cons_of_mem _ hw))) ls H locs hl hP hS
  · rw [if_neg (fun q => g ((o_lt (oks _ List.mem_cons_self) (oks _ (List.mem_cons_of_mem _ List.mem_cons_self))).mpr q))] at h
    exact h okm hs okl (fun w hw => oks w (List.mem_cons_of_mem _ (List.mem_cons_of_mem _ hw))) ls H locs hl hP hS
theorem ab_if_le (CX : mCx p l R s m args c G A cells slots d j M0) {pc : Nat} {lv : mL} {st : List mV} {M : mM} {off : Int} {t : Nat} {x : Int} (hd : decode (cOf j) pc = .ok (.ifCond .le off, 3)) (ht : (pc : Int) + off = (t : Int)) (h : xBr (x ≤ 0) (mAb p l e R s m args below meth c QQ G A cells slots j M0) t (pc + 3) lv st M) : mAb p l e R s m args below meth c QQ G A cells slots j M0 pc lv (vi x :: st) M := by
  intro okm hs okl oks ls H locs hl hP hS
  unfold xBr at h
  refine lv_if_le CX.1 CX.2.1 hd ht (fun g => ?_) (fun g => ?_)
  · rw [if_pos ((o_le (oks _ List.mem_cons_self) R32_0).mp g)] at h
    exact h okm hs okl (fun w hw => oks w (List.mem_cons_of_mem _ hw)) ls H locs hl hP hS
  · rw [if_neg (fun q => g ((o_le (oks _ List.mem_cons_self) R32_0).mpr q))] at h
    exact h okm hs okl (fun w hw => oks w (List.mem_cons_of_mem _ hw)) ls H locs hl hP hS
theorem ab_ic_le (CX : mCx p l R s m args c G A cells slots d j M0) {pc : Nat} {lv : mL} {st : List mV} {M : mM} {off : Int} {t : Nat} {x y : Int} (hd : decode (cOf j) pc = .ok (.if_icmp .le off, 3)) (ht : (pc : Int) + off = (t : Int)) (h : xBr (x ≤ y) (mAb p l e R s m args below meth c QQ G A cells slots j M0) t (pc + 3) lv st M) : mAb p l e R s m args below meth c QQ G A cells slots j M0 pc lv (vi y :: vi x :: st) M := by
  intro okm hs okl oks ls H locs hl hP hS
  unfold xBr at h
  refine lv_icmp_le CX.1 CX.2.1 hd ht (fun g => ?_) (fun g => ?_)
  · rw [if_pos ((o_le (oks _ (List.mem_cons_of_mem _ List.mem_cons_self)) (oks _ List.mem_cons_self)).mp g)] at h
    exact h okm hs okl (fun w hw => oks w (List.mem_cons_of_mem _ (List.mem_cons_of_mem _ hw))) ls H locs hl hP hS
  · rw [if_neg (fun q => g ((o_le (oks _ (List.mem_cons_of_mem _ List.mem_cons_self)) (oks _ List.mem_cons_self)).mpr q))] at h
    exact h okm hs okl (fun w hw => oks w (List.mem_cons_of_mem _ (List.mem_cons_of_mem _ hw))) ls H locs hl hP hS
theorem ab_goto (CX : mCx p l R s m args c G A cells slots d j M0) {pc : Nat} {lv : mL} {st : List mV} {M : mM} {off : Int} {t : Nat} (hd : decode (cOf j) pc = .ok (.goto off, 3)) (ht : (pc : Int) + off = (t : Int)) (h : mAb p l e R s m args below meth c QQ G A cells slots j M0 t lv st M) : mAb p l e R s m args below meth c QQ G A cells slots j M0 pc lv st M := by
  intro okm hs okl oks ls H locs hl hP hS
  exact lv_goto CX.1 CX.2.1 hd ht (h okm hs okl oks ls H locs hl hP hS)
theorem ab_ifnull (CX : mCx p l R s m args c G A cells slots d j M0) {pc : Nat} {lv : mL} {st : List mV} {M : mM} {off : Int} {t k : Nat} (hd : decode (cOf j) pc = .ok (.ifnull off, 3)) (ht : (pc : Int) + off = (t : Int)) (hk : k ≠ 151) (h : xBr (k = 0) (mAb p l e R s m args below meth c QQ G A cells slots j M0) t (pc + 3) lv st M) : mAb p l e R s m args below meth c QQ G A cells slots j M0 pc lv (vr k :: st) M := by
  intro okm hs okl oks ls H locs hl hP hS
  unfold xBr at h
  by_cases g : k = 0
  · rw [if_pos g] at h
    subst g
    exact lv_ifnullN CX.1 CX.2.1 hd ht (h okm hs okl (fun w hw => oks w (List.mem_cons_of_mem _ hw)) ls H locs hl hP hS)
  · rw [if_neg g] at h
    have e0 : cv G (vr k) = .ref (G.2.2.1 k) := by show va_rf (al G k) = _; unfold al; rw [if_neg g, if_neg hk]; rfl
    rw [List.map_cons, e0]
    exact lv_ifnull CX.1 CX.2.1 hd (h okm hs okl (fun w hw => oks w (List.mem_cons_of_mem _ hw)) ls H locs hl hP hS)
theorem ab_ifnonnull (CX : mCx p l R s m args c G A cells slots d j M0) {pc : Nat} {lv : mL} {st : List mV} {M : mM} {off : Int} {t k : Nat} (hd : decode (cOf j) pc = .ok (.ifnonnull off, 3)) (ht : (pc : Int) + off = (t : Int)) (hk : k ≠ 151) (h : xBr (k ≠ 0) (mAb p l e R s m args below meth c QQ G A cells slots j M0) t (pc + 3) lv st M) : mAb p l e R s m args below meth c QQ G A cells slots j M0 pc lv (vr k :: st) M := by
  intro okm hs okl oks ls H locs hl hP hS
  unfold xBr at h
  by_cases g : k = 0
  · rw [if_neg (not_not_intro g)] at h
    subst g
    exact lv_ifnonnullN CX.1 CX.2.1 hd (h okm hs okl (fun w hw => oks w (List.mem_cons_of_mem _ hw)) ls H locs hl hP hS)
  · rw [if_pos g] at h
    have e0 : cv G (vr k) = .ref (G.2.2.1 k) := by show va_rf (al G k) = _; unfold al; rw [if_neg g, if_neg hk]; rfl
    rw [List.map_cons, e0]
    exact lv_ifnonnull CX.1 CX.2.1 hd ht (h okm hs okl (fun w hw => oks w (List.mem_cons_of_mem _ hw)) ls H locs hl hP hS)
end Rows
