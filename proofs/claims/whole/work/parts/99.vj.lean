/-! the claim, from the law's entry: whole_start -/
def R_law : String := "HummingBridgesLaw"
def lw_P (b : Addr) (xs : List Int32) (args : Array Value) (s : State) : Prop := args = #[.ref b] ∧ s.IntsAt b xs ∧ xs.length ≤ 3072 ∧ (Jvm.Cond.and given_1 narrow_1).before args s = true
def lw_Q (_ : Array Value) (s : State) (o : Outcome) (t : State) : Prop := o = .returned (some (.int 1)) ∧ Framed s o t [] 600000 7302250
def lw_Z (below : List Frame) (a : Array Value) (s : State) : State → Prop := fun t => ∃ o, t.status = .running ∧ Ended t below o ∧ lw_Q a s o t
/-- the law's own end, with 1 on the stack, nothing written that was there before, its room as the claim has it -/
theorem lw_ret {p : Program} {l : Launch} {e : Env} {s : State} {m : MethodId} {below : List Frame} {meth : Method} {c : Code} {b : Nat} (hx : p.tables.exec = Jvm.exec) (hb : c.code = code) (hr : meth.sig.returnType = ret) (hlocks : meth.locks = false) {pc : Nat} {H : Heap} {ls : Array Slot} (hdg : decode code pc = .ok (.ireturn, 1)) : W p l e room_1 s m #[Value.ref b] below meth c H [] 600000 7302250 (lw_Z below #[Value.ref b] s) (F0 m pc ls [.int 1]) := by
  intro T hT X
  obtain ⟨fs, hret, hrun, hended, hW, hframe⟩ := X.leave (v := some (.int 1)) (hlocks := hlocks) (fun h => by rw [hr] at h; cases h)
  have hmeth' : T.vm.method? m = some meth := X.method'
  refine ⟨T.setFrames fs, ?_, .returned (some (.int 1)), hrun, hended, rfl, ⟨_, rfl⟩, hW, hframe⟩
  jvm_step X.here [X.here.top, hx, hb, hdg, hmeth', hr, ret, narrow_b1]
  (try refine ⟨rfl, ?_⟩); (try refine ⟨rfl, ?_⟩)
  first | (intro acts; rw [hret _ acts rfl rfl rfl]) | rw [hret _ _ rfl rfl rfl]
  exact Steps.refl _
/-- what holds at the law's entry: the machine, the code, the tables' words (any of lw_tbl by 'hts w (by decide +kernel)'), the script of L ints xs at the cell b, what the Statement gives of the start (any of its parts by flat_of_before) -/
def lw_At (p : Program) (s : State) (m : MethodId) (meth : Method) (c : Code) (b L : Nat) (xs : Nat → Int32) : Prop :=
  p.tables.exec = Jvm.exec ∧ c.code = code ∧ meth.sig.returnType = ret ∧ c.maxLocals = 4 ∧ s.vm.findClass R_law = some m.cls ∧ (∀ w ∈ lw_tbl, w.before #[Value.ref b] s = true) ∧ va_X b L xs s s.heap ∧ b < s.heap.size ∧ meth.locks = false ∧ (Jvm.Cond.and given_1 narrow_1).before #[Value.ref b] s = true
theorem stS_R {L : Nat} {xs : Nat → Int32} (hL : L ≤ 3072) : ∀ i, R32 (stS L xs i) := by
  intro i
  unfold stS
  split
  · unfold R32; omega
  · exact ⟨Int32.le_toInt _, Int32.toInt_lt _⟩
def lw_lv : mL := fun i => if i = 0 then some (vr 152) else if i = 1 then some (vr 1) else if i = 2 then some (vr 97) else if i = 3 then some (vi 0) else none
theorem lw_lv_ok : ∀ i v, lw_lv i = some v → okV v ∧ i < nOf 285 := by
  intro i v h
  have e4 : nOf 285 = 4 := by decide +kernel
  rw [e4]
  unfold lw_lv at h
  split at h
  · cases h; exact ⟨trivial, by omega⟩
  · split at h
    · cases h; exact ⟨trivial, by omega⟩
    · split at h
      · cases h; exact ⟨trivial, by omega⟩
      · split at h
        · cases h; exact ⟨(by show R32 0; unfold R32; omega), by omega⟩
        · cases h
theorem lw_lv_has {dC : Nat → ClassId} {dI : Nat → Nat → Nat} {cc : Nat → ClassId} {r : Option Nat} {T : Nat → Nat} {b q1 q2 : Nat} {u1 u2 : Nat → Nat} {ls : Array Slot} (hl : lv_has ls 4 [(3, .int 0), (2, .ref q2), (1, .ref q1), (0, .ref b)]) : lv_has ls (nOf 285) (mLl (G0 dC dI cc r T b q1 q2 u1 u2) lw_lv (nOf 285)) := by
  have e4 : nOf 285 = 4 := by decide +kernel
  rw [e4]
  exact lv_sub hl [3, 2, 1, 0] rfl
/-- YOUR PART: from the entry, for every script of at most 3072 ints, the law comes to its end with true ('hflags': the launch's flags, for a law that throws: no stack traces) -/
theorem whole_start {p : Program} {e : Env} {s : State} {m : MethodId} {below : List Frame} {meth : Method} {c : Code} (l : Launch) (hflags : l.flags = flags0) {b L : Nat} {xs : Nat → Int32} (hL : L ≤ 3072) (C0 : lw_At p s m meth c b L xs) : W p l e room_1 s m #[Value.ref b] below meth c s.heap [] 0 0 (lw_Z below #[Value.ref b] s) (entryFrame m ([Value.ref b] : List Value).toArray 4) := by
  obtain ⟨hx, hb, hr, hml, hown, hts, hX, hbl, hlocks, hgv⟩ := id C0
  obtain ⟨dC, dI, cc, hK, hNW⟩ := st_K hts
  obtain ⟨T, r, hW⟩ := st_wSt (A := fun q : Nat => s.heap.size ≤ q) hts hgv (fun a h => Nat.not_le.mpr h) hX hbl
  have hgw : ∀ w ∈ gw, w.before #[Value.ref b] s = true := fun w hw => hts w (List.mem_filter.mp hw).1
  have CX : kCx p s m #[Value.ref b] c (dC, dI) cc (fun q : Nat => s.heap.size ≤ q) (cOf 285) 13 4 := ⟨hx, hb, hml, hown, hgw, hK, fun _ h => h, hNW⟩
  have hl := lv_entry ([.ref b]) (n := 4) (Nat.le_of_ble_eq_true rfl)
  rw [lg_entry_eq]
  generalize (lg_sl ([.ref b]) ++ List.replicate (4 - (lg_sl ([.ref b])).length) Slot.unset).toArray = ls at hl ⊢
  have hl : lv_has ls 4 [(0, .ref b)] := hl
  refine lw_begin CX ⟨rfl, rfl, rfl, rfl⟩ (fun q1 q2 u1 u2 => ?_) ls s.heap [] hl (fun k q h => by simp at h) ⟨fun i j p q h => by simp at h, fun k q h => by simp at h⟩ va_S.rf
  intro ls H locs hl hP hD hS
  obtain ⟨hP, hD⟩ := wP_0 (r := r) (T := T) (b := b) (S := stS L xs) hP hD
  obtain ⟨hI, hA⟩ := wI_0 hD
  have hJ : J (stS L xs) (m0 (stS L xs)) (fun _ _ => none) := J_0
  have hKS : KS (stS L xs) (m0 (stS L xs)) := hJ.2.2.2.2.2.2.1
  have hR : room_1.frames = 2048 ∧ room_1.locals = 84000 ∧ room_1.cells = 600000 ∧ room_1.slots = 7302250 := ⟨rfl, rfl, rfl, rfl⟩
  have CX2 : mCx p l room_1 s m #[Value.ref b] c (G0 dC dI cc r T b q1 q2 u1 u2) (fun q : Nat => s.heap.size ≤ q) 141 35058 (100 + 40) 285 (m0 (stS L xs)) := by
    refine ⟨hx, hb, hml.trans (by decide +kernel), hown, hgw, hK, hW _ _ (fun k k1 k2 => ?_) rfl rfl hKS, hI, hA, ⟨by omega, by omega, by omega, by omega⟩, mMet hI _⟩
    show adF q1 q2 u1 u2 T b k = T k
    unfold adF
    rw [if_neg (by omega), if_neg (by omega)]
  refine law_loop CX2 hKS.1 (stS_R hL) ⟨by unfold stS; rw [if_pos rfl]; omega, by unfold stS; rw [if_pos rfl]; omega⟩ (fun lv M => ?_) 3072 0 (m0 (stS L xs)) lw_lv (fun _ _ => none) (by omega) (by omega) (by unfold stS; rw [if_pos rfl]; omega) hJ rfl rfl rfl rfl (okM_0 (stS_R hL)) (fun _ _ => rfl) lw_lv_ok (fun v hv => absurd hv List.not_mem_nil) ls H locs (lw_lv_has hl) hP hS
  refine ab_iconst CX2 (show decode (cOf 285) 1438 = .ok (.iconst 1, 1) by decide +kernel) ?_
  intro okm hs okl oks ls H locs hl hP hS
  refine va_forget (fun q hq => hS.2.2 q hq) ?_
  refine W.widen (k := 600000) (n := 7302250) (by omega) (by omega) ?_
  have e : ([vi (w32 1)] : List mV).map (cv (G0 dC dI cc r T b q1 q2 u1 u2)) = [.int 1] := rfl
  rw [e]
  exact lw_ret hx hb hr hlocks (show decode (cOf 285) 1439 = .ok (.ireturn, 1) by decide +kernel)
