/-! constructors: a contract out of a walk -/
theorem kMet {l : Launch} {D : va_G} {cc : Nat → ClassId} {y : MethodName} {cd : ByteArray} {nL o mc ms a : Nat} {rm : Room} {As : List Value} {E0 : va_E} {Wf : (Nat → Nat) → va_W} (lv0 : List (Nat × Value)) (hy : plainName y.cls = true) (hyo : y.cls = clsS o) (hy1 : y.name = "<init>") (hlv : lv_args 0 (.ref a :: As) = lv0) (hnl : (lg_sl (.ref a :: As)).length ≤ nL)
    (h : ∀ (p : Program) (e : Env) (s : State) (m : MethodId) (args : Array Value) (below : List Frame) (meth : Method) (c : Code) (A : Nat → Prop) (QQ : State → Prop), kCx p s m args c D cc A cd o nL → meth.name = "<init>" → (∀ (pc : Nat) (lv : List (Nat × Value)) (u : Nat → Nat) (cells slots : Nat), cells ≤ mc → slots ≤ ms → decode cd pc = .ok (.return_, 1) → kAb p l e (headSpec (Cond.code y cd nL none :: gw) rm).room s m args below meth c QQ D A nL pc lv [] (Wf u) cells slots) → kAb p l e (headSpec (Cond.code y cd nL none :: gw) rm).room s m args below meth c QQ D A nL 0 lv0 [] [(a, E0)] 0 0) (sz : Nat) : Met l y (Cond.code y cd nL none :: gw) rm (kPc D cc As a E0 sz) (kQc D a E0 Wf sz) mc ms (va_A [(a, E0)] sz) := by
  refine Met.ofW (cc := cd) (maxL := nL) (ret := none) hy rfl ?_
  intro p e s m args below meth c s₁ B hml hv
  obtain ⟨rfl, hsz, hP, hK, hN, hD0⟩ := hv
  have hts := atoms_spec (ws := Cond.code y cd nL none :: gw) B.pre
  have hown : s.vm.findClass y.cls = some m.cls := findClass_of_methodNamed B.named
  have hlocks := B.notSynchronized
  have hin : meth.name = y.name := (name_of_methodNamed B.named B.method).1
  have hr := B.returns
  rw [hy1] at hin
  rw [hyo] at hown
  subst hsz
  have hD := hD0.self (sz := s.heap.size)
  have hA : ∀ q : Nat, s.heap.size ≤ q → va_A [(a, E0)] s.heap.size q := fun q h => Or.inr h
  have hl := lv_entry (.ref a :: As) (n := nL) hnl
  rw [hlv] at hl
  rw [lg_entry_eq]
  refine h p e s m _ below meth c (va_A [(a, E0)] s.heap.size) _ ⟨B.exec, B.bytes, hml, hown, fun w hw => hts w (List.mem_cons_of_mem _ hw), hK, hA, hN⟩ hin (fun pc lv u cells slots h1 h2 hd ls H locs hls hP2 hD2 hS2 => ?_) _ s.heap [] hl hP hD va_S.rf
  refine W.widen (k := mc) (n := ms) h1 h2 ?_
  exact W.vret B.exec B.bytes hr (fun t ht hW => ⟨⟨u, rfl, trivial, by rw [ht]; exact hP2, hD2⟩, hS2.F ht⟩) hS2.2.2 hd hlocks
theorem a0_int {n : Nat} : ∀ cA : ClassId, vp_cell cA (n, .inl (fun _ => 0)) = arrV cA n (fun _ => defaultValue .int) := fun _ => rfl
theorem a0_byte {n : Nat} : ∀ cA : ClassId, vp_cell cA (n, .inl (fun _ => 0)) = arrV cA n (fun _ => defaultValue .byte) := fun _ => rfl
theorem a0_boolean {n : Nat} : ∀ cA : ClassId, vp_cell cA (n, .inl (fun _ => 0)) = arrV cA n (fun _ => defaultValue .boolean) := fun _ => rfl
theorem a0_long {n : Nat} : ∀ cA : ClassId, vp_cell cA (n, .inr (.inl (fun _ => 0))) = arrV cA n (fun _ => defaultValue .long) := fun _ => rfl
