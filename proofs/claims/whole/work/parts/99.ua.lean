/-! constructors: rows over a world as a list -/
def NWs (U : State) : Prop := (∀ a i x h, Cond.methodLinkNest a i x h ∈ lw_tbl → va_Nw (.methodLinkNest a i x h) U) ∧ va_AO "HummingBridges$Score" U
abbrev tysA (cc : Nat → ClassId) : List (ClassId × FieldType) := [(cc 2, .int), (cc 3, .byte), (cc 4, .long), (cc 5, .boolean), (cc 6, .object "HummingBridges$Score")]
def kCx (p : Program) (s : State) (m : MethodId) (args : Array Value) (c : Code) (D : va_G) (cc : Nat → ClassId) (A : Nat → Prop) (cd : ByteArray) (o nL : Nat) : Prop :=
  p.tables.exec = Jvm.exec ∧ c.code = cd ∧ c.maxLocals = nL ∧ s.vm.findClass (clsS o) = some m.cls ∧ (∀ w ∈ gw, w.before args s = true) ∧ va_K D vwCl (tysA cc) s ∧ (∀ q, s.heap.size ≤ q → A q) ∧ NWs s
def kAb (p : Program) (l : Launch) (e : Env) (R : Room) (s : State) (m : MethodId) (args : Array Value) (below : List Frame) (meth : Method) (c : Code) (QQ : State → Prop) (D : va_G) (A : Nat → Prop) (nL : Nat) (pc : Nat) (lv : List (Nat × Value)) (st : List Value) (W0 : va_W) (cells slots : Nat) : Prop :=
  ∀ (ls : Array Slot) (H : Heap) (locs : List Loc), lv_has ls nL lv → va_P D vwCl W0 H → va_D A W0 → va_S A s.heap H locs → W p l e R s m args below meth c H locs cells slots QQ (F0 m pc ls st)
theorem ra_u {U : State} {cA cB : ClassId} {ty : FieldType} (h1 : va_RA U cA ty) (h2 : va_RA U cB ty) : cA = cB := by
  cases ty with
  | object C =>
    obtain ⟨_, _, _, _, _, h4⟩ := h1
    obtain ⟨_, _, _, _, _, g4⟩ := h2
    exact Option.some.inj (h4.symm.trans g4)
  | _ => exact Option.some.inj (Eq.trans (Eq.symm h1) h2)
section Ctor
variable {p : Program} {l : Launch} {e : Env} {R : Room} {s : State} {m : MethodId} {args : Array Value} {below : List Frame} {meth : Method} {c : Code} {QQ : State → Prop} {D : va_G} {cc : Nat → ClassId} {A : Nat → Prop} {cells slots : Nat} {cd : ByteArray} {o nL : Nat} {pc : Nat} {lv : List (Nat × Value)} {st : List Value} {W0 : va_W}
theorem kb_aload (CX : kCx p s m args c D cc A cd o nL) {k : Fin 4} {i x : Nat} (hd : decode cd pc = .ok (.aload_n k, 1)) (hi : (k : Nat) = i) (j : Nat) (hl : lv[j]? = some (i, .ref x)) (h : kAb p l e R s m args below meth c QQ D A nL (pc + 1) lv (.ref x :: st) W0 cells slots) : kAb p l e R s m args below meth c QQ D A nL pc lv st W0 cells slots :=
  fun ls H locs hls hP hD hS => lv_aload_n CX.1 CX.2.1 hd hi (lv_at hls j hl) (h ls H locs hls hP hD hS)
theorem kb_iconst (CX : kCx p s m args c D cc A cd o nL) {n : Int} {v : Int32} (hd : decode cd pc = .ok (.iconst n, 1)) (hv : Int32.ofInt n = v) (h : kAb p l e R s m args below meth c QQ D A nL (pc + 1) lv (.int v :: st) W0 cells slots) : kAb p l e R s m args below meth c QQ D A nL pc lv st W0 cells slots :=
  fun ls H locs hls hP hD hS => lv_iconst CX.1 CX.2.1 hd hv (h ls H locs hls hP hD hS)
theorem kb_bipush (CX : kCx p s m args c D cc A cd o nL) {n : Int} {v : Int32} (hd : decode cd pc = .ok (.bipush n, 2)) (hv : (Int8.ofInt n).toInt32 = v) (h : kAb p l e R s m args below meth c QQ D A nL (pc + 2) lv (.int v :: st) W0 cells slots) : kAb p l e R s m args below meth c QQ D A nL pc lv st W0 cells slots :=
  fun ls H locs hls hP hD hS => lv_bipush CX.1 CX.2.1 hd hv (h ls H locs hls hP hD hS)
theorem kb_sipush (CX : kCx p s m args c D cc A cd o nL) {n : Int} {v : Int32} (hd : decode cd pc = .ok (.sipush n, 3)) (hv : (Int16.ofInt n).toInt32 = v) (h : kAb p l e R s m args below meth c QQ D A nL (pc + 3) lv (.int v :: st) W0 cells slots) : kAb p l e R s m args below meth c QQ D A nL pc lv st W0 cells slots :=
  fun ls H locs hls hP hD hS => lv_sipush CX.1 CX.2.1 hd hv (h ls H locs hls hP hD hS)
theorem kb_dup (CX : kCx p s m args c D cc A cd o nL) {v : Value} (hd : decode cd pc = .ok (.dup, 1)) (hv : v.category = 1) (h : kAb p l e R s m args below meth c QQ D A nL (pc + 1) lv (v :: v :: st) W0 cells slots) : kAb p l e R s m args below meth c QQ D A nL pc lv (v :: st) W0 cells slots :=
  fun ls H locs hls hP hD hS => lv_dup CX.1 CX.2.1 hd hv (h ls H locs hls hP hD hS)
theorem kb_goto (CX : kCx p s m args c D cc A cd o nL) {off : Int} {tgt : Nat} (hd : decode cd pc = .ok (.goto off, 3)) (ht : (pc : Int) + off = (tgt : Int)) (h : kAb p l e R s m args below meth c QQ D A nL tgt lv st W0 cells slots) : kAb p l e R s m args below meth c QQ D A nL pc lv st W0 cells slots :=
  fun ls H locs hls hP hD hS => lv_goto CX.1 CX.2.1 hd ht (h ls H locs hls hP hD hS)
theorem kb_iload (CX : kCx p s m args c D cc A cd o nL) {k : Fin 4} {i : Nat} {x : Int32} (hd : decode cd pc = .ok (.iload_n k, 1)) (hi : (k : Nat) = i) (j : Nat) (hl : lv[j]? = some (i, .int x)) (h : kAb p l e R s m args below meth c QQ D A nL (pc + 1) lv (.int x :: st) W0 cells slots) : kAb p l e R s m args below meth c QQ D A nL pc lv st W0 cells slots :=
  fun ls H locs hls hP hD hS => lv_iload_n CX.1 CX.2.1 hd hi (lv_at hls j hl) (h ls H locs hls hP hD hS)
theorem kb_istore (CX : kCx p s m args c D cc A cd o nL) {k : Fin 4} {i : Nat} {x : Int32} {lv' : List (Nat × Value)} (hd : decode cd pc = .ok (.istore_n k, 1)) (hi : (k : Nat) = i) (hn : i < nL) (hl : (i, Value.int x) :: lv.filter (fun q => !(q.1 == i) && !(q.1 + 1 == i && q.2.category == 2)) = lv') (h : kAb p l e R s m args below meth c QQ D A nL (pc + 1) lv' st W0 cells slots) : kAb p l e R s m args below meth c QQ D A nL pc lv (.int x :: st) W0 cells slots :=
  fun _ H locs hls hP hD hS => lv_istore_n CX.1 CX.2.1 hd hi hls hn hl (fun ls' hl' => h ls' H locs hl' hP hD hS)
theorem kb_iinc (CX : kCx p s m args c D cc A cd o nL) {i j : Nat} {n : Int} {x v : Int32} {lv' : List (Nat × Value)} (hd : decode cd pc = .ok (.iinc i n, 3)) (hk : lv[j]? = some (i, .int x)) (hv : x + Int32.ofInt n = v) (hn : i < nL) (hl : (i, Value.int v) :: lv.filter (fun q => !(q.1 == i) && !(q.1 + 1 == i && q.2.category == 2)) = lv') (h : kAb p l e R s m args below meth c QQ D A nL (pc + 3) lv' st W0 cells slots) : kAb p l e R s m args below meth c QQ D A nL pc lv st W0 cells slots :=
  fun _ H locs hls hP hD hS => lv_iinc CX.1 CX.2.1 hd hls hk hv hn hl (fun ls' hl' => h ls' H locs hl' hP hD hS)
theorem kb_icge (CX : kCx p s m args c D cc A cd o nL) {x y : Int32} {off : Int} {tgt : Nat} (hd : decode cd pc = .ok (.if_icmp .ge off, 3)) (ht : (pc : Int) + off = (tgt : Int)) (hc : y ≤ x) (h : kAb p l e R s m args below meth c QQ D A nL tgt lv st W0 cells slots) : kAb p l e R s m args below meth c QQ D A nL pc lv (.int y :: .int x :: st) W0 cells slots :=
  fun ls H locs hls hP hD hS => lv_icmp_ge CX.1 CX.2.1 hd ht (fun _ => h ls H locs hls hP hD hS) (fun q => absurd hc q)
theorem kb_iclt (CX : kCx p s m args c D cc A cd o nL) {x y : Int32} {off : Int} {tgt : Nat} (hd : decode cd pc = .ok (.if_icmp .ge off, 3)) (ht : (pc : Int) + off = (tgt : Int)) (hc : ¬ y ≤ x) (h : kAb p l e R s m args below meth c QQ D A nL (pc + 3) lv st W0 cells slots) : kAb p l e R s m args below meth c QQ D A nL pc lv (.int y :: .int x :: st) W0 cells slots :=
  fun ls H locs hls hP hD hS => lv_icmp_ge CX.1 CX.2.1 hd ht (fun q => absurd q hc) (fun _ => h ls H locs hls hP hD hS)
theorem kb_iadd (CX : kCx p s m args c D cc A cd o nL) {x y z : Int32} (hd : decode cd pc = .ok (.iadd, 1)) (hz : x + y = z) (h : kAb p l e R s m args below meth c QQ D A nL (pc + 1) lv (.int z :: st) W0 cells slots) : kAb p l e R s m args below meth c QQ D A nL pc lv (.int y :: .int x :: st) W0 cells slots := by
  subst hz
  exact fun ls H locs hls hP hD hS => lv_iadd CX.1 CX.2.1 hd (h ls H locs hls hP hD hS)
theorem kb_obj (CX : kCx p s m args c D cc A cd o nL) {ix : Nat} {a : Nat} (hd : decode cd pc = .ok (.invokespecial ix, 3)) (h1 : Cond.methodLink (clsS o) ix objectInit ∈ gw) (h2 : Cond.instanceMethod objectInit ∈ gw) (h3 : Cond.code objectInit ⟨#[0xb1]⟩ 1 none ∈ gw) (hf : 1 ≤ R.frames) (hr : (st.map fun v => v.category).sum + 12 ≤ R.locals) (h : kAb p l e R s m args below meth c QQ D A nL (pc + 3) lv st W0 cells slots) : kAb p l e R s m args below meth c QQ D A nL pc lv (.ref a :: st) W0 cells slots :=
  fun ls H locs hls hP hD hS => W.objInit CX.1 CX.2.1 CX.2.2.2.1 (CX.2.2.2.2.1 _ h1) (CX.2.2.2.2.1 _ h2) (CX.2.2.2.2.1 _ h3) rfl (by rw [CX.2.2.1]; exact hls.1) rfl hd hf (by show 2 * 0 + _ + 12 ≤ _; rw [Nat.mul_zero, Nat.zero_add]; exact hr) (W.eq (g2 := F0 m (pc + 3) ls st) rfl (h ls H locs hls hP hD hS))
theorem kb_newa (CX : kCx p s m args c D cc A cd o nL) {at' : ArrayType} {ty : FieldType} {c0 : ClassId} {n : Int32} {N : Nat} {a0 : vp_A} (i0 : Nat) (harr : Cond.arrayClass (newarray.typeOf at') ∈ gw) (hty : newarray.typeOf at' = ty) (hi : (tysA cc)[i0]? = some (c0, ty)) (ha : ∀ cA : ClassId, vp_cell cA a0 = arrV cA N (fun _ => defaultValue ty)) (hn : ¬ n < 0) (hN : n.toNatClampNeg = N) (hb : N * componentBytes ty ≤ 536870912) (hc : cells + 1 ≤ R.cells) (hs : slots + N ≤ R.slots) (hd : decode cd pc = .ok (.newarray at', 2)) (h : ∀ q, kAb p l e R s m args below meth c QQ D A nL (pc + 2) lv (.ref q :: st) (W0 ++ [(q, .inl (c0, a0))]) (cells + 1) (slots + N)) : kAb p l e R s m args below meth c QQ D A nL pc lv (.int n :: st) W0 cells slots :=
  fun ls H locs hls hP hD hS => va_newa CX.1 CX.2.1 (CX.2.2.2.2.1 _ harr) hty CX.2.2.2.2.2.1 hP hD hS CX.2.2.2.2.2.2.1 ha hn hN hb hc hs hd (fun q cA H1 hK1 hP1 hD1 hS1 => by
    have e : cA = c0 := ra_u (hK1.2 5 (cA, ty) rfl).2 (CX.2.2.2.2.2.1.2 i0 _ hi).2
    subst e
    exact h q ls H1 locs hls hP1 hD1 hS1)
theorem kb_anew (CX : kCx p s m args c D cc A cd o nL) {n : Int32} {N index : Nat} (hl : Cond.classLink (clsS o) index "HummingBridges$Score" ∈ gw) (hn : ¬ n < 0) (hN : n.toNatClampNeg = N) (hb : N * 4 ≤ 536870912) (hc : cells + 1 ≤ R.cells) (hs : slots + N ≤ R.slots) (hd : decode cd pc = .ok (.anewarray index, 3)) (h : ∀ q, kAb p l e R s m args below meth c QQ D A nL (pc + 3) lv (.ref q :: st) (W0 ++ [(q, .inl (cc 6, N, .inr (.inr (.inr (.inr (fun _ => none))))))]) (cells + 1) (slots + N)) : kAb p l e R s m args below meth c QQ D A nL pc lv (.int n :: st) W0 cells slots :=
  fun ls H locs hls hP hD hS => va_newq CX.1 CX.2.1 CX.2.2.2.1 (CX.2.2.2.2.1 _ hl) CX.2.2.2.2.2.2.2.2 CX.2.2.2.2.2.1 hP hD hS CX.2.2.2.2.2.2.1 hn hN hb hc hs hd (fun q cA H1 hK1 hP1 hD1 hS1 => by
    have e : cA = cc 6 := ra_u (hK1.2 5 (cA, .object "HummingBridges$Score") rfl).2 (CX.2.2.2.2.2.1.2 4 _ rfl).2
    subst e
    exact h q ls H1 locs hls hP1 hD1 hS1)
theorem kb_putF (CX : kCx p s m args c D cc A cd o nL) (hin2 : meth.name = "<init>") {x f kd : Nat} {fs : List Value} {a : Nat} {v : Value} (k : Nat) (hd : decode cd pc = .ok (.putfield x, 3)) (hq : fR o x = (o, f, kd)) (hlt : o < 13) (he : W0[k]? = some (a, .inr (o, fs))) (hfin : (TXa o f).2.2.2 = true) (hn : narrow (tyXa o f) v = v) (hfit : fits (tyXa o f) v = true) (hl : f < fs.length) (h : kAb p l e R s m args below meth c QQ D A nL (pc + 3) lv st (W0.set k (a, .inr (o, fs.set f v))) cells slots) : kAb p l e R s m args below meth c QQ D A nL pc lv (v :: .ref a :: st) W0 cells slots :=
  fun ls H locs hls hP hD hS => by
    obtain ⟨h1, h2, h3, h4, h5⟩ := fR_own hq hlt
    exact va_putF CX.1 CX.2.1 CX.2.2.2.2.1 (ws_in o hlt) (tyXa o) (ty_ok o hlt) (nm_ok o hlt) CX.2.2.2.1 CX.2.2.2.2.2.1 hP hD hS k he (vw_at o hlt) f h1 (CX.2.2.2.2.1 _ h3) (fun y hy => by rw [← h4]; exact hy) hfin hin2 h4 (ty_ok o hlt f h1) hn hfit hl hd (fun H1 locs1 hP1 hD1 hS1 => h ls H1 locs1 hls hP1 hD1 hS1)
theorem kb_put (CX : kCx p s m args c D cc A cd o nL) {x f kd : Nat} {fs : List Value} {a : Nat} {v : Value} (k : Nat) (hd : decode cd pc = .ok (.putfield x, 3)) (hq : fR o x = (o, f, kd)) (hlt : o < 13) (he : W0[k]? = some (a, .inr (o, fs))) (hfin : (TXa o f).2.2.2 = false) (hn : narrow (tyXa o f) v = v) (hfit : fits (tyXa o f) v = true) (hl : f < fs.length) (h : kAb p l e R s m args below meth c QQ D A nL (pc + 3) lv st (W0.set k (a, .inr (o, fs.set f v))) cells slots) : kAb p l e R s m args below meth c QQ D A nL pc lv (v :: .ref a :: st) W0 cells slots :=
  fun ls H locs hls hP hD hS => by
    obtain ⟨h1, h2, h3, h4, h5⟩ := fR_own hq hlt
    exact va_put CX.1 CX.2.1 CX.2.2.2.2.1 (ws_in o hlt) (tyXa o) (ty_ok o hlt) (nm_ok o hlt) CX.2.2.2.1 CX.2.2.2.2.2.1 hP hD hS k he (vw_at o hlt) f h1 (CX.2.2.2.2.1 _ h3) (fun y hy => by rw [← h4]; exact hy) hfin (ty_ok o hlt f h1) hn hfit hl hd (fun H1 locs1 hP1 hD1 hS1 => h ls H1 locs1 hls hP1 hD1 hS1)
theorem kb_get (CX : kCx p s m args c D cc A cd o nL) {x f kd : Nat} {fs : List Value} {a : Nat} {v : Value} (k : Nat) (hd : decode cd pc = .ok (.getfield x, 3)) (hq : fR o x = (o, f, kd)) (hlt : o < 13) (he : W0[k]? = some (a, .inr (o, fs))) (hv : fs[f]? = some v) (h : kAb p l e R s m args below meth c QQ D A nL (pc + 3) lv (v :: st) W0 cells slots) : kAb p l e R s m args below meth c QQ D A nL pc lv (.ref a :: st) W0 cells slots :=
  fun ls H locs hls hP hD hS => by
    obtain ⟨h1, h2, h3, h4, h5⟩ := fR_own hq hlt
    exact va_get CX.1 CX.2.1 CX.2.2.2.2.1 (ws_in o hlt) CX.2.2.2.1 CX.2.2.2.2.2.1 hP k he (vw_at o hlt) f h1 (CX.2.2.2.2.1 _ h3) (fun y hy => by rw [← h4]; exact hy) hv hd (h ls H locs hls hP hD hS)
theorem kb_iast (CX : kCx p s m args c D cc A cd o nL) {n N : Nat} {f : Nat → Int32} {a : Nat} {i x : Int32} (k : Nat) (he : W0[k]? = some (a, .inl (cc 2, n, .inl f))) (hin : vp_in i n) (hN : i.toNatClampNeg = N) (hd : decode cd pc = .ok (.iastore, 1)) (h : kAb p l e R s m args below meth c QQ D A nL (pc + 1) lv st (W0.set k (a, .inl (cc 2, n, .inl (upd f N x)))) cells slots) : kAb p l e R s m args below meth c QQ D A nL pc lv (.int x :: .int i :: .ref a :: st) W0 cells slots := by
  subst hN
  exact fun ls H locs hls hP hD hS => va_iast CX.1 CX.2.1 CX.2.2.2.2.2.1 hP hD hS k 0 he rfl hin hd (fun H1 locs1 hP1 hD1 hS1 => h ls H1 locs1 hls hP1 hD1 hS1)
theorem kb_aast (CX : kCx p s m args c D cc A cd o nL) {n v N : Nat} {f : Nat → Option Nat} {vs : List Value} {a : Nat} {i : Int32} (k qk : Nat) (he : W0[k]? = some (a, .inl (cc 6, n, .inr (.inr (.inr (.inr f)))))) (hv : W0[qk]? = some (v, .inr (8, vs))) (hin : vp_in i n) (hN : i.toNatClampNeg = N) (hd : decode cd pc = .ok (.aastore, 1)) (h : kAb p l e R s m args below meth c QQ D A nL (pc + 1) lv st (W0.set k (a, .inl (cc 6, n, .inr (.inr (.inr (.inr (va_up f N (some v)))))))) cells slots) : kAb p l e R s m args below meth c QQ D A nL pc lv (.ref v :: .int i :: .ref a :: st) W0 cells slots := by
  subst hN
  exact fun ls H locs hls hP hD hS => va_astq CX.1 CX.2.1 CX.2.2.2.2.2.1 hP hD hS k 4 qk 8 he rfl hv (vw_at 8 (by decide)) hin hd (fun H1 locs1 hP1 hD1 hS1 => h ls H1 locs1 hls hP1 hD1 hS1)
theorem kb_new (CX : kCx p s m args c D cc A cd o nL) {index : Nat} (ci : Nat) {fs : List Value} (hlt : ci < 13) (hcl : Cond.classLink (clsS o) index (clsS ci) ∈ gw) (hinst : Cond.instantiable (clsS ci) (nFl ci) ∈ gw) (hini : Cond.initialized (clsS ci) ∈ gw) (hfs : ∀ j, j < nFl ci → defaultValue (tyXa ci j) = vp_V fs j) (hc : cells + 1 ≤ R.cells) (hs : slots + nFl ci ≤ R.slots) (hd : decode cd pc = .ok (.new index, 3)) (h : ∀ q, kAb p l e R s m args below meth c QQ D A nL (pc + 3) lv (.ref q :: st) (W0 ++ [(q, .inr (ci, fs))]) (cells + 1) (slots + nFl ci)) : kAb p l e R s m args below meth c QQ D A nL pc lv st W0 cells slots :=
  fun ls H locs hls hP hD hS => va_new CX.1 CX.2.1 CX.2.2.2.2.1 (ws_in ci hlt) (tyXa ci) (ty_ok ci hlt) CX.2.2.2.1 (CX.2.2.2.2.1 _ hcl) (CX.2.2.2.2.1 _ hinst) (CX.2.2.2.2.1 _ hini) CX.2.2.2.2.2.1 hP hD hS CX.2.2.2.2.2.2.1 (vw_at ci hlt) hfs hc hs hd (fun q H1 hP1 hD1 hS1 => h q ls H1 locs hls hP1 hD1 hS1)
theorem nd_range : ∀ n : Nat, va_nd (List.range n) = true := by
  have key : ∀ n k : Nat, va_nd (List.range' k n) = true := fun n => by
    induction n with
    | zero => intro k; rfl
    | succ n ih =>
      intro k
      rw [List.range'_succ]
      show (decide (k ∉ List.range' (k + 1) n) && va_nd (List.range' (k + 1) n)) = true
      rw [ih (k + 1), Bool.and_true, decide_eq_true_eq]
      intro h
      have := List.mem_range'_1.mp h
      omega
  intro n
  rw [List.range_eq_range']
  exact key n 0
/-- a constructor's contract: the new object alone, and what comes of it -/
def kPc (D : va_G) (cc : Nat → ClassId) (As : List Value) (a : Nat) (E0 : va_E) (sz : Nat) : Array Value → State → Prop := va_Pc (.ref a :: As) (fun U => U.heap.size = sz ∧ va_P D vwCl [(a, E0)] U.heap ∧ va_K D vwCl (tysA cc) U ∧ NWs U ∧ va_D (fun _ => True) [(a, E0)])
def kQc (D : va_G) (a : Nat) (E0 : va_E) (Wf : (Nat → Nat) → va_W) (sz : Nat) : Array Value → State → Outcome → State → Prop := va_Qv (fun _ : Nat → Nat => True) (fun u t => va_P D vwCl (Wf u) t.heap ∧ va_D (va_A [(a, E0)] sz) (Wf u)) (va_A [(a, E0)] sz)
theorem kb_init (CX : kCx p s m args c D cc A cd o nL) {y : MethodName} {bytes : ByteArray} {maxL index mc ms : Nat} {rm : Room} {As : List Value} {a : Nat} {E0 : va_E} {Wr : va_W} {Wf : (Nat → Nat) → va_W} (hM : ∀ sz, Met l y (Cond.code y bytes maxL none :: gw) rm (kPc D cc As a E0 sz) (kQc D a E0 Wf sz) mc ms (va_A [(a, E0)] sz)) (hcode : Cond.code y bytes maxL none ∈ gw) (hrc : rm.cells = mc) (hrs : rm.slots = ms) (hini : Cond.initialized y.cls ∈ gw) (hlk : Cond.methodLink (clsS o) index y ∈ gw) (hin : Cond.instanceMethod y ∈ gw) (hy1 : y.name = "<init>") (hyc : y.cls ≠ "java/lang/invoke/MethodHandle" ∧ y.cls ≠ "java/lang/invoke/VarHandle" ∧ (parseMethodDescriptor y.desc).map (fun d => d.parameters.length) = some As.length) (hR : rm.frames + 1 ≤ R.frames ∧ 8 + (maxL + 11) + rm.locals ≤ R.locals) (hW : (st.map fun v => v.category).sum ≤ 8) (hd : decode cd pc = .ok (.invokespecial index, 3)) (hc : cells + mc ≤ R.cells) (hs : slots + ms ≤ R.slots) (h : ∀ u, kAb p l e R s m args below meth c QQ D A nL (pc + 3) lv st (Wr ++ Wf u) (cells + mc) (slots + ms)) : kAb p l e R s m args below meth c QQ D A nL pc lv (As.reverse ++ .ref a :: st) (Wr ++ [(a, E0)]) cells slots := by
  intro ls H locs hls hP hD hS
  have hG : GoodIn gw (Cond.code y bytes maxL none :: gw) := fun w hw => by
    rcases List.mem_cons.mp hw with rfl | hw
    · exact gw_good _ hcode
    · exact gw_good _ hw
  have hlast : (Wr ++ [(a, E0)])[Wr.length]? = some (a, E0) := by
    rw [List.getElem?_append_right (Nat.le_refl _), Nat.sub_self]
    rfl
  have hPc : va_P D vwCl [(a, E0)] H := fun k q hq => by
    cases k with
    | zero =>
      injection hq with hq
      exact hP Wr.length q (by rw [hlast, hq])
    | succ k => cases hq
  have hDc : va_D A [(a, E0)] := by
    refine ⟨fun i j p q hi hj _ => ?_, fun k q hq => ?_⟩
    · cases i with
      | zero =>
        cases j with
        | zero => rfl
        | succ j => cases hj
      | succ i => cases hi
    · cases k with
      | zero =>
        injection hq with hq
        exact hD.2 Wr.length q (by rw [hlast, hq])
      | succ k => cases hq
  have hC : [Wr.length].map (fun i => (Wr ++ [(a, E0)])[i]?) = [(a, E0)].map some := by
    show [(Wr ++ [(a, E0)])[Wr.length]?] = [some (a, E0)]
    rw [hlast]
  have hRr : (List.range Wr.length).map (fun i => (Wr ++ [(a, E0)])[i]?) = Wr.map some := by
    apply List.ext_getElem?
    intro i
    rw [List.getElem?_map, List.getElem?_map]
    by_cases hi : i < Wr.length
    · rw [List.getElem?_range hi]
      show some ((Wr ++ [(a, E0)])[i]?) = _
      rw [List.getElem?_append_left hi, List.getElem?_eq_getElem hi]
      rfl
    · rw [List.getElem?_eq_none (by rw [List.length_range]; omega), List.getElem?_eq_none (by omega)]
      rfl
  have hF := va_free (wc := [(a, E0)]) hD hS CX.2.2.2.2.2.2.1 [Wr.length] hC
  refine va_callv (va_runI (As := As) (rest := st) ⟨CX.1, CX.2.1, CX.2.2.1, CX.2.2.2.1, CX.2.2.2.2.1⟩ (hM H.size) (cwI As.length CX.2.2.2.2.1 hG rfl hrc hrs (CX.2.2.2.2.1 _ hini) (CX.2.2.2.2.1 _ hlk) (CX.2.2.2.2.1 _ hin) hy1 hyc hR) ⟨fun b U g mk q => by obtain ⟨q0, q1, qP, qK, qO, qD⟩ := q; exact ⟨q0, q1, qP, va_K.moved (u := U) (U := U.calling g mk b) (Vm.Alike.refl U.vm) qK, ⟨fun a2 i2 x2 h2 hw2 => va_Nw.same (U := U.calling g mk b) rfl rfl (qO.1 a2 i2 x2 h2 hw2), va_AO.moved (u := U) (U := U.calling g mk b) (Vm.Alike.refl U.vm) qO.2⟩, qD⟩, fun U hU hW2 => ⟨rfl, by rw [hU], by rw [hU]; exact hPc, va_K.moved hW2.alike CX.2.2.2.2.2.1, ⟨fun a2 i2 x2 h2 hw2 => va_Nw.warmM hW2 (CX.2.2.2.2.2.2.2.1 a2 i2 x2 h2 hw2), va_AO.moved hW2.alike CX.2.2.2.2.2.2.2.2⟩, hDc.weaken (fun _ _ _ _ => trivial)⟩⟩ rfl rfl hls.1 rfl (by show 2 * 0 + _ ≤ 8; rw [Nat.mul_zero, Nat.zero_add]; exact hW) hd ⟨hc, hs⟩) hS (fun q _ hq => hF q hq) hF (fun u t H1 locs1 ht hvm _ hB hz1 hk1 hS1 => ?_)
  obtain ⟨hP1, hD1⟩ := hB
  rw [ht] at hP1
  obtain ⟨hP2, hD2⟩ := va_join (wr := Wr) (w1 := Wf u) hP hD [Wr.length] (List.range Wr.length) hC hRr (nd_range _) (fun i hi => by
    rw [List.mem_singleton]
    have := List.mem_range.mp hi
    omega) hk1 hF hP1 hD1
  exact h u ls H1 locs1 hls hP2 hD2 hS1
theorem kb_initN (CX : kCx p s m args c D cc A cd o nL) {y : MethodName} {bytes : ByteArray} {maxL index mc ms : Nat} {rm : Room} {As : List Value} {a : Nat} {E0 : va_E} {Wr : va_W} {Wf : (Nat → Nat) → va_W} (hM : ∀ sz, Met l y (Cond.code y bytes maxL none :: gw) rm (kPc D cc As a E0 sz) (kQc D a E0 Wf sz) mc ms (va_A [(a, E0)] sz)) (hcode : Cond.code y bytes maxL none ∈ gw) (hrc : rm.cells = mc) (hrs : rm.slots = ms) (hini : Cond.initialized y.cls ∈ gw) {host : String} (hlk : Cond.methodLinkNest (clsS o) index y host ∈ lw_tbl) (hin : Cond.instanceMethod y ∈ gw) (hy1 : y.name = "<init>") (hyc : y.cls ≠ "java/lang/invoke/MethodHandle" ∧ y.cls ≠ "java/lang/invoke/VarHandle" ∧ (parseMethodDescriptor y.desc).map (fun d => d.parameters.length) = some As.length) (hR : rm.frames + 1 ≤ R.frames ∧ 8 + (maxL + 11) + rm.locals ≤ R.locals) (hW : (st.map fun v => v.category).sum ≤ 8) (hd : decode cd pc = .ok (.invokespecial index, 3)) (hc : cells + mc ≤ R.cells) (hs : slots + ms ≤ R.slots) (h : ∀ u, kAb p l e R s m args below meth c QQ D A nL (pc + 3) lv st (Wr ++ Wf u) (cells + mc) (slots + ms)) : kAb p l e R s m args below meth c QQ D A nL pc lv (As.reverse ++ .ref a :: st) (Wr ++ [(a, E0)]) cells slots := by
  intro ls H locs hls hP hD hS
  have hG : GoodIn gw (Cond.code y bytes maxL none :: gw) := fun w hw => by
    rcases List.mem_cons.mp hw with rfl | hw
    · exact gw_good _ hcode
    · exact gw_good _ hw
  have hlast : (Wr ++ [(a, E0)])[Wr.length]? = some (a, E0) := by
    rw [List.getElem?_append_right (Nat.le_refl _), Nat.sub_self]
    rfl
  have hPc : va_P D vwCl [(a, E0)] H := fun k q hq => by
    cases k with
    | zero =>
      injection hq with hq
      exact hP Wr.length q (by rw [hlast, hq])
    | succ k => cases hq
  have hDc : va_D A [(a, E0)] := by
    refine ⟨fun i j p q hi hj _ => ?_, fun k q hq => ?_⟩
    · cases i with
      | zero =>
        cases j with
        | zero => rfl
        | succ j => cases hj
      | succ i => cases hi
    · cases k with
      | zero =>
        injection hq with hq
        exact hD.2 Wr.length q (by rw [hlast, hq])
      | succ k => cases hq
  have hC : [Wr.length].map (fun i => (Wr ++ [(a, E0)])[i]?) = [(a, E0)].map some := by
    show [(Wr ++ [(a, E0)])[Wr.length]?] = [some (a, E0)]
    rw [hlast]
  have hRr : (List.range Wr.length).map (fun i => (Wr ++ [(a, E0)])[i]?) = Wr.map some := by
    apply List.ext_getElem?
    intro i
    rw [List.getElem?_map, List.getElem?_map]
    by_cases hi : i < Wr.length
    · rw [List.getElem?_range hi]
      show some ((Wr ++ [(a, E0)])[i]?) = _
      rw [List.getElem?_append_left hi, List.getElem?_eq_getElem hi]
      rfl
    · rw [List.getElem?_eq_none (by rw [List.length_range]; omega), List.getElem?_eq_none (by omega)]
      rfl
  have hF := va_free (wc := [(a, E0)]) hD hS CX.2.2.2.2.2.2.1 [Wr.length] hC
  refine va_callv (va_runIN (As := As) (rest := st) ⟨CX.1, CX.2.1, CX.2.2.1, CX.2.2.2.1, CX.2.2.2.2.1⟩ (hM H.size) ⟨va_cnB As.length CX.2.2.2.2.1 hG rfl hrc hrs (CX.2.2.2.2.2.2.2.1 _ _ _ _ hlk) (CX.2.2.2.2.1 _ hini) hyc hR, hy1, CX.2.2.2.2.1 _ hin⟩ ⟨fun b U g mk q => by obtain ⟨q0, q1, qP, qK, qO, qD⟩ := q; exact ⟨q0, q1, qP, va_K.moved (u := U) (U := U.calling g mk b) (Vm.Alike.refl U.vm) qK, ⟨fun a2 i2 x2 h2 hw2 => va_Nw.same (U := U.calling g mk b) rfl rfl (qO.1 a2 i2 x2 h2 hw2), va_AO.moved (u := U) (U := U.calling g mk b) (Vm.Alike.refl U.vm) qO.2⟩, qD⟩, fun U hU hW2 => ⟨rfl, by rw [hU], by rw [hU]; exact hPc, va_K.moved hW2.alike CX.2.2.2.2.2.1, ⟨fun a2 i2 x2 h2 hw2 => va_Nw.warmM hW2 (CX.2.2.2.2.2.2.2.1 a2 i2 x2 h2 hw2), va_AO.moved hW2.alike CX.2.2.2.2.2.2.2.2⟩, hDc.weaken (fun _ _ _ _ => trivial)⟩⟩ rfl rfl hls.1 rfl (by show 2 * 0 + _ ≤ 8; rw [Nat.mul_zero, Nat.zero_add]; exact hW) hd ⟨hc, hs⟩) hS (fun q _ hq => hF q hq) hF (fun u t H1 locs1 ht hvm _ hB hz1 hk1 hS1 => ?_)
  obtain ⟨hP1, hD1⟩ := hB
  rw [ht] at hP1
  obtain ⟨hP2, hD2⟩ := va_join (wr := Wr) (w1 := Wf u) hP hD [Wr.length] (List.range Wr.length) hC hRr (nd_range _) (fun i hi => by
    rw [List.mem_singleton]
    have := List.mem_range.mp hi
    omega) hk1 hF hP1 hD1
  exact h u ls H1 locs1 hls hP2 hD2 hS1
end Ctor
