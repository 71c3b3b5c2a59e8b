/-! constructors: the image of the beginning -/
theorem kMetM {l : Launch} {D : va_G} {cc : Nat → ClassId} {k mc ms a : Nat} {rm : Room} {As : List Value} {Wb We : va_W} (hk : k ∈ mUse) (hr0 : rtOf k = none) (lv0 : List (Nat × Value)) (hlv : lv_args 0 (.ref a :: As) = lv0) (hnl : (lg_sl (.ref a :: As)).length ≤ nOf k)
    (h : ∀ (p : Program) (e : Env) (s : State) (m : MethodId) (args : Array Value) (below : List Frame) (meth : Method) (c : Code) (A : Nat → Prop) (QQ : State → Prop), kCx p s m args c D cc A (cOf k) (oOf k) (nOf k) → (∀ (pc : Nat) (lv : List (Nat × Value)) (cells slots : Nat), cells ≤ mc → slots ≤ ms → decode (cOf k) pc = .ok (.return_, 1) → kAb p l e (headSpec (wsO k) rm).room s m args below meth c QQ D A (nOf k) pc lv [] We cells slots) → kAb p l e (headSpec (wsO k) rm).room s m args below meth c QQ D A (nOf k) 0 lv0 [] Wb 0 0) (sz : Nat) : Met l (yOf k) (wsO k) rm (va_Pc (.ref a :: As) (fun U => U.heap.size = sz ∧ va_P D vwCl Wb U.heap ∧ va_K D vwCl (tysA cc) U ∧ NWs U ∧ va_D (fun _ => True) Wb)) (va_Qv (fun _ : Unit => True) (fun _ t => va_P D vwCl We t.heap ∧ va_D (va_A Wb sz) We) (va_A Wb sz)) mc ms (va_A Wb sz) := by
  obtain ⟨w1, w2, w3, w4, w5, w6, w7, -, -⟩ := mOk_spec hk
  refine Met.ofW (cc := cOf k) (maxL := nOf k) (ret := rtOf k) w5 rfl ?_
  intro p e s m args below meth c s₁ B hml hv
  obtain ⟨rfl, hsz, hP, hK, hN, hD0⟩ := hv
  have hts := atoms_spec (ws := wsO k) B.pre
  have hown : s.vm.findClass (yOf k).cls = some m.cls := findClass_of_methodNamed B.named
  have hlocks := B.notSynchronized
  have hr := B.returns
  rw [hr0] at hr
  rw [w3] at hown
  subst hsz
  have hD := hD0.self (sz := s.heap.size)
  have hA : ∀ q : Nat, s.heap.size ≤ q → va_A Wb s.heap.size q := fun q h => Or.inr h
  have hl := lv_entry (.ref a :: As) (n := nOf k) hnl
  rw [hlv] at hl
  rw [lg_entry_eq]
  refine h p e s m _ below meth c (va_A Wb s.heap.size) _ ⟨B.exec, B.bytes, hml, hown, fun w hw => hts w (List.mem_cons_of_mem _ hw), hK, hA, hN⟩ (fun pc lv cells slots h1 h2 hd ls H locs hls hP2 hD2 hS2 => ?_) _ s.heap [] hl hP hD va_S.rf
  refine W.widen (k := mc) (n := ms) h1 h2 ?_
  exact W.vret B.exec B.bytes hr (fun t ht hW => ⟨⟨(), rfl, trivial, by rw [ht]; exact hP2, hD2⟩, hS2.F ht⟩) hS2.2.2 hd hlocks
section Ctor2
variable {p : Program} {l : Launch} {e : Env} {R : Room} {s : State} {m : MethodId} {args : Array Value} {below : List Frame} {meth : Method} {c : Code} {QQ : State → Prop} {D : va_G} {cc : Nat → ClassId} {A : Nat → Prop} {cells slots : Nat} {cd : ByteArray} {o nL : Nat} {pc : Nat} {lv : List (Nat × Value)} {st : List Value} {W0 : va_W}
theorem kb_ifeqF (CX : kCx p s m args c D cc A cd o nL) {x : Int32} {off : Int} {tgt : Nat} (hd : decode cd pc = .ok (.ifCond .eq off, 3)) (ht : (pc : Int) + off = (tgt : Int)) (hc : ¬ x = 0) (h : kAb p l e R s m args below meth c QQ D A nL (pc + 3) lv st W0 cells slots) : kAb p l e R s m args below meth c QQ D A nL pc lv (.int x :: st) W0 cells slots :=
  fun ls H locs hls hP hD hS => lv_if_eq CX.1 CX.2.1 hd ht (fun q => absurd q hc) (fun _ => h ls H locs hls hP hD hS)
theorem kb_iald (CX : kCx p s m args c D cc A cd o nL) {n N : Nat} {f : Nat → Int32} {a : Nat} {i : Int32} (k : Nat) (he : W0[k]? = some (a, .inl (cc 2, n, .inl f))) (hin : vp_in i n) (hN : i.toNatClampNeg = N) (hd : decode cd pc = .ok (.iaload, 1)) (h : kAb p l e R s m args below meth c QQ D A nL (pc + 1) lv (.int (f N) :: st) W0 cells slots) : kAb p l e R s m args below meth c QQ D A nL pc lv (.int i :: .ref a :: st) W0 cells slots := by
  subst hN
  exact fun ls H locs hls hP hD hS => va_iald CX.1 CX.2.1 CX.2.2.2.2.2.1 hP k 0 he rfl hin hd (h ls H locs hls hP hD hS)
end Ctor2
theorem arr_cg {cA : ClassId} {n : Nat} {f g : Nat → Int32} (h : ∀ i, i < n → f i = g i) : vp_cell cA (n, .inl f) = vp_cell cA (n, .inl g) := by
  rw [vp_cell_i, vp_cell_i]
  unfold arrV
  congr 1
  apply Array.ext
  · rw [Array.size_ofFn, Array.size_ofFn]
  · intro i h1 h2
    rw [Array.size_ofFn] at h1
    rw [Array.getElem_ofFn, Array.getElem_ofFn]
    show Value.int (f i) = Value.int (g i)
    rw [h i h1]
set_option maxHeartbeats 4000000 in
theorem kMcp {l : Launch} {D : va_G} {cc : Nat → ClassId} {h0 qa qi : Nat} {fs : List Value} {fa fi : Nat → Int32} (hfa : fs[0]? = some (.ref qa)) (hfi : fs[1]? = some (.ref qi)) : ∀ sz, Met l (yOf 162) (wsO 162) { frames := 1, cells := 0, slots := 0, locals := 12 } (va_Pc (.ref h0 :: [.int 1]) (fun U => U.heap.size = sz ∧ va_P D vwCl [(h0, .inr (12, fs)), (qa, .inl (cc 2, 6660, .inl fa)), (qi, .inl (cc 2, 6660, .inl fi))] U.heap ∧ va_K D vwCl (tysA cc) U ∧ NWs U ∧ va_D (fun _ => True) [(h0, .inr (12, fs)), (qa, .inl (cc 2, 6660, .inl fa)), (qi, .inl (cc 2, 6660, .inl fi))])) (va_Qv (fun _ : Unit => True) (fun _ t => va_P D vwCl [(h0, .inr (12, fs)), (qa, .inl (cc 2, 6660, .inl fa)), (qi, .inl (cc 2, 6660, .inl fa))] t.heap ∧ va_D (va_A [(h0, .inr (12, fs)), (qa, .inl (cc 2, 6660, .inl fa)), (qi, .inl (cc 2, 6660, .inl fi))] sz) [(h0, .inr (12, fs)), (qa, .inl (cc 2, 6660, .inl fa)), (qi, .inl (cc 2, 6660, .inl fa))]) (va_A [(h0, .inr (12, fs)), (qa, .inl (cc 2, 6660, .inl fa)), (qi, .inl (cc 2, 6660, .inl fi))] sz)) 0 0 (va_A [(h0, .inr (12, fs)), (qa, .inl (cc 2, 6660, .inl fa)), (qi, .inl (cc 2, 6660, .inl fi))] sz) := by
  refine kMetM (k := 162) (by decide +kernel) (by decide +kernel) [(0, .ref h0), (1, .int 1)] rfl (Nat.le_of_ble_eq_true rfl) (fun p e s m args below meth c A QQ CX hEnd => ?_)
  have eo : oOf 162 = 12 := by decide +kernel
  have en : nOf 162 = 3 := by decide +kernel
  have e6 : nI 6660 = (6660 : Int32) := by decide +kernel
  have hloop : ∀ n k : Nat, n + k = 6660 → ∀ g : Nat → Int32, (∀ i, i < k → g i = fa i) → kAb p l e (headSpec (wsO 162) { frames := 1, cells := 0, slots := 0, locals := 12 }).room s m args below meth c QQ D A (nOf 162) 2 [(2, .int (nI k)), (0, .ref h0), (1, .int 1)] [] [(h0, .inr (12, fs)), (qa, .inl (cc 2, 6660, .inl fa)), (qi, .inl (cc 2, 6660, .inl g))] 0 0 := by
    intro n
    induction n with
    | zero =>
      intro k hk g hg
      have hk' : k = 6660 := by omega
      subst hk'
      refine kb_iload CX (show decode (cOf 162) 2 = .ok (.iload_n 2, 1) by decide +kernel) rfl 0 rfl ?_
      refine kb_sipush CX (v := 6660) (show decode (cOf 162) 3 = .ok (.sipush 6660, 3) by decide +kernel) (by decide +kernel) ?_
      refine kb_icge CX (tgt := 46) (show decode (cOf 162) 6 = .ok (.if_icmp .ge 40, 3) by decide +kernel) (by decide) (by rw [e6]; exact Int32.le_refl _) ?_
      intro ls H locs hls hP hD hS
      refine hEnd 46 _ 0 0 (Nat.le_refl _) (Nat.le_refl _) (show decode (cOf 162) 46 = .ok (.return_, 1) by decide +kernel) ls H locs hls (fun j q hq => ?_) ?_ hS
      · rcases j with _ | _ | _ | j
        · exact hP 0 q hq
        · exact hP 1 q hq
        · injection hq with hq
          have h2 := hP 2 _ rfl
          rw [← hq]
          show H[qi]? = some (vp_cell (cc 2) (6660, .inl fa))
          rw [← arr_cg hg]
          exact h2
        · cases hq
      · exact hD.set (p := 2) (a := qi) (e0 := .inl (cc 2, 6660, .inl g)) (e := .inl (cc 2, 6660, .inl fa)) rfl
    | succ n ih =>
      intro k hk g hg
      have hkl : k < 6660 := by omega
      have hin : vp_in (nI k) 6660 := nI_in hkl (by decide)
      have hcl : (nI k).toNatClampNeg = k := nI_clamp (by omega)
      refine kb_iload CX (show decode (cOf 162) 2 = .ok (.iload_n 2, 1) by decide +kernel) rfl 0 rfl ?_
      refine kb_sipush CX (v := 6660) (show decode (cOf 162) 3 = .ok (.sipush 6660, 3) by decide +kernel) (by decide +kernel) ?_
      refine kb_iclt CX (tgt := 46) (show decode (cOf 162) 6 = .ok (.if_icmp .ge 40, 3) by decide +kernel) (by decide) (by rw [← e6]; exact nI_ge hkl (by decide)) ?_
      refine kb_iload CX (show decode (cOf 162) 9 = .ok (.iload_n 1, 1) by decide +kernel) rfl 2 rfl ?_
      refine kb_ifeqF CX (tgt := 28) (show decode (cOf 162) 10 = .ok (.ifCond .eq 18, 3) by decide +kernel) (by decide) (by decide) ?_
      refine kb_aload CX (show decode (cOf 162) 13 = .ok (.aload_n 0, 1) by decide +kernel) rfl 1 rfl ?_
      refine kb_get CX (f := 1) (kd := 2) 0 (show decode (cOf 162) 14 = .ok (.getfield 13, 3) by decide +kernel) (show fR (oOf 162) 13 = (oOf 162, 1, 2) by decide +kernel) (by rw [eo]; decide) (by rw [eo]; rfl) hfi ?_
      refine kb_iload CX (show decode (cOf 162) 17 = .ok (.iload_n 2, 1) by decide +kernel) rfl 0 rfl ?_
      refine kb_aload CX (show decode (cOf 162) 18 = .ok (.aload_n 0, 1) by decide +kernel) rfl 1 rfl ?_
      refine kb_get CX (f := 0) (kd := 2) 0 (show decode (cOf 162) 19 = .ok (.getfield 7, 3) by decide +kernel) (show fR (oOf 162) 7 = (oOf 162, 0, 2) by decide +kernel) (by rw [eo]; decide) (by rw [eo]; rfl) hfa ?_
      refine kb_iload CX (show decode (cOf 162) 22 = .ok (.iload_n 2, 1) by decide +kernel) rfl 0 rfl ?_
      refine kb_iald CX (N := k) 1 rfl hin hcl (show decode (cOf 162) 23 = .ok (.iaload, 1) by decide +kernel) ?_
      refine kb_iast CX (N := k) 2 rfl hin hcl (show decode (cOf 162) 24 = .ok (.iastore, 1) by decide +kernel) ?_
      refine kb_goto CX (tgt := 40) (show decode (cOf 162) 25 = .ok (.goto 15, 3) by decide +kernel) (by decide) ?_
      refine kb_iinc CX (j := 0) (v := nI (k + 1)) (lv' := [(2, .int (nI (k + 1))), (0, .ref h0), (1, .int 1)]) (show decode (cOf 162) 40 = .ok (.iinc 2 1, 3) by decide +kernel) rfl (nI_succ k).symm (by rw [en]; decide) rfl ?_
      refine kb_goto CX (tgt := 2) (show decode (cOf 162) 43 = .ok (.goto (-41), 3) by decide +kernel) (by decide) ?_
      refine ih (k + 1) (by omega) (upd g k (fa k)) (fun i hi => ?_)
      by_cases e : i = k
      · rw [e]
        show (if k = k then fa k else g k) = fa k
        rw [if_pos rfl]
      · show (if i = k then fa k else g i) = fa i
        rw [if_neg e]
        exact hg i (by omega)
  refine kb_iconst CX (v := 0) (show decode (cOf 162) 0 = .ok (.iconst 0, 1) by decide +kernel) (by decide +kernel) ?_
  refine kb_istore CX (lv' := [(2, .int 0), (0, .ref h0), (1, .int 1)]) (show decode (cOf 162) 1 = .ok (.istore_n 2, 1) by decide +kernel) rfl (by rw [en]; decide) rfl ?_
  have h := hloop 6660 0 rfl fi (fun i hi => absurd hi (by omega))
  rw [nI_0] at h
  exact h
theorem nd_range' : ∀ n k : Nat, va_nd (List.range' k n) = true
  | 0, k => rfl
  | n + 1, k => by
    rw [List.range'_succ]
    show (decide (k ∉ List.range' (k + 1) n) && va_nd (List.range' (k + 1) n)) = true
    rw [nd_range' n (k + 1), Bool.and_true, decide_eq_true_eq]
    intro h
    have := List.mem_range'_1.mp h
    omega
section Ctor3
variable {p : Program} {l : Launch} {e : Env} {R : Room} {s : State} {m : MethodId} {args : Array Value} {below : List Frame} {meth : Method} {c : Code} {QQ : State → Prop} {D : va_G} {cc : Nat → ClassId} {A : Nat → Prop} {cells slots : Nat} {cd : ByteArray} {o nL : Nat} {pc : Nat} {lv : List (Nat × Value)} {st : List Value}
theorem kb_cp (CX : kCx p s m args c D cc A cd o nL) {index h0 qa qi : Nat} {fs : List Value} {fa fi : Nat → Int32} {Wr : va_W} (hfa : fs[0]? = some (.ref qa)) (hfi : fs[1]? = some (.ref qi)) (hlk : Cond.methodLink (clsS o) index (yOf 162) ∈ gw) (hR : 2 ≤ R.frames ∧ 34 ≤ R.locals) (hW : (st.map fun v => v.category).sum ≤ 8) (hd : decode cd pc = .ok (.invokevirtual index, 3)) (hc : cells ≤ R.cells) (hs : slots ≤ R.slots) (h : kAb p l e R s m args below meth c QQ D A nL (pc + 3) lv st (Wr ++ [(h0, .inr (12, fs)), (qa, .inl (cc 2, 6660, .inl fa)), (qi, .inl (cc 2, 6660, .inl fa))]) cells slots) : kAb p l e R s m args below meth c QQ D A nL pc lv (.int 1 :: .ref h0 :: st) ((h0, .inr (12, fs)) :: (qa, .inl (cc 2, 6660, .inl fa)) :: (qi, .inl (cc 2, 6660, .inl fi)) :: Wr) cells slots := by
  intro ls H locs hls hP hD hS
  have hu : 162 ∈ mUse := by decide +kernel
  obtain ⟨w1, w2, w3, w4, w5, w6, w7, -, w8⟩ := mOk_spec hu
  obtain ⟨w8, w9⟩ := w8 (by decide +kernel)
  have hC : [0, 1, 2].map (fun i => ((h0, .inr (12, fs)) :: (qa, .inl (cc 2, 6660, .inl fa)) :: (qi, .inl (cc 2, 6660, .inl fi)) :: Wr : va_W)[i]?) = ([(h0, .inr (12, fs)), (qa, .inl (cc 2, 6660, .inl fa)), (qi, .inl (cc 2, 6660, .inl fi))] : va_W).map some := rfl
  have hRr : (List.range' 3 Wr.length).map (fun i => ((h0, .inr (12, fs)) :: (qa, .inl (cc 2, 6660, .inl fa)) :: (qi, .inl (cc 2, 6660, .inl fi)) :: Wr : va_W)[i]?) = Wr.map some := by
    rw [List.range'_eq_map_range, List.map_map]
    apply List.ext_getElem?
    intro i
    rw [List.getElem?_map, List.getElem?_map]
    by_cases hi : i < Wr.length
    · rw [List.getElem?_range hi]
      show some (((h0, .inr (12, fs)) :: (qa, .inl (cc 2, 6660, .inl fa)) :: (qi, .inl (cc 2, 6660, .inl fi)) :: Wr : va_W)[3 + i]?) = _
      rw [show 3 + i = i + 1 + 1 + 1 by omega, List.getElem?_cons_succ, List.getElem?_cons_succ, List.getElem?_cons_succ, List.getElem?_eq_getElem hi]
      rfl
    · rw [List.getElem?_eq_none (by rw [List.length_range]; omega), List.getElem?_eq_none (by omega)]
      rfl
  have hPc := hP.sub (ws' := [(h0, .inr (12, fs)), (qa, .inl (cc 2, 6660, .inl fa)), (qi, .inl (cc 2, 6660, .inl fi))]) [0, 1, 2] rfl
  have hDc := hD.sub (ws' := [(h0, .inr (12, fs)), (qa, .inl (cc 2, 6660, .inl fa)), (qi, .inl (cc 2, 6660, .inl fi))]) [0, 1, 2] (by decide) rfl
  have hF := va_free (wc := [(h0, .inr (12, fs)), (qa, .inl (cc 2, 6660, .inl fa)), (qi, .inl (cc 2, 6660, .inl fi))]) hD hS CX.2.2.2.2.2.2.1 [0, 1, 2] rfl
  have hrc : ∃ cellB : Cell, H[h0]? = some cellB ∧ cellB.vm.isStatics = false ∧ s.vm.findClass (yOf 162).cls = some cellB.cls := by
    rw [w3]
    exact va_recv (q0 := 0) CX.2.2.2.2.2.1 hP (vw_at 12 (by decide)) rfl
  refine va_callv (va_runV (As := [.int 1]) (rest := st) (C := (yOf 162).cls) ⟨CX.1, CX.2.1, CX.2.2.1, CX.2.2.2.1, CX.2.2.2.2.1⟩ (kMcp (D := D) (cc := cc) (h0 := h0) hfa hfi H.size) ⟨callB_of 1 CX.2.2.2.2.1 (gw_ws hu) rfl rfl rfl (CX.2.2.2.2.1 _ w2) (CX.2.2.2.2.1 _ hlk) ⟨w6, w7, (show (parseMethodDescriptor (yOf 162).desc).map (fun d => d.parameters.length) = some 1 by decide +kernel)⟩ ⟨by show 1 + 1 ≤ _; exact hR.1, by show 8 + (nOf 162 + 11) + 12 ≤ _; rw [show nOf 162 = 3 by decide +kernel]; exact hR.2⟩, CX.2.2.2.2.1 _ w8, CX.2.2.2.2.1 _ w9⟩ ⟨fun b U g mk q => by obtain ⟨q0, q1, qP, qK, qO, qD⟩ := q; exact ⟨q0, q1, qP, va_K.moved (u := U) (U := U.calling g mk b) (Vm.Alike.refl U.vm) qK, ⟨fun a2 i2 x2 h2 hw2 => va_Nw.same (U := U.calling g mk b) rfl rfl (qO.1 a2 i2 x2 h2 hw2), va_AO.moved (u := U) (U := U.calling g mk b) (Vm.Alike.refl U.vm) qO.2⟩, qD⟩, hrc, fun U hU hW2 => ⟨rfl, by rw [hU], by rw [hU]; exact hPc, va_K.moved hW2.alike CX.2.2.2.2.2.1, ⟨fun a2 i2 x2 h2 hw2 => va_Nw.warmM hW2 (CX.2.2.2.2.2.2.2.1 a2 i2 x2 h2 hw2), va_AO.moved hW2.alike CX.2.2.2.2.2.2.2.2⟩, hDc.weaken (fun _ _ _ _ => trivial)⟩⟩ rfl rfl hls.1 rfl (by show 2 * 0 + _ ≤ 8; rw [Nat.mul_zero, Nat.zero_add]; exact hW) hd ⟨hc, hs⟩) hS (fun q _ hq => hF q hq) hF (fun u t H1 locs1 ht hvm _ hB hz1 hk1 hS1 => ?_)
  obtain ⟨hP1, hD1⟩ := hB
  rw [ht] at hP1
  obtain ⟨hP2, hD2⟩ := va_join (wr := Wr) (w1 := [(h0, .inr (12, fs)), (qa, .inl (cc 2, 6660, .inl fa)), (qi, .inl (cc 2, 6660, .inl fa))]) hP hD [0, 1, 2] (List.range' 3 Wr.length) hC hRr (nd_range' _ _) (fun i hi hj => by
    have h1 := List.mem_range'_1.mp hi
    simp only [List.mem_cons, List.not_mem_nil, or_false] at hj
    omega) hk1 hF hP1 hD1
  exact h ls H1 locs1 hls hP2 hD2 hS1
end Ctor3
