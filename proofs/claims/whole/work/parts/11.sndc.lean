theorem clU : ∀ k, k ∈ mUse → stOf k = false → oOf k < 13 ∨ oOf k = 14 := by
  have h : mUse.all (fun k => stOf k || (decide (oOf k < 13) || decide (oOf k = 14))) = true := by decide +kernel
  intro k hk hs
  have := List.all_eq_true.mp h k hk
  rw [hs] at this
  simpa using this
section Rows3
variable {p : Program} {l : Launch} {e : Env} {R : Room} {s : State} {m : MethodId} {args : Array Value} {below : List Frame} {meth : Method} {c : Code} {QQ : State → Prop} {G : mG} {A : Nat → Prop} {cells slots d j : Nat} {M0 : mM} {Q : mQ}
/-- a call has come back: on it goes -/
theorem ab_back (CX : mCx p l R s m args c G A cells slots d j M0) {pc : Nat} {lv : mL} {r0 : List mV} {M : mM} (okm : okM M) (hs : sS M0 M) (okl : ∀ i v, lv i = some v → okV v ∧ i < nOf j) (oks : ∀ v ∈ r0, okV v) {ls : Array Slot} {H : Heap} {locs : List Loc} (hl : lv_has ls (nOf j) (mLl G lv (nOf j))) (hS : va_S A s.heap H locs) {st0 : List Value} {a : Array Value}
    (hr : va_Run p l e R s m args below meth c H locs cells slots 0 0 (F0 m pc ls st0) (r0.map (cv G)) (mQc G M (mCont (mAb p l e R s m args below meth c QQ G A cells slots j M0) (pc + 3) lv r0) a) (wA G)) : W p l e R s m args below meth c H locs cells slots QQ (F0 m pc ls st0) := by
  intro T hT X
  obtain ⟨v, st₀, t, T', L, h0, X', hL, e1, e2, ⟨⟨r, M', hv, hok, hQ, hs', hP', hK', okm', hSt'⟩, hz, hk⟩, st⟩ := hr T hT X
  have hv : v = r.map (cv G) := by injection hv
  subst hv
  rw [h0] at hz hk
  have hS' : va_S A s.heap T'.heap (locs ++ L) := by
    refine ⟨Nat.le_trans hS.1 (by rw [e1]; exact hz), fun q h1 h2 => ?_, fun q hq => ?_⟩
    · rw [e1, hk q (Nat.lt_of_lt_of_le h1 hS.1) (fun z => h2 (CX.2.2.2.2.2.2.2.2.1 _ z))]
      exact hS.2.1 q h1 h2
    · rcases List.mem_append.mp hq with h | h
      · exact hS.2.2 q h
      · exact CX.2.2.2.2.2.2.2.2.1 _ (hL q h)
  rw [← e1] at hP'
  cases r with
  | none =>
    obtain ⟨t2, a1, b1⟩ := hQ okm' (fun k hk => (hs' k hk).trans (hs k hk)) okl oks ls T'.heap (locs ++ L) hl hP' hS' T' rfl X'
    exact ⟨t2, st t2 a1, b1⟩
  | some w =>
    obtain ⟨t2, a1, b1⟩ := hQ okm' (fun k hk => (hs' k hk).trans (hs k hk)) okl (List.forall_mem_cons.mpr ⟨hok, oks⟩) ls T'.heap (locs ++ L) hl hP' hS' T' rfl X'
    exact ⟨t2, st t2 a1, b1⟩
theorem wld_at (CX : mCx p l R s m args c G A cells slots d j M0) {M : mM} {H : Heap} {locs : List Loc} (okm : okM M) (hs : sS M0 M) (hP : va_P (G.1, G.2.1) vwCl (wW G M) H) (hS : va_S A s.heap H locs) (U : State) (hU : U.heap = H) (hW : s.WarmedH U.vm) : wld G U M := by
  refine ⟨by rw [hU]; exact hP, va_K.moved hW.alike CX.2.2.2.2.2.1, okm, wSt_narrow CX.2.2.2.2.2.2.2.2.1 ?_⟩
  exact wSt_mk hW.alike (by rw [hU]; exact hS.1) (fun a h1 h2 => by rw [hU]; exact hS.2.1 a h1 h2) (fun own k tx a h => vk_R.warm hW h) (fun a i x h hw => va_Nw.warmM hW hw) (wSt_cong (fun k hk => hs k hk) CX.2.2.2.2.2.2.1)
theorem gw_ws {k : Nat} (hk : k ∈ mUse) : GoodIn gw (wsO k) := by
  intro w hw
  rcases List.mem_cons.mp hw with rfl | hw
  · exact gw_good _ (mOk_spec hk).1
  · exact gw_good _ hw
theorem ab_room (CX : mCx p l R s m args c G A cells slots d j M0) {k : Nat} (hk : k ∈ mUse) : (rmO d).frames + 1 ≤ R.frames ∧ 8 + (nOf k + 11) + (rmO d).locals ≤ R.locals := by
  obtain ⟨f1, f2, -, -⟩ := CX.2.2.2.2.2.2.2.2.2.1
  have := (mOk_spec hk).2.2.2.1
  exact ⟨by show d + 1 + 1 ≤ _; omega, by show 8 + (nOf k + 11) + 80 * (d + 1) ≤ _; omega⟩
theorem ab_invS (CX : mCx p l R s m args c G A cells slots d j M0) {pc : Nat} {lv : mL} {st : List mV} {M : mM} {x k n : Nat} (hd : decode (cOf j) pc = .ok (.invokestatic x, 3)) (hq : mR (oOf j) x = (k, n)) (hk9 : k < 9000 ∧ stOf k = true) (hn : n ≤ st.length) (hc : mcat (st.drop n) ≤ 8) (h : mCall d k (st.take n).reverse M (mCont (mAb p l e R s m args below meth c QQ G A cells slots j M0) (pc + 3) lv (st.drop n))) : mAb p l e R s m args below meth c QQ G A cells slots j M0 pc lv st M := by
  intro okm hs okl oks ls H locs hl hP hS
  obtain ⟨hu, -, hds, hlk⟩ := mR_own hq hk9.1
  obtain ⟨w1, w2, w3, w4, w5, w6, w7, w8, -⟩ := mOk_spec hu
  rw [if_pos hk9.2] at hds
  have hok : ∀ v ∈ (st.take n).reverse, okV v := fun v hv => oks v (List.mem_of_mem_take (List.mem_reverse.mp hv))
  have hM := CX.2.2.2.2.2.2.2.2.2.2 k _ M _ hu h okm hok
  have hW8 : 2 * (F0 m pc ls (st.map (cv G))).monitorRoom + (((st.drop n).map (cv G)).map fun v => v.category).sum ≤ 8 := lv_room (by rw [cv_cats]; exact hc)
  obtain ⟨f1, f2, f3, f4⟩ := CX.2.2.2.2.2.2.2.2.2.1
  refine ab_back (r0 := st.drop n) (a := ((st.take n).reverse.map (cv G)).toArray) CX okm hs okl (fun v hv => oks v (List.mem_of_mem_drop hv)) hl hS ?_
  have hp : PreS s H (va_Pc ((st.take n).reverse.map (cv G)) (fun U => wld G U M)) ((st.take n).reverse.map (cv G)) := ⟨wld_blind, fun U hU hW => ⟨rfl, wld_at CX okm hs hP hS U hU hW⟩⟩
  have hlen : ((st.take n).reverse.map (cv G)).length = n := by rw [List.length_map, List.length_reverse, List.length_take]; omega
  have hstk : (F0 m pc ls (st.map (cv G))).stack = ((st.take n).reverse.map (cv G)).reverse ++ (st.drop n).map (cv G) := by
    show st.map (cv G) = _
    rw [← List.map_reverse, List.reverse_reverse, ← List.map_append, List.take_append_drop]
  rcases hlk with hlk | hlk
  · exact va_runS ⟨CX.1, CX.2.1, CX.2.2.1, CX.2.2.2.1, CX.2.2.2.2.1⟩ hM ⟨callB_of n CX.2.2.2.2.1 (gw_ws hu) rfl rfl rfl (CX.2.2.2.2.1 _ w2) (CX.2.2.2.2.1 _ hlk) ⟨w6, w7, hds⟩ (ab_room CX hu), CX.2.2.2.2.1 _ (w8 hk9.2)⟩ hp rfl hlen hl.1 hstk hW8 hd ⟨by omega, by omega⟩
  · exact va_runSN ⟨CX.1, CX.2.1, CX.2.2.1, CX.2.2.2.1, CX.2.2.2.2.1⟩ hM ⟨va_cnB n CX.2.2.2.2.1 (gw_ws hu) rfl rfl rfl ((CX.2.2.2.2.2.2.1).2.2.2.2.2.2.2.2.2 _ _ _ _ hlk) (CX.2.2.2.2.1 _ w2) ⟨w6, w7, hds⟩ (ab_room CX hu), CX.2.2.2.2.1 _ (w8 hk9.2), trivial⟩ hp rfl hlen hl.1 hstk hW8 hd ⟨by omega, by omega⟩
theorem ab_invV (CX : mCx p l R s m args c G A cells slots d j M0) {pc : Nat} {lv : mL} {st : List mV} {M : mM} {x k n o : Nat} {r0 : List mV} (hd : decode (cOf j) pc = .ok (.invokevirtual x, 3)) (hq : mR (oOf j) x = (k, n)) (hk9 : k < 9000 ∧ stOf k = false) (hn : n ≤ st.length) (hn1 : 1 ≤ n) (hdr : st.drop (n - 1) = vr o :: r0) (hc : mcat r0 ≤ 8) (ho : clO o = oOf k) (h : mCall d k (st.take n).reverse M (mCont (mAb p l e R s m args below meth c QQ G A cells slots j M0) (pc + 3) lv r0)) : mAb p l e R s m args below meth c QQ G A cells slots j M0 pc lv st M := by
  intro okm hs okl oks ls H locs hl hP hS
  obtain ⟨hu, -, hds, hlk⟩ := mR_own hq hk9.1
  obtain ⟨w1, w2, w3, w4, w5, w6, w7, -, w8⟩ := mOk_spec hu
  rw [if_neg (by rw [hk9.2]; decide)] at hds
  have hst : st = st.take (n - 1) ++ vr o :: r0 := by rw [← hdr, List.take_append_drop]
  have htk : (st.take n).reverse = vr o :: (st.take (n - 1)).reverse := by
    have e1 : st.take n = st.take (n - 1) ++ [vr o] := by
      have hl1 : (st.take (n - 1)).length = n - 1 := by rw [List.length_take]; omega
      conv => lhs; rw [hst]
      rw [List.take_append, hl1, show n - (n - 1) = 1 by omega, List.take_of_length_le (by omega)]
      rfl
    rw [e1, List.reverse_append]
    rfl
  rw [htk] at h
  have hok : ∀ v ∈ vr o :: (st.take (n - 1)).reverse, okV v := List.forall_mem_cons.mpr ⟨trivial, fun v hv => oks v (List.mem_of_mem_take (List.mem_reverse.mp hv))⟩
  have hM := CX.2.2.2.2.2.2.2.2.2.2 k _ M _ hu h okm hok
  have hcl : clO o < 13 ∨ clO o = 14 := by
    rw [ho]
    exact clU k hu hk9.2
  have hne : o ≠ 0 ∧ o ≠ 151 := by
    rcases hcl with g | g
    · have := cl_own g; omega
    · have := cl_str g; omega
  have hrc : ∃ cellB : Cell, H[G.2.2.1 o]? = some cellB ∧ cellB.vm.isStatics = false ∧ s.vm.findClass (yOf k).cls = some cellB.cls := by
    rw [w3, ← ho]
    rcases hcl with g | g
    · obtain ⟨a1, a2, a3, a4⟩ := cl_own g
      exact va_recv CX.2.2.2.2.2.1 hP (vw_at (clO o) g) (wE_o a3 a4 a1 a2)
    · obtain ⟨-, -, -, -, h5, h6, -⟩ := CX.2.2.2.2.2.2.1
      rw [g]
      rcases cl_str g with rfl | rfl
      · obtain ⟨cell, c1, c2, c3, -⟩ := h5.1.kept hS.2.1
        exact ⟨cell, c1, c2, c3⟩
      · obtain ⟨cell, c1, c2, c3, -⟩ := h6.1.kept hS.2.1
        exact ⟨cell, c1, c2, c3⟩
  have hW8 : 2 * (F0 m pc ls (st.map (cv G))).monitorRoom + ((r0.map (cv G)).map fun v => v.category).sum ≤ 8 := lv_room (by rw [cv_cats]; exact hc)
  obtain ⟨f1, f2, f3, f4⟩ := CX.2.2.2.2.2.2.2.2.2.1
  refine ab_back (r0 := r0) (a := (Value.ref (G.2.2.1 o) :: (st.take (n - 1)).reverse.map (cv G)).toArray) CX okm hs okl (fun v hv => oks v (by rw [hst]; exact List.mem_append_right _ (List.mem_cons_of_mem _ hv))) hl hS ?_
  have e0 : (vr o :: (st.take (n - 1)).reverse).map (cv G) = Value.ref (G.2.2.1 o) :: (st.take (n - 1)).reverse.map (cv G) := by rw [List.map_cons, cv_ref hne.1 hne.2]
  have hp : PreV s H (yOf k).cls (G.2.2.1 o) (va_Pc ((vr o :: (st.take (n - 1)).reverse).map (cv G)) (fun U => wld G U M)) ((st.take (n - 1)).reverse.map (cv G)) := ⟨wld_blind, hrc, fun U hU hW => ⟨by rw [e0], wld_at CX okm hs hP hS U hU hW⟩⟩
  have hlen : ((st.take (n - 1)).reverse.map (cv G)).length = n - 1 := by rw [List.length_map, List.length_reverse, List.length_take]; omega
  have hstk : (F0 m pc ls (st.map (cv G))).stack = ((st.take (n - 1)).reverse.map (cv G)).reverse ++ Value.ref (G.2.2.1 o) :: r0.map (cv G) := by
    show st.map (cv G) = _
    rw [← List.map_reverse, List.reverse_reverse, ← cv_ref hne.1 hne.2, ← List.map_cons, ← List.map_append, ← hst]
  obtain ⟨w8, w9⟩ := w8 hk9.2
  rcases hlk with hlk | hlk
  · exact va_runV ⟨CX.1, CX.2.1, CX.2.2.1, CX.2.2.2.1, CX.2.2.2.2.1⟩ hM ⟨callB_of (n - 1) CX.2.2.2.2.1 (gw_ws hu) rfl rfl rfl (CX.2.2.2.2.1 _ w2) (CX.2.2.2.2.1 _ hlk) ⟨w6, w7, hds⟩ (ab_room CX hu), CX.2.2.2.2.1 _ w8, CX.2.2.2.2.1 _ w9⟩ hp rfl hlen hl.1 hstk hW8 hd ⟨by omega, by omega⟩
  · exact va_runVN ⟨CX.1, CX.2.1, CX.2.2.1, CX.2.2.2.1, CX.2.2.2.2.1⟩ hM ⟨va_cnB (n - 1) CX.2.2.2.2.1 (gw_ws hu) rfl rfl rfl ((CX.2.2.2.2.2.2.1).2.2.2.2.2.2.2.2.2 _ _ _ _ hlk) (CX.2.2.2.2.1 _ w2) ⟨w6, w7, hds⟩ (ab_room CX hu), CX.2.2.2.2.1 _ w8, CX.2.2.2.2.1 _ w9⟩ hp rfl hlen hl.1 hstk hW8 hd ⟨by omega, by omega⟩
end Rows3
