theorem cv_ref {G : mG} {k : Nat} (h1 : k ≠ 0) (h2 : k ≠ 151) : cv G (vr k) = .ref (G.2.2.1 k) := by
  show va_rf (al G k) = _
  unfold al
  rw [if_neg h1, if_neg h2]
  rfl
theorem wE_o {G : mG} {M : mM} {k c : Nat} (h1 : 1 ≤ k) (h2 : k ≤ 141) (ha : ak k = 1) (hc : aln k = c) : (wW G M)[k - 1]? = some (G.2.2.1 k, .inr (c, wF G k (M k) c)) := by
  rw [wW_at G M h1 h2]
  unfold wE
  rw [if_pos ha, hc]
theorem wE_i {G : mG} {k : Nat} {g : Int → Int} {t : Nat} (ht : t = 2 ∨ t = 3 ∨ t = 5) (ha : ak k = t) : wE G k g = .inl (G.2.2.2.2 t, aln k, .inl fun i => Int32.ofInt (g i)) := by
  unfold wE
  rw [if_neg (by omega), if_neg (by omega), if_neg (by omega), ha]
theorem wE_l {G : mG} {k : Nat} {g : Int → Int} (ha : ak k = 4) : wE G k g = .inl (G.2.2.2.2 4, aln k, .inr (.inl fun i => Int64.ofInt (g i))) := by
  unfold wE
  rw [if_neg (by omega), if_pos ha]
theorem wE_r {G : mG} {k : Nat} {g : Int → Int} (ha : ak k = 6) : wE G k g = .inl (G.2.2.2.2 6, aln k, .inr (.inr (.inr (.inr fun i => al G (rf k i))))) := by
  unfold wE
  rw [if_neg (by omega), if_neg (by omega), if_pos ha]
theorem o_ix {i : Int} (h : R32 i) (h0 : 0 ≤ i) : ((((Int32.ofInt i).toNatClampNeg : Nat)) : Int) = i := by
  rw [o_clamp h h0]
  omega
theorem o_nat {n : Nat} (h : n < 2147483648) : Int32.ofNat n = Int32.ofInt (n : Int) := by
  apply Int32.toInt_inj.mp
  have := nI_toInt (n := n) (by omega)
  unfold nI at this
  rw [this, t32 (by unfold R32; omega)]
theorem upd_i {g : Int → Int} {i v : Int} (h : R32 i) (h0 : 0 ≤ i) : upd (fun q : Nat => Int32.ofInt (g q)) (Int32.ofInt i).toNatClampNeg (Int32.ofInt v) = fun q : Nat => Int32.ofInt (mU g i v q) := by
  funext q
  unfold mU
  rw [o_clamp h h0]
  by_cases e : q = i.toNat
  · subst e
    rw [pk_us, if_pos (by omega)]
  · rw [pk_un e, if_neg (by omega)]
theorem upd_l {g : Int → Int} {i v : Int} (h : R32 i) (h0 : 0 ≤ i) : vp_updL (fun q : Nat => Int64.ofInt (g q)) (Int32.ofInt i).toNatClampNeg (Int64.ofInt v) = fun q : Nat => Int64.ofInt (mU g i v q) := by
  funext q
  unfold mU
  rw [o_clamp h h0]
  by_cases e : q = i.toNat
  · subst e
    rw [pk_uLs, if_pos (by omega)]
  · rw [pk_uLn e, if_neg (by omega)]
theorem cpy_i {f g : Int → Int} {sp dp n : Int} (h1 : R32 sp) (h2 : R32 dp) (h3 : R32 n) (a1 : 0 ≤ sp) (a2 : 0 ≤ dp) (a3 : 0 ≤ n) : va_cpy (fun q : Nat => Int32.ofInt (f q)) (fun q : Nat => Int32.ofInt (g q)) (Int32.ofInt sp).toNatClampNeg (Int32.ofInt dp).toNatClampNeg (Int32.ofInt n).toNatClampNeg = fun q : Nat => Int32.ofInt (mCpy f g sp dp n q) := by
  funext q
  unfold va_cpy mCpy
  rw [o_clamp h1 a1, o_clamp h2 a2, o_clamp h3 a3]
  by_cases e : dp.toNat ≤ q ∧ q < dp.toNat + n.toNat
  · rw [if_pos e, if_pos (by omega)]
    show Int32.ofInt (f ((sp.toNat + (q - dp.toNat) : Nat) : Int)) = _
    rw [show ((sp.toNat + (q - dp.toNat) : Nat) : Int) = sp + ((q : Int) - dp) by omega]
  · rw [if_neg e, if_neg (by omega)]
theorem iAbs_R {x : Int} (h : R32 x) : R32 (iAbs x) := by
  unfold iAbs
  by_cases g : 0 ≤ x
  · rw [if_pos g]; exact h
  · rw [if_neg g]; exact w32_R _
theorem nfw : nativeFrameWords "java/lang/System" "arraycopy" 5 ≤ 60 := by decide +kernel
theorem nz {k : Nat} (h1 : 1 ≤ k) (h2 : k ≤ 141) : k ≠ 0 ∧ k ≠ 151 := by omega
def retOK (j : Nat) : Instr → Option mV → Prop
  | .ireturn, some (.inl x) => rOK (rtOf j) x
  | .lreturn, some (.inr (.inl _)) => rtOf j = some .long
  | .areturn, some (.inr (.inr k)) => k ≠ 151 ∧ rfr (rtOf j) = true
  | .return_, none => rtOf j = none
  | _, _ => False
section Rows2
variable {p : Program} {l : Launch} {e : Env} {R : Room} {s : State} {m : MethodId} {args : Array Value} {below : List Frame} {meth : Method} {c : Code} {QQ : State → Prop} {G : mG} {A : Nat → Prop} {cells slots d j : Nat} {M0 : mM} {Q : mQ}
theorem ab_getf (CX : mCx p l R s m args c G A cells slots d j M0) {pc : Nat} {lv : mL} {st : List mV} {M : mM} {x c0 f kd k : Nat} {v : mV} (hd : decode (cOf j) pc = .ok (.getfield x, 3)) (hq : fR (oOf j) x = (c0, f, kd)) (hc : clO k = c0) (hkd : kd ≠ 9) (hv : ((kd = 0 ∨ kd = 1 ∨ kd = 4) ∧ v = vi (M k (f : Int))) ∨ (kd = 2 ∧ v = vr (rf k (f : Int))) ∨ (kd = 3 ∧ v = vr (M k (f : Int)).toNat)) (h : mAb p l e R s m args below meth c QQ G A cells slots j M0 (pc + 3) lv (v :: st) M) : mAb p l e R s m args below meth c QQ G A cells slots j M0 pc lv (vr k :: st) M := by
  intro okm hs okl oks ls H locs hl hP hS
  have okv : okV v := by
    rcases hv with ⟨-, rfl⟩ | ⟨-, rfl⟩ | ⟨-, rfl⟩
    · refine (okm k f).2 (fun q => ?_)
      rcases fR_cls hq hkd with g | g
      · have := (cl_own (k := k) (by omega)).1; omega
      · rcases cl_str (k := k) (by omega) with rfl | rfl <;> exact absurd q (by decide +kernel)
    · trivial
    · trivial
  have h := h okm hs okl (List.forall_mem_cons.mpr ⟨okv, (fun w hw => oks w (List.mem_cons_of_mem _ hw))⟩) ls H locs hl hP hS
  rcases fR_cls hq hkd with hlt | h14
  · obtain ⟨h1, h2, h3, h4, h5⟩ := fR_own hq hlt
    obtain ⟨a1, a2, a3, a4⟩ := cl_own (k := k) (by omega)
    rw [List.map_cons, cv_ref (nz a3 a4).1 (nz a3 a4).2]
    refine va_get CX.1 CX.2.1 CX.2.2.2.2.1 (ws_in c0 hlt) CX.2.2.2.1 CX.2.2.2.2.2.1 hP (k - 1) (wE_o a3 a4 a1 (a2.trans hc)) (vw_at c0 hlt) f h1 (CX.2.2.2.2.1 _ h3) (fun y hy => by rw [← h4]; exact hy) (wF_at G k (M k) h1) hd ?_
    have e0 : fV G k (M k) (fk c0 f) f = cv G v := by
      unfold fV
      rw [h2]
      rcases hv with ⟨hk, rfl⟩ | ⟨hk, rfl⟩ | ⟨hk, rfl⟩
      · rw [if_neg (by omega), if_neg (by omega)]; rfl
      · rw [if_pos hk]; rfl
      · rw [if_neg (by omega), if_pos hk]; rfl
    rw [e0]
    exact h
  · subst h14
    obtain ⟨-, -, -, -, h5, h6, -⟩ := CX.2.2.2.2.2.2.1
    have e148 : cv G (vr 148) = .ref (G.2.2.1 148) := cv_ref (by decide) (by decide)
    have e150 : cv G (vr 150) = .ref (G.2.2.1 150) := cv_ref (by decide) (by decide)
    have m1 : M 147 = M0 147 := hs 147 (by decide)
    have m2 : M 149 = M0 149 := hs 149 (by decide)
    rcases fR_str hq with ⟨rfl, rfl, hw⟩ | ⟨rfl, rfl, hw⟩
    · rcases hv with ⟨hk, -⟩ | ⟨-, rfl⟩ | ⟨hk, -⟩
      · omega
      · rcases cl_str hc with rfl | rfl
        · rw [List.map_cons, cv_ref (by decide) (by decide)]
          rw [List.map_cons, show rf 147 ((0 : Nat) : Int) = 148 by decide +kernel, e148] at h
          exact vk_getf CX.1 CX.2.1 h5.2.2.1 hS CX.2.2.2.1 (CX.2.2.2.2.1 _ hw) (fun _ y => y) hd h
        · rw [List.map_cons, cv_ref (by decide) (by decide)]
          rw [List.map_cons, show rf 149 ((0 : Nat) : Int) = 150 by decide +kernel, e150] at h
          exact vk_getf CX.1 CX.2.1 h6.2.2.1 hS CX.2.2.2.1 (CX.2.2.2.2.1 _ hw) (fun _ y => y) hd h
      · omega
    · rcases hv with ⟨-, rfl⟩ | ⟨hk, -⟩ | ⟨hk, -⟩
      · rcases cl_str hc with rfl | rfl
        · rw [List.map_cons, cv_ref (by decide) (by decide)]
          rw [m1, show M0 147 ((1 : Nat) : Int) = 0 from h5.2.2.2.2] at h
          exact vk_getf CX.1 CX.2.1 h5.2.1 hS CX.2.2.2.1 (CX.2.2.2.2.1 _ hw) (fun _ y => y) hd h
        · rw [List.map_cons, cv_ref (by decide) (by decide)]
          rw [m2, show M0 149 ((1 : Nat) : Int) = 0 from h6.2.2.2.2] at h
          exact vk_getf CX.1 CX.2.1 h6.2.1 hS CX.2.2.2.1 (CX.2.2.2.2.1 _ hw) (fun _ y => y) hd h
      · omega
      · omega
theorem ab_puti (CX : mCx p l R s m args c G A cells slots d j M0) {pc : Nat} {lv : mL} {st : List mV} {M : mM} {x c0 f k : Nat} {v : Int} (hd : decode (cOf j) pc = .ok (.putfield x, 3)) (hq : fR (oOf j) x = (c0, f, 0)) (hc : clO k = c0) (h : mAb p l e R s m args below meth c QQ G A cells slots j M0 (pc + 3) lv st (upC M k (mU (M k) (f : Int) v))) : mAb p l e R s m args below meth c QQ G A cells slots j M0 pc lv (vi v :: vr k :: st) M := by
  intro okm hs okl oks ls H locs hl hP hS
  have hlt : c0 < 13 := by
    rcases fR_cls hq (by decide) with g | g
    · exact g
    · subst g
      rcases fR_str hq with ⟨-, q, -⟩ | ⟨-, q, -⟩ <;> exact absurd q (by decide)
  obtain ⟨h1, h2, h3, h4, h5⟩ := fR_own hq hlt
  obtain ⟨a1, a2, a3, a4⟩ := cl_own (k := k) (by omega)
  have ht := fk_ty c0 hlt f h1
  rw [List.map_cons, List.map_cons, cv_ref (nz a3 a4).1 (nz a3 a4).2]
  have e0 : fV G k (mU (M k) (f : Int) v) (fk c0 f) f = cv G (vi v) := by
    unfold fV
    rw [h2, mU_e]
    rfl
  refine va_put CX.1 CX.2.1 CX.2.2.2.2.1 (ws_in c0 hlt) (tyXa c0) (ty_ok c0 hlt) (nm_ok c0 hlt) CX.2.2.2.1 CX.2.2.2.2.2.1 hP (wW_D CX.2.2.2.2.2.2.2.1 CX.2.2.2.2.2.2.2.2.1 M) hS (k - 1) (wE_o a3 a4 a1 (a2.trans hc)) (vw_at c0 hlt) f h1 (CX.2.2.2.2.1 _ h3) (fun y hy => by rw [← h4]; exact hy) (h5.resolve_left (by decide)) (ty_ok c0 hlt f h1) (v := cv G (vi v)) (by rw [ht.1 h2]; rfl) (by rw [ht.1 h2]; rfl) (by rw [wF_len]; exact h1) hd (fun H1 locs1 hP1 _ hS1 => ?_)
  refine h (okM_up okm (okc_u (okm k) ⟨fun q => absurd q (by omega), fun _ => oks _ List.mem_cons_self⟩)) (sS_up hs a4) okl (fun w hw => oks w (List.mem_cons_of_mem _ (List.mem_cons_of_mem _ hw))) ls H1 locs1 hl ?_ hS1
  rw [← wW_set G M a3 a4]
  unfold wE
  rw [if_pos a1, a2.trans hc, ← wF_set G k (M k) h1, e0]
  exact hP1
theorem ab_putz (CX : mCx p l R s m args c G A cells slots d j M0) {pc : Nat} {lv : mL} {st : List mV} {M : mM} {x c0 f k : Nat} {v : Int} (hd : decode (cOf j) pc = .ok (.putfield x, 3)) (hq : fR (oOf j) x = (c0, f, 1)) (hc : clO k = c0) (hz : v = 0 ∨ v = 1) (h : mAb p l e R s m args below meth c QQ G A cells slots j M0 (pc + 3) lv st (upC M k (mU (M k) (f : Int) v))) : mAb p l e R s m args below meth c QQ G A cells slots j M0 pc lv (vi v :: vr k :: st) M := by
  intro okm hs okl oks ls H locs hl hP hS
  have hlt : c0 < 13 := by
    rcases fR_cls hq (by decide) with g | g
    · exact g
    · subst g
      rcases fR_str hq with ⟨-, q, -⟩ | ⟨-, q, -⟩ <;> exact absurd q (by decide)
  obtain ⟨h1, h2, h3, h4, h5⟩ := fR_own hq hlt
  obtain ⟨a1, a2, a3, a4⟩ := cl_own (k := k) (by omega)
  have ht := fk_ty c0 hlt f h1
  rw [List.map_cons, List.map_cons, cv_ref (nz a3 a4).1 (nz a3 a4).2]
  have e0 : fV G k (mU (M k) (f : Int) v) (fk c0 f) f = cv G (vi v) := by
    unfold fV
    rw [h2, mU_e]
    rfl
  refine va_put CX.1 CX.2.1 CX.2.2.2.2.1 (ws_in c0 hlt) (tyXa c0) (ty_ok c0 hlt) (nm_ok c0 hlt) CX.2.2.2.1 CX.2.2.2.2.2.1 hP (wW_D CX.2.2.2.2.2.2.2.1 CX.2.2.2.2.2.2.2.2.1 M) hS (k - 1) (wE_o a3 a4 a1 (a2.trans hc)) (vw_at c0 hlt) f h1 (CX.2.2.2.2.1 _ h3) (fun y hy => by rw [← h4]; exact hy) (h5.resolve_left (by decide)) (ty_ok c0 hlt f h1) (v := cv G (vi v)) (by rw [ht.2.1 h2]; rcases hz with rfl | rfl <;> rfl) (by rw [ht.2.1 h2]; rcases hz with rfl | rfl <;> rfl) (by rw [wF_len]; exact h1) hd (fun H1 locs1 hP1 _ hS1 => ?_)
  refine h (okM_up okm (okc_u (okm k) ⟨fun q => absurd q (by omega), fun _ => oks _ List.mem_cons_self⟩)) (sS_up hs a4) okl (fun w hw => oks w (List.mem_cons_of_mem _ (List.mem_cons_of_mem _ hw))) ls H1 locs1 hl ?_ hS1
  rw [← wW_set G M a3 a4]
  unfold wE
  rw [if_pos a1, a2.trans hc, ← wF_set G k (M k) h1, e0]
  exact hP1
theorem ab_putd (CX : mCx p l R s m args c G A cells slots d j M0) {pc : Nat} {lv : mL} {st : List mV} {M : mM} {x c0 f k : Nat} {v : Nat} (hd : decode (cOf j) pc = .ok (.putfield x, 3)) (hq : fR (oOf j) x = (c0, f, 3)) (hc : clO k = c0) (hz : v < 2147483648) (h : mAb p l e R s m args below meth c QQ G A cells slots j M0 (pc + 3) lv st (upC M k (mU (M k) (f : Int) (v : Int)))) : mAb p l e R s m args below meth c QQ G A cells slots j M0 pc lv (vr v :: vr k :: st) M := by
  intro okm hs okl oks ls H locs hl hP hS
  have hlt : c0 < 13 := by
    rcases fR_cls hq (by decide) with g | g
    · exact g
    · subst g
      rcases fR_str hq with ⟨-, q, -⟩ | ⟨-, q, -⟩ <;> exact absurd q (by decide)
  obtain ⟨h1, h2, h3, h4, h5⟩ := fR_own hq hlt
  obtain ⟨a1, a2, a3, a4⟩ := cl_own (k := k) (by omega)
  have ht := fk_ty c0 hlt f h1
  rw [List.map_cons, List.map_cons, cv_ref (nz a3 a4).1 (nz a3 a4).2]
  have e0 : fV G k (mU (M k) (f : Int) (v : Int)) (fk c0 f) f = cv G (vr v) := by
    unfold fV
    rw [h2, mU_e]
    rfl
  refine va_put CX.1 CX.2.1 CX.2.2.2.2.1 (ws_in c0 hlt) (tyXa c0) (ty_ok c0 hlt) (nm_ok c0 hlt) CX.2.2.2.1 CX.2.2.2.2.2.1 hP (wW_D CX.2.2.2.2.2.2.2.1 CX.2.2.2.2.2.2.2.2.1 M) hS (k - 1) (wE_o a3 a4 a1 (a2.trans hc)) (vw_at c0 hlt) f h1 (CX.2.2.2.2.1 _ h3) (fun y hy => by rw [← h4]; exact hy) (h5.resolve_left (by decide)) (ty_ok c0 hlt f h1) (v := cv G (vr v)) (by rw [ht.2.2 h2]; show narrow _ (va_rf (al G v)) = va_rf (al G v); cases al G v <;> rfl) (by rw [ht.2.2 h2]; show fits _ (va_rf (al G v)) = true; cases al G v <;> rfl) (by rw [wF_len]; exact h1) hd (fun H1 locs1 hP1 _ hS1 => ?_)
  refine h (okM_up okm (okc_u (okm k) ⟨fun q => absurd q (by omega), fun _ => ⟨by omega, by omega⟩⟩)) (sS_up hs a4) okl (fun w hw => oks w (List.mem_cons_of_mem _ (List.mem_cons_of_mem _ hw))) ls H1 locs1 hl ?_ hS1
  rw [← wW_set G M a3 a4]
  unfold wE
  rw [if_pos a1, a2.trans hc, ← wF_set G k (M k) h1, e0]
  exact hP1
theorem ab_getsi (CX : mCx p l R s m args c G A cells slots d j M0) {pc : Nat} {lv : mL} {st : List mV} {M : mM} {x : Nat} {z : Int} (hd : decode (cOf j) pc = .ok (.getstatic x, 3)) (hq : gR (oOf j) x = (1, z)) (h : mAb p l e R s m args below meth c QQ G A cells slots j M0 (pc + 3) lv (vi z :: st) M) : mAb p l e R s m args below meth c QQ G A cells slots j M0 pc lv st M := by
  intro okm hs okl oks ls H locs hl hP hS
  obtain ⟨q, hq7, hw, hz⟩ := gR_mem hq (by decide)
  obtain ⟨-, -, h3, -⟩ := CX.2.2.2.2.2.2.1
  rcases hz with ⟨-, g, -⟩ | ⟨rfl, -, rfl⟩ | ⟨-, g, -⟩
  · exact absurd g (by decide)
  · exact va_gets CX.1 CX.2.1 h3 hS CX.2.2.2.1 (CX.2.2.2.2.1 _ hw) (fun _ y => y) hd (h okm hs okl (List.forall_mem_cons.mpr ⟨⟨by decide, by decide⟩, oks⟩) ls H locs hl hP hS)
  · exact absurd g (by decide)
theorem ab_getsr (CX : mCx p l R s m args c G A cells slots d j M0) {pc : Nat} {lv : mL} {st : List mV} {M : mM} {x : Nat} {z : Int} (hd : decode (cOf j) pc = .ok (.getstatic x, 3)) (hq : gR (oOf j) x = (2, z)) (h : mAb p l e R s m args below meth c QQ G A cells slots j M0 (pc + 3) lv (vr z.toNat :: st) M) : mAb p l e R s m args below meth c QQ G A cells slots j M0 pc lv st M := by
  intro okm hs okl oks ls H locs hl hP hS
  obtain ⟨q, hq7, hw, hz⟩ := gR_mem hq (by decide)
  obtain ⟨-, h2, -, h4, -⟩ := CX.2.2.2.2.2.2.1
  have h := h okm hs okl (List.forall_mem_cons.mpr ⟨trivial, oks⟩) ls H locs hl hP hS
  rcases hz with ⟨g5, -, rfl⟩ | ⟨-, g, -⟩ | ⟨rfl, -, rfl⟩
  · rw [show (142 + (q : Int)).toNat = 142 + q by omega, List.map_cons, cv_ref (by omega) (by omega)] at h
    exact va_gets CX.1 CX.2.1 (h2 q g5) hS CX.2.2.2.1 (CX.2.2.2.2.1 _ hw) (fun _ y => y) hd h
  · exact absurd g (by decide)
  · exact va_gets CX.1 CX.2.1 h4 hS CX.2.2.2.1 (CX.2.2.2.2.1 _ hw) (fun _ y => y) hd h
theorem ab_iald (CX : mCx p l R s m args c G A cells slots d j M0) {pc : Nat} {lv : mL} {st : List mV} {M : mM} {k : Nat} {i : Int} (hd : decode (cOf j) pc = .ok (.iaload, 1)) (ha : ak k = 2 ∨ ak k = 7 ∨ ak k = 10) (hi : xOk (ak k) (aln k) k i M) (h : mAb p l e R s m args below meth c QQ G A cells slots j M0 (pc + 1) lv (vi (M k i) :: st) M) : mAb p l e R s m args below meth c QQ G A cells slots j M0 pc lv (vi i :: vr k :: st) M := by
  intro okm hs okl oks ls H locs hl hP hS
  have hR : R32 i := oks _ List.mem_cons_self
  have h := h okm hs okl (List.forall_mem_cons.mpr ⟨(okm k i).2 (by omega), (fun w hw => oks w (List.mem_cons_of_mem _ (List.mem_cons_of_mem _ hw)))⟩) ls H locs hl hP hS
  rcases ha with ha | ha | ha
  · obtain ⟨a3, a4, -⟩ := ak_own (k := k) (by omega)
    rw [List.map_cons, List.map_cons, cv_ref (nz a3 a4).1 (nz a3 a4).2]
    refine va_iald CX.1 CX.2.1 CX.2.2.2.2.2.1 hP (k - 1) 0 ((wW_at G M a3 a4).trans (by rw [wE_i (Or.inl rfl) ha])) rfl (o_in hR hi.1 (by rcases hi.2 with q | q <;> omega)) hd ?_
    rw [o_ix hR hi.1]
    exact h
  · obtain ⟨b1, b2, b3⟩ := ak_7 ha
    obtain ⟨h1, -⟩ := CX.2.2.2.2.2.2.1
    have h1 := h1 (k - 142) (by omega)
    rw [show 142 + (k - 142) = k by omega] at h1
    rw [List.map_cons, List.map_cons, cv_ref (by omega) (by omega)]
    refine va_ti CX.1 CX.2.1 h1 hS (o_in hR hi.1 (by rcases hi.2 with q | q <;> omega)) (v := cv G (vi (M k i))) ?_ hd h
    show Value.int _ = _
    rw [o_ix hR hi.1, hs k b1]
    rfl
  · have hk := ak_10 ha
    subst hk
    obtain ⟨-, -, -, -, -, -, -, -, ⟨x1, x2, x3, x4⟩, -⟩ := CX.2.2.2.2.2.2.1
    have m1 : M 152 = M0 152 := hs 152 (by decide)
    rw [List.map_cons, List.map_cons, cv_ref (by omega) (by omega)]
    refine va_sld CX.1 CX.2.1 x2 x3 x4 hS (o_in hR hi.1 (by have hi2 := hi.2; rw [m1] at hi2; rcases hi2 with q | q <;> omega)) hd ?_
    rw [o_ix hR hi.1, ← m1]
    exact h
theorem ab_bald (CX : mCx p l R s m args c G A cells slots d j M0) {pc : Nat} {lv : mL} {st : List mV} {M : mM} {k : Nat} {i : Int} (hd : decode (cOf j) pc = .ok (.baload, 1)) (ha : ak k = 3 ∨ ak k = 5 ∨ ak k = 9) (hi : xOk (ak k) (aln k) k i M) (h : mAb p l e R s m args below meth c QQ G A cells slots j M0 (pc + 1) lv (vi (M k i) :: st) M) : mAb p l e R s m args below meth c QQ G A cells slots j M0 pc lv (vi i :: vr k :: st) M := by
  intro okm hs okl oks ls H locs hl hP hS
  have hR : R32 i := oks _ List.mem_cons_self
  have h := h okm hs okl (List.forall_mem_cons.mpr ⟨(okm k i).2 (by omega), (fun w hw => oks w (List.mem_cons_of_mem _ (List.mem_cons_of_mem _ hw)))⟩) ls H locs hl hP hS
  rcases ha with ha | ha | ha
  · obtain ⟨a3, a4, -⟩ := ak_own (k := k) (by omega)
    rw [List.map_cons, List.map_cons, cv_ref (nz a3 a4).1 (nz a3 a4).2]
    refine va_bald CX.1 CX.2.1 CX.2.2.2.2.2.1 hP (k - 1) 1 ((wW_at G M a3 a4).trans (by rw [wE_i (Or.inr (Or.inl rfl)) ha])) rfl (o_in hR hi.1 (by rcases hi.2 with q | q <;> omega)) hd ?_
    rw [o_ix hR hi.1]
    exact h
  · obtain ⟨a3, a4, -⟩ := ak_own (k := k) (by omega)
    rw [List.map_cons, List.map_cons, cv_ref (nz a3 a4).1 (nz a3 a4).2]
    refine va_zald CX.1 CX.2.1 CX.2.2.2.2.2.1 hP (k - 1) 3 ((wW_at G M a3 a4).trans (by rw [wE_i (Or.inr (Or.inr rfl)) ha])) rfl (o_in hR hi.1 (by rcases hi.2 with q | q <;> omega)) hd ?_
    rw [o_ix hR hi.1]
    exact h
  · obtain ⟨-, -, -, -, h5, h6, -⟩ := CX.2.2.2.2.2.2.1
    rcases ak_9 ha with ⟨rfl, b2⟩ | ⟨rfl, b2⟩
    · rw [List.map_cons, List.map_cons, cv_ref (by omega) (by omega)]
      refine va_tb CX.1 CX.2.1 h5.2.2.2.1 hS (o_in hR hi.1 (by rcases hi.2 with q | q <;> omega)) (v := cv G (vi (M 148 i))) ?_ hd h
      show Value.int _ = _
      rw [o_ix hR hi.1, hs 148 (by decide)]
      rfl
    · rw [List.map_cons, List.map_cons, cv_ref (by omega) (by omega)]
      refine va_tb CX.1 CX.2.1 h6.2.2.2.1 hS (o_in hR hi.1 (by rcases hi.2 with q | q <;> omega)) (v := cv G (vi (M 150 i))) ?_ hd h
      show Value.int _ = _
      rw [o_ix hR hi.1, hs 150 (by decide)]
      rfl
theorem ab_lald (CX : mCx p l R s m args c G A cells slots d j M0) {pc : Nat} {lv : mL} {st : List mV} {M : mM} {k : Nat} {i : Int} (hd : decode (cOf j) pc = .ok (.laload, 1)) (ha : ak k = 4) (hi : xOk (ak k) (aln k) k i M) (h : mAb p l e R s m args below meth c QQ G A cells slots j M0 (pc + 1) lv (vl (M k i) :: st) M) : mAb p l e R s m args below meth c QQ G A cells slots j M0 pc lv (vi i :: vr k :: st) M := by
  intro okm hs okl oks ls H locs hl hP hS
  have hR : R32 i := oks _ List.mem_cons_self
  have h := h okm hs okl (List.forall_mem_cons.mpr ⟨(okm k i).1 ha, (fun w hw => oks w (List.mem_cons_of_mem _ (List.mem_cons_of_mem _ hw)))⟩) ls H locs hl hP hS
  obtain ⟨a3, a4, -⟩ := ak_own (k := k) (by omega)
  rw [List.map_cons, List.map_cons, cv_ref (nz a3 a4).1 (nz a3 a4).2]
  refine va_lald CX.1 CX.2.1 CX.2.2.2.2.2.1 hP (k - 1) 2 ((wW_at G M a3 a4).trans (by rw [wE_l ha])) rfl (o_in hR hi.1 (by rcases hi.2 with q | q <;> omega)) hd ?_
  rw [o_ix hR hi.1]
  exact h
theorem ab_aald (CX : mCx p l R s m args c G A cells slots d j M0) {pc : Nat} {lv : mL} {st : List mV} {M : mM} {k : Nat} {i : Int} (hd : decode (cOf j) pc = .ok (.aaload, 1)) (ha : ak k = 6) (hi : xOk (ak k) (aln k) k i M) (h : mAb p l e R s m args below meth c QQ G A cells slots j M0 (pc + 1) lv (vr (rf k i) :: st) M) : mAb p l e R s m args below meth c QQ G A cells slots j M0 pc lv (vi i :: vr k :: st) M := by
  intro okm hs okl oks ls H locs hl hP hS
  have hR : R32 i := oks _ List.mem_cons_self
  have h := h okm hs okl (List.forall_mem_cons.mpr ⟨trivial, (fun w hw => oks w (List.mem_cons_of_mem _ (List.mem_cons_of_mem _ hw)))⟩) ls H locs hl hP hS
  obtain ⟨a3, a4, -⟩ := ak_own (k := k) (by omega)
  rw [List.map_cons, List.map_cons, cv_ref (nz a3 a4).1 (nz a3 a4).2]
  refine va_aldq CX.1 CX.2.1 CX.2.2.2.2.2.1 hP (k - 1) 4 ((wW_at G M a3 a4).trans (by rw [wE_r ha])) rfl (o_in hR hi.1 (by rcases hi.2 with q | q <;> omega)) hd ?_
  rw [o_ix hR hi.1]
  exact h
theorem ab_iast (CX : mCx p l R s m args c G A cells slots d j M0) {pc : Nat} {lv : mL} {st : List mV} {M : mM} {k : Nat} {i v : Int} (hd : decode (cOf j) pc = .ok (.iastore, 1)) (ha : ak k = 2) (hi : xOk (ak k) (aln k) k i M) (h : mAb p l e R s m args below meth c QQ G A cells slots j M0 (pc + 1) lv st (upC M k (mU (M k) i v))) : mAb p l e R s m args below meth c QQ G A cells slots j M0 pc lv (vi v :: vi i :: vr k :: st) M := by
  intro okm hs okl oks ls H locs hl hP hS
  have hR : R32 i := oks _ (List.mem_cons_of_mem _ List.mem_cons_self)
  obtain ⟨a3, a4, -⟩ := ak_own (k := k) (by omega)
  rw [List.map_cons, List.map_cons, List.map_cons, cv_ref (nz a3 a4).1 (nz a3 a4).2]
  refine va_iast CX.1 CX.2.1 CX.2.2.2.2.2.1 hP (wW_D CX.2.2.2.2.2.2.2.1 CX.2.2.2.2.2.2.2.2.1 M) hS (k - 1) 0 ((wW_at G M a3 a4).trans (by rw [wE_i (Or.inl rfl) ha])) rfl (o_in hR hi.1 (by rcases hi.2 with q | q <;> omega)) hd (fun H1 locs1 hP1 _ hS1 => ?_)
  refine h (okM_up okm (okc_u (okm k) ⟨fun q => absurd q (by omega), fun _ => oks _ List.mem_cons_self⟩)) (sS_up hs a4) okl (fun w hw => oks w (List.mem_cons_of_mem _ (List.mem_cons_of_mem _ (List.mem_cons_of_mem _ hw)))) ls H1 locs1 hl ?_ hS1
  rw [← wW_set G M a3 a4, wE_i (Or.inl rfl) ha]
  rw [upd_i hR hi.1] at hP1
  exact hP1
theorem ab_bast (CX : mCx p l R s m args c G A cells slots d j M0) {pc : Nat} {lv : mL} {st : List mV} {M : mM} {k : Nat} {i v : Int} (hd : decode (cOf j) pc = .ok (.bastore, 1)) (ha : ak k = 3) (hi : xOk (ak k) (aln k) k i M) (h : mAb p l e R s m args below meth c QQ G A cells slots j M0 (pc + 1) lv st (upC M k (mU (M k) i (i2b v)))) : mAb p l e R s m args below meth c QQ G A cells slots j M0 pc lv (vi v :: vi i :: vr k :: st) M := by
  intro okm hs okl oks ls H locs hl hP hS
  have hR : R32 i := oks _ (List.mem_cons_of_mem _ List.mem_cons_self)
  obtain ⟨a3, a4, -⟩ := ak_own (k := k) (by omega)
  rw [List.map_cons, List.map_cons, List.map_cons, cv_ref (nz a3 a4).1 (nz a3 a4).2]
  refine va_bast CX.1 CX.2.1 CX.2.2.2.2.2.1 hP (wW_D CX.2.2.2.2.2.2.2.1 CX.2.2.2.2.2.2.2.2.1 M) hS (k - 1) 1 ((wW_at G M a3 a4).trans (by rw [wE_i (Or.inr (Or.inl rfl)) ha])) rfl (o_in hR hi.1 (by rcases hi.2 with q | q <;> omega)) hd (fun H1 locs1 hP1 _ hS1 => ?_)
  refine h (okM_up okm (okc_u (okm k) ⟨fun q => absurd q (by omega), fun _ => by have := i2b_R v; unfold R32; omega⟩)) (sS_up hs a4) okl (fun w hw => oks w (List.mem_cons_of_mem _ (List.mem_cons_of_mem _ (List.mem_cons_of_mem _ hw)))) ls H1 locs1 hl ?_ hS1
  rw [← wW_set G M a3 a4, wE_i (Or.inr (Or.inl rfl)) ha]
  rw [vp_nar_byte, o_byte, upd_i hR hi.1] at hP1
  exact hP1
theorem ab_zast (CX : mCx p l R s m args c G A cells slots d j M0) {pc : Nat} {lv : mL} {st : List mV} {M : mM} {k : Nat} {i v : Int} (hd : decode (cOf j) pc = .ok (.bastore, 1)) (ha : ak k = 5) (hz : v = 0 ∨ v = 1) (hi : xOk (ak k) (aln k) k i M) (h : mAb p l e R s m args below meth c QQ G A cells slots j M0 (pc + 1) lv st (upC M k (mU (M k) i v))) : mAb p l e R s m args below meth c QQ G A cells slots j M0 pc lv (vi v :: vi i :: vr k :: st) M := by
  intro okm hs okl oks ls H locs hl hP hS
  have hR : R32 i := oks _ (List.mem_cons_of_mem _ List.mem_cons_self)
  obtain ⟨a3, a4, -⟩ := ak_own (k := k) (by omega)
  rw [List.map_cons, List.map_cons, List.map_cons, cv_ref (nz a3 a4).1 (nz a3 a4).2]
  refine va_zast CX.1 CX.2.1 CX.2.2.2.2.2.1 hP (wW_D CX.2.2.2.2.2.2.2.1 CX.2.2.2.2.2.2.2.2.1 M) hS (k - 1) 3 ((wW_at G M a3 a4).trans (by rw [wE_i (Or.inr (Or.inr rfl)) ha])) rfl (o_in hR hi.1 (by rcases hi.2 with q | q <;> omega)) hd (fun H1 locs1 hP1 _ hS1 => ?_)
  refine h (okM_up okm (okc_u (okm k) ⟨fun q => absurd q (by omega), fun _ => oks _ List.mem_cons_self⟩)) (sS_up hs a4) okl (fun w hw => oks w (List.mem_cons_of_mem _ (List.mem_cons_of_mem _ (List.mem_cons_of_mem _ hw)))) ls H1 locs1 hl ?_ hS1
  rw [← wW_set G M a3 a4, wE_i (Or.inr (Or.inr rfl)) ha]
  rw [show vp_nar .boolean (Int32.ofInt v) = Int32.ofInt v by rcases hz with rfl | rfl <;> rfl, upd_i hR hi.1] at hP1
  exact hP1
theorem ab_last (CX : mCx p l R s m args c G A cells slots d j M0) {pc : Nat} {lv : mL} {st : List mV} {M : mM} {k : Nat} {i v : Int} (hd : decode (cOf j) pc = .ok (.lastore, 1)) (ha : ak k = 4) (hi : xOk (ak k) (aln k) k i M) (h : mAb p l e R s m args below meth c QQ G A cells slots j M0 (pc + 1) lv st (upC M k (mU (M k) i v))) : mAb p l e R s m args below meth c QQ G A cells slots j M0 pc lv (vl v :: vi i :: vr k :: st) M := by
  intro okm hs okl oks ls H locs hl hP hS
  have hR : R32 i := oks _ (List.mem_cons_of_mem _ List.mem_cons_self)
  obtain ⟨a3, a4, -⟩ := ak_own (k := k) (by omega)
  rw [List.map_cons, List.map_cons, List.map_cons, cv_ref (nz a3 a4).1 (nz a3 a4).2]
  refine va_last CX.1 CX.2.1 CX.2.2.2.2.2.1 hP (wW_D CX.2.2.2.2.2.2.2.1 CX.2.2.2.2.2.2.2.2.1 M) hS (k - 1) 2 ((wW_at G M a3 a4).trans (by rw [wE_l ha])) rfl (o_in hR hi.1 (by rcases hi.2 with q | q <;> omega)) hd (fun H1 locs1 hP1 _ hS1 => ?_)
  refine h (okM_up okm (okc_u (okm k) ⟨fun _ => oks _ List.mem_cons_self, fun q => absurd ha q⟩)) (sS_up hs a4) okl (fun w hw => oks w (List.mem_cons_of_mem _ (List.mem_cons_of_mem _ (List.mem_cons_of_mem _ hw)))) ls H1 locs1 hl ?_ hS1
  rw [← wW_set G M a3 a4, wE_l ha]
  rw [upd_l hR hi.1] at hP1
  exact hP1
theorem ab_alen (CX : mCx p l R s m args c G A cells slots d j M0) {pc : Nat} {lv : mL} {st : List mV} {M : mM} {k : Nat} (hd : decode (cOf j) pc = .ok (.arraylength, 1)) (ha : ak k = 2 ∨ ak k = 3 ∨ ak k = 4 ∨ ak k = 5 ∨ ak k = 6 ∨ ak k = 7 ∨ ak k = 9) (h : mAb p l e R s m args below meth c QQ G A cells slots j M0 (pc + 1) lv (vi (aln k) :: st) M) : mAb p l e R s m args below meth c QQ G A cells slots j M0 pc lv (vr k :: st) M := by
  intro okm hs okl oks ls H locs hl hP hS
  have hR : R32 (aln k) := by
    by_cases g : ak k = 7 ∨ ak k = 9
    · rcases g with g | g
      · have := (ak_7 g).2.2; unfold R32; omega
      · have := ak_9 g; unfold R32; omega
    · have := (ak_own (k := k) (by omega)).2.2; unfold R32; omega
  have hN : Int32.ofNat (aln k) = Int32.ofInt (aln k) := o_nat (by have := hR.2; omega)
  have h := h okm hs okl (List.forall_mem_cons.mpr ⟨hR, (fun w hw => oks w (List.mem_cons_of_mem _ hw))⟩) ls H locs hl hP hS
  by_cases g7 : ak k = 7
  · obtain ⟨b1, b2, b3⟩ := ak_7 g7
    obtain ⟨h1, -⟩ := CX.2.2.2.2.2.2.1
    have h1 := h1 (k - 142) (by omega)
    rw [show 142 + (k - 142) = k by omega] at h1
    rw [List.map_cons, cv_ref (by omega) (by omega)]
    exact va_tlen CX.1 CX.2.1 h1 hS (by rw [← hN, b3]) hd h
  by_cases g9 : ak k = 9
  · obtain ⟨-, -, -, -, h5, h6, -⟩ := CX.2.2.2.2.2.2.1
    rcases ak_9 g9 with ⟨rfl, b2⟩ | ⟨rfl, b2⟩
    · rw [List.map_cons, cv_ref (by omega) (by omega)]
      exact va_tlen CX.1 CX.2.1 h5.2.2.2.1 hS (by rw [← hN, b2]) hd h
    · rw [List.map_cons, cv_ref (by omega) (by omega)]
      exact va_tlen CX.1 CX.2.1 h6.2.2.2.1 hS (by rw [← hN, b2]) hd h
  obtain ⟨a3, a4, -⟩ := ak_own (k := k) (by omega)
  rw [List.map_cons, cv_ref (nz a3 a4).1 (nz a3 a4).2]
  have e1 := wW_at G M a3 a4
  rcases (show ak k = 2 ∨ ak k = 3 ∨ ak k = 5 ∨ ak k = 4 ∨ ak k = 6 by omega) with g | g | g | g | g
  · rw [wE_i (Or.inl rfl) g] at e1
    exact va_alen CX.1 CX.2.1 CX.2.2.2.2.2.1 hP (k - 1) 0 e1 rfl hN hd h
  · rw [wE_i (Or.inr (Or.inl rfl)) g] at e1
    exact va_alen CX.1 CX.2.1 CX.2.2.2.2.2.1 hP (k - 1) 1 e1 rfl hN hd h
  · rw [wE_i (Or.inr (Or.inr rfl)) g] at e1
    exact va_alen CX.1 CX.2.1 CX.2.2.2.2.2.1 hP (k - 1) 3 e1 rfl hN hd h
  · rw [wE_l g] at e1
    exact va_alen CX.1 CX.2.1 CX.2.2.2.2.2.1 hP (k - 1) 2 e1 rfl hN hd h
  · rw [wE_r g] at e1
    exact va_alen CX.1 CX.2.1 CX.2.2.2.2.2.1 hP (k - 1) 4 e1 rfl hN hd h
theorem ab_slen (CX : mCx p l R s m args c G A cells slots d j M0) {pc : Nat} {lv : mL} {st : List mV} {M : mM} {k : Nat} (hd : decode (cOf j) pc = .ok (.arraylength, 1)) (ha : ak k = 10) (h : mAb p l e R s m args below meth c QQ G A cells slots j M0 (pc + 1) lv (vi (M k (-1)) :: st) M) : mAb p l e R s m args below meth c QQ G A cells slots j M0 pc lv (vr k :: st) M := by
  intro okm hs okl oks ls H locs hl hP hS
  have hk := ak_10 ha
  subst hk
  obtain ⟨-, -, -, -, -, -, -, -, ⟨x1, x2, x3, x4⟩, -⟩ := CX.2.2.2.2.2.2.1
  have m1 : M 152 = M0 152 := hs 152 (by decide)
  have hR : R32 (M 152 (-1)) := (okm 152 (-1)).2 (by decide +kernel)
  have h := h okm hs okl (List.forall_mem_cons.mpr ⟨hR, (fun w hw => oks w (List.mem_cons_of_mem _ hw))⟩) ls H locs hl hP hS
  rw [List.map_cons, cv_ref (by omega) (by omega)]
  refine va_slen CX.1 CX.2.1 x2 x3 x4 hS hd ?_
  rw [m1] at hR h
  have := hR.2
  rw [o_nat (by omega), show (((M0 152 (-1)).toNat : Nat) : Int) = M0 152 (-1) by omega]
  exact h
theorem ab_cpy (CX : mCx p l R s m args c G A cells slots d j M0) {pc : Nat} {lv : mL} {st : List mV} {M : mM} {x nn : Nat} {s0 d0 : Nat} {sp dp n : Int} (hd : decode (cOf j) pc = .ok (.invokestatic x, 3)) (hq : mR (oOf j) x = (9999, nn)) (hst : mcat st ≤ 8) (ha : ak s0 = 2 ∧ ak d0 = 2) (hb : 0 ≤ sp ∧ 0 ≤ dp ∧ 0 ≤ n ∧ sp + n ≤ (aln s0 : Int) ∧ dp + n ≤ (aln d0 : Int)) (h : mAb p l e R s m args below meth c QQ G A cells slots j M0 (pc + 3) lv st (upC M d0 (mCpy (M s0) (M d0) sp dp n))) : mAb p l e R s m args below meth c QQ G A cells slots j M0 pc lv (vi n :: vi dp :: vr d0 :: vi sp :: vr s0 :: st) M := by
  intro okm hs okl oks ls H locs hl hP hS
  have r1 : R32 n := oks _ List.mem_cons_self
  have r2 : R32 dp := oks _ (List.mem_cons_of_mem _ List.mem_cons_self)
  have r3 : R32 sp := oks _ (List.mem_cons_of_mem _ (List.mem_cons_of_mem _ (List.mem_cons_of_mem _ List.mem_cons_self)))
  obtain ⟨b1, b2, b3, b4, b5⟩ := hb
  obtain ⟨s3, s4, -⟩ := ak_own (k := s0) (by omega)
  obtain ⟨d3, d4, -⟩ := ak_own (k := d0) (by omega)
  rw [List.map_cons, List.map_cons, List.map_cons, List.map_cons, List.map_cons, cv_ref (nz s3 s4).1 (nz s3 s4).2, cv_ref (nz d3 d4).1 (nz d3 d4).2]
  obtain ⟨f1, f2, f3, f4⟩ := CX.2.2.2.2.2.2.2.2.2.1
  have hnn : ∀ z : Int, R32 z → 0 ≤ z → ¬ Int32.ofInt z < 0 := fun z hz h0 q => by have := (o_lt hz R32_0).mp q; omega
  refine va_copyi CX.1 CX.2.1 (CX.2.2.1.trans hl.1.symm) CX.2.2.2.1 (CX.2.2.2.2.1 _ (mR_cpy hq)) (CX.2.2.2.2.1 _ (pW_in (n := (pW.getD 7 (0, .initialized "")).1) (by decide +kernel) rfl)) (CX.2.2.2.2.1 _ (pW_in (n := (pW.getD 8 (0, .initialized "")).1) (by decide +kernel) rfl)) (CX.2.2.2.2.1 _ (pW_in (n := (pW.getD 9 (0, .initialized "")).1) (by decide +kernel) rfl)) CX.2.2.2.2.2.1 hP (wW_D CX.2.2.2.2.2.2.2.1 CX.2.2.2.2.2.2.2.2.1 M) hS (s0 - 1) (d0 - 1) 0 0 ((wW_at G M s3 s4).trans (by rw [wE_i (Or.inl rfl) ha.1])) ((wW_at G M d3 d4).trans (by rw [wE_i (Or.inl rfl) ha.2])) rfl rfl rfl (hnn _ r3 b1) (hnn _ r2 b2) (hnn _ r1 b3) (by rw [o_clamp r3 b1, o_clamp r1 b3]; omega) (by rw [o_clamp r2 b2, o_clamp r1 b3]; omega) (fun _ _ => rfl) (by omega) (by rw [cv_cats]; have := nfw; omega) hd (fun H1 locs1 hP1 _ hS1 => ?_)
  refine h (okM_up okm (okc_c (okm s0) (okm d0) (by omega))) (sS_up hs d4) okl (fun w hw => oks w (List.mem_cons_of_mem _ (List.mem_cons_of_mem _ (List.mem_cons_of_mem _ (List.mem_cons_of_mem _ (List.mem_cons_of_mem _ hw)))))) ls H1 locs1 hl ?_ hS1
  rw [← wW_set G M d3 d4, wE_i (Or.inl rfl) ha.2]
  rw [cpy_i r3 r2 r1 b1 b2 b3] at hP1
  exact hP1
theorem ab_mmax (CX : mCx p l R s m args c G A cells slots d j M0) {pc : Nat} {lv : mL} {st : List mV} {M : mM} {x nn : Nat} {x0 y : Int} (hd : decode (cOf j) pc = .ok (.invokestatic x, 3)) (hq : mR (oOf j) x = (9001, nn)) (hst : mcat st ≤ 8) (h : mAb p l e R s m args below meth c QQ G A cells slots j M0 (pc + 3) lv (vi (max x0 y) :: st) M) : mAb p l e R s m args below meth c QQ G A cells slots j M0 pc lv (vi y :: vi x0 :: st) M := by
  intro okm hs okl oks ls H locs hl hP hS
  have rx : R32 x0 := oks _ (List.mem_cons_of_mem _ List.mem_cons_self)
  have ry : R32 y := oks _ List.mem_cons_self
  have e0 : (if Int32.ofInt x0 < Int32.ofInt y then Int32.ofInt y else Int32.ofInt x0) = Int32.ofInt (max x0 y) := by
    by_cases g : x0 < y
    · rw [if_pos ((o_lt rx ry).mpr g), show max x0 y = y by omega]
    · rw [if_neg (fun q => g ((o_lt rx ry).mp q)), show max x0 y = x0 by omega]
  obtain ⟨f1, f2, f3, f4⟩ := CX.2.2.2.2.2.2.2.2.2.1
  refine va_mmax CX.1 CX.2.1 (CX.2.2.1.trans hl.1.symm) CX.2.2.2.1 (CX.2.2.2.2.1 _ (mR_max hq)) (CX.2.2.2.2.1 _ (pW_in (n := (pW.getD 1 (0, .initialized "")).1) (by decide +kernel) rfl)) (CX.2.2.2.2.1 _ (pW_in (n := (pW.getD 0 (0, .initialized "")).1) (by decide +kernel) rfl)) (CX.2.2.2.2.1 _ (pW_in (n := (pW.getD 2 (0, .initialized "")).1) (by decide +kernel) rfl)) (by omega) (by rw [cv_cats]; omega) f3 f4 hd ?_
  rw [e0]
  exact h okm hs okl (List.forall_mem_cons.mpr ⟨(by show R32 (max x0 y); unfold R32 at rx ry ⊢; omega), (fun w hw => oks w (List.mem_cons_of_mem _ (List.mem_cons_of_mem _ hw)))⟩) ls H locs hl hP hS
theorem ab_mmin (CX : mCx p l R s m args c G A cells slots d j M0) {pc : Nat} {lv : mL} {st : List mV} {M : mM} {x nn : Nat} {x0 y : Int} (hd : decode (cOf j) pc = .ok (.invokestatic x, 3)) (hq : mR (oOf j) x = (9002, nn)) (hst : mcat st ≤ 8) (h : mAb p l e R s m args below meth c QQ G A cells slots j M0 (pc + 3) lv (vi (min x0 y) :: st) M) : mAb p l e R s m args below meth c QQ G A cells slots j M0 pc lv (vi y :: vi x0 :: st) M := by
  intro okm hs okl oks ls H locs hl hP hS
  have rx : R32 x0 := oks _ (List.mem_cons_of_mem _ List.mem_cons_self)
  have ry : R32 y := oks _ List.mem_cons_self
  have e0 : (if Int32.ofInt y < Int32.ofInt x0 then Int32.ofInt y else Int32.ofInt x0) = Int32.ofInt (min x0 y) := by
    by_cases g : y < x0
    · rw [if_pos ((o_lt ry rx).mpr g), show min x0 y = y by omega]
    · rw [if_neg (fun q => g ((o_lt ry rx).mp q)), show min x0 y = x0 by omega]
  obtain ⟨f1, f2, f3, f4⟩ := CX.2.2.2.2.2.2.2.2.2.1
  refine va_mmin CX.1 CX.2.1 (CX.2.2.1.trans hl.1.symm) CX.2.2.2.1 (CX.2.2.2.2.1 _ (mR_min hq)) (CX.2.2.2.2.1 _ (pW_in (n := (pW.getD 3 (0, .initialized "")).1) (by decide +kernel) rfl)) (CX.2.2.2.2.1 _ (pW_in (n := (pW.getD 0 (0, .initialized "")).1) (by decide +kernel) rfl)) (CX.2.2.2.2.1 _ (pW_in (n := (pW.getD 4 (0, .initialized "")).1) (by decide +kernel) rfl)) (by omega) (by rw [cv_cats]; omega) f3 f4 hd ?_
  rw [e0]
  exact h okm hs okl (List.forall_mem_cons.mpr ⟨(by show R32 (min x0 y); unfold R32 at rx ry ⊢; omega), (fun w hw => oks w (List.mem_cons_of_mem _ (List.mem_cons_of_mem _ hw)))⟩) ls H locs hl hP hS
theorem ab_mabs (CX : mCx p l R s m args c G A cells slots d j M0) {pc : Nat} {lv : mL} {st : List mV} {M : mM} {x nn : Nat} {x0 : Int} (hd : decode (cOf j) pc = .ok (.invokestatic x, 3)) (hq : mR (oOf j) x = (9003, nn)) (hst : mcat st ≤ 8) (h : mAb p l e R s m args below meth c QQ G A cells slots j M0 (pc + 3) lv (vi (iAbs x0) :: st) M) : mAb p l e R s m args below meth c QQ G A cells slots j M0 pc lv (vi x0 :: st) M := by
  intro okm hs okl oks ls H locs hl hP hS
  have rx : R32 x0 := oks _ List.mem_cons_self
  have e0 : (if 0 ≤ Int32.ofInt x0 then Int32.ofInt x0 else 0 - Int32.ofInt x0) = Int32.ofInt (iAbs x0) := by
    unfold iAbs
    rw [show (0 : Int32) = Int32.ofInt 0 from rfl]
    by_cases g : 0 ≤ x0
    · rw [if_pos ((o_le R32_0 rx).mpr g), if_pos g]
    · rw [if_neg (fun q => g ((o_le R32_0 rx).mp q)), if_neg g, o_sub, show (0 - x0 : Int) = -x0 by omega]
  obtain ⟨f1, f2, f3, f4⟩ := CX.2.2.2.2.2.2.2.2.2.1
  refine va_mabs CX.1 CX.2.1 (CX.2.2.1.trans hl.1.symm) CX.2.2.2.1 (CX.2.2.2.2.1 _ (mR_abs hq)) (CX.2.2.2.2.1 _ (pW_in (n := (pW.getD 5 (0, .initialized "")).1) (by decide +kernel) rfl)) (CX.2.2.2.2.1 _ (pW_in (n := (pW.getD 0 (0, .initialized "")).1) (by decide +kernel) rfl)) (CX.2.2.2.2.1 _ (pW_in (n := (pW.getD 6 (0, .initialized "")).1) (by decide +kernel) rfl)) (by omega) (by rw [cv_cats]; omega) f3 f4 hd ?_
  rw [e0]
  exact h okm hs okl (List.forall_mem_cons.mpr ⟨(iAbs_R rx), (fun w hw => oks w (List.mem_cons_of_mem _ hw))⟩) ls H locs hl hP hS
theorem ab_tsw (CX : mCx p l R s m args c G A cells slots d j M0) {pc : Nat} {lv : mL} {st : List mV} {M : mM} {df lo hi : Int} {offs : Array Int} {n : Nat} {x : Int} (hd : decode (cOf j) pc = .ok (.tableswitch df lo hi offs, n)) (h1 : ∀ o ∈ df :: offs.toList, 0 ≤ (pc : Int) + o) (h2 : hi - lo + 1 = (offs.size : Int)) (h : mAb p l e R s m args below meth c QQ G A cells slots j M0 (swT x lo (offs.toList.map fun o => ((pc : Int) + o).toNat) ((pc : Int) + df).toNat) lv st M) : mAb p l e R s m args below meth c QQ G A cells slots j M0 pc lv (vi x :: st) M := by
  intro okm hs okl oks ls H locs hl hP hS
  have hR : R32 x := oks _ List.mem_cons_self
  have h := h okm hs okl (fun w hw => oks w (List.mem_cons_of_mem _ hw)) ls H locs hl hP hS
  have hdf := h1 df List.mem_cons_self
  unfold swT at h
  by_cases g1 : lo ≤ x
  · rw [if_pos g1] at h
    by_cases g2 : x ≤ hi
    · have hi3 : (x - lo).toNat < offs.size := by omega
      have e1 : offs[(x - lo).toNat]? = some offs[(x - lo).toNat] := Array.getElem?_eq_getElem hi3
      have e2 := h1 (offs[(x - lo).toNat]) (List.mem_cons_of_mem _ (Array.getElem_mem_toList hi3))
      rw [List.getD_eq_getElem?_getD, List.getElem?_map, Array.getElem?_toList, e1] at h
      refine lv_tableIn CX.1 CX.2.1 hd (by rw [t32 hR]; omega) (by rw [t32 hR]; omega) (off := offs[(x - lo).toNat]) (by rw [t32 hR]; exact e1) (tgt := ((pc : Int) + offs[(x - lo).toNat]).toNat) (by omega) h
    · rw [List.getD_eq_getElem?_getD, List.getElem?_map, Array.getElem?_toList, Array.getElem?_eq_none (by omega)] at h
      exact lv_tableOut CX.1 CX.2.1 hd (by rw [t32 hR]; omega) (tgt := ((pc : Int) + df).toNat) (by omega) h
  · rw [if_neg g1] at h
    exact lv_tableOut CX.1 CX.2.1 hd (by rw [t32 hR]; omega) (tgt := ((pc : Int) + df).toNat) (by omega) h
theorem swL_off (pc : Nat) (x df : Int) : ∀ (ps : List (Int × Int)), (∀ o ∈ df :: ps.map Prod.snd, 0 ≤ (pc : Int) + o) → (pc : Int) + Op.lookupswitch.offset ps df x = ((swL x (ps.map fun o => (o.1, ((pc : Int) + o.2).toNat)) ((pc : Int) + df).toNat : Nat) : Int)
  | [], h => by
    have := h df List.mem_cons_self
    show (pc : Int) + df = (((pc : Int) + df).toNat : Int)
    omega
  | (a, b) :: r, h => by
    rw [Op.lookupswitch.offset_cons]
    show _ = (((if x = a then ((pc : Int) + b).toNat else swL x (r.map fun o => (o.1, ((pc : Int) + o.2).toNat)) ((pc : Int) + df).toNat) : Nat) : Int)
    have hb := h b (List.mem_cons_of_mem _ List.mem_cons_self)
    by_cases e : x = a
    · rw [if_pos e.symm, if_pos e]
      omega
    · rw [if_neg (fun q => e q.symm), if_neg e]
      refine swL_off pc x df r (fun o ho => h o ?_)
      rcases List.mem_cons.mp ho with rfl | ho
      · exact List.mem_cons_self
      · exact List.mem_cons_of_mem _ (List.mem_cons_of_mem _ ho)
theorem ab_lsw (CX : mCx p l R s m args c G A cells slots d j M0) {pc : Nat} {lv : mL} {st : List mV} {M : mM} {df : Int} {ps : Array (Int × Int)} {n : Nat} {x : Int} (hd : decode (cOf j) pc = .ok (.lookupswitch df ps, n)) (h1 : ∀ o ∈ df :: ps.toList.map Prod.snd, 0 ≤ (pc : Int) + o) (h2 : (ps.toList.zip (ps.toList.drop 1)).all (fun (a, next) => a.1 < next.1) = true) (h : mAb p l e R s m args below meth c QQ G A cells slots j M0 (swL x (ps.toList.map fun o => (o.1, ((pc : Int) + o.2).toNat)) ((pc : Int) + df).toNat) lv st M) : mAb p l e R s m args below meth c QQ G A cells slots j M0 pc lv (vi x :: st) M := by
  intro okm hs okl oks ls H locs hl hP hS
  have hR : R32 x := oks _ List.mem_cons_self
  have h := h okm hs okl (fun w hw => oks w (List.mem_cons_of_mem _ hw)) ls H locs hl hP hS
  exact lv_lookup CX.1 CX.2.1 hd h2 rfl (by rw [t32 hR]; exact swL_off pc x df ps.toList h1) h
end Rows2
