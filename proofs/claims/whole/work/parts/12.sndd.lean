theorem nar_c {x : Int} (h : 0 ≤ x ∧ x < 65536) : narrow .char (.int (Int32.ofInt x)) = .int (Int32.ofInt x) := by
  have e : Int32.ofInt x = nI x.toNat := by
    have := o_nat (n := x.toNat) (by omega)
    unfold nI
    rw [this, show ((x.toNat : Nat) : Int) = x by omega]
  rw [e]
  exact (pk_charN (by omega)).1
theorem nar_b {x : Int} (h : -128 ≤ x ∧ x < 128) : narrow .byte (.int (Int32.ofInt x)) = .int (Int32.ofInt x) := by
  have e : (Int32.ofInt x).toInt8.toInt32 = Int32.ofInt x := by
    rw [o_byte]
    congr 1
    unfold i2b
    rw [Int8.toInt_ofInt]
    exact Int.bmod_eq_of_le (by show -((256 : Nat) : Int) / 2 ≤ x; omega) (by show x < ((256 : Nat) + 1 : Int) / 2; omega)
  have := pk_nb (Int32.ofInt x)
  rw [e] at this
  exact this
section Main
variable {p : Program} {l : Launch} {e : Env} {R : Room} {s : State} {m : MethodId} {args : Array Value} {below : List Frame} {meth : Method} {c : Code} {QQ : State → Prop} {G : mG} {A : Nat → Prop} {cells slots d j : Nat} {M0 : mM} {Q : mQ}
theorem xR_get {st : List mV} {k : Nat → List mV → Prop} (h : xR st k) : ∃ (o : Nat) (r : List mV), st = vr o :: r ∧ k o r := by
  unfold xR at h
  split at h
  · exact ⟨_, _, rfl, h⟩
  · exact h.elim
theorem xI_get {st : List mV} {k : Int → List mV → Prop} (h : xI st k) : ∃ (x : Int) (r : List mV), st = vi x :: r ∧ k x r := by
  unfold xI at h
  split at h
  · exact ⟨_, _, rfl, h⟩
  · exact h.elim
theorem xII_get {st : List mV} {k : Int → Int → List mV → Prop} (h : xII st k) : ∃ (x y : Int) (r : List mV), st = vi y :: vi x :: r ∧ k x y r := by
  unfold xII at h
  split at h
  · exact ⟨_, _, _, rfl, h⟩
  · exact h.elim
theorem xL_get {st : List mV} {k : Int → List mV → Prop} (h : xL st k) : ∃ (x : Int) (r : List mV), st = vl x :: r ∧ k x r := by
  unfold xL at h
  split at h
  · exact ⟨_, _, rfl, h⟩
  · exact h.elim
theorem xLL_get {st : List mV} {k : Int → Int → List mV → Prop} (h : xLL st k) : ∃ (x y : Int) (r : List mV), st = vl y :: vl x :: r ∧ k x y r := by
  unfold xLL at h
  split at h
  · exact ⟨_, _, _, rfl, h⟩
  · exact h.elim
theorem xLI_get {st : List mV} {k : Int → Int → List mV → Prop} (h : xLI st k) : ∃ (x y : Int) (r : List mV), st = vi y :: vl x :: r ∧ k x y r := by
  unfold xLI at h
  split at h
  · exact ⟨_, _, _, rfl, h⟩
  · exact h.elim
theorem xIR_get {st : List mV} {k : Nat → Int → List mV → Prop} (h : xIR st k) : ∃ (a : Nat) (i : Int) (r : List mV), st = vi i :: vr a :: r ∧ k a i r := by
  unfold xIR at h
  split at h
  · exact ⟨_, _, _, rfl, h⟩
  · exact h.elim
theorem xIIR_get {st : List mV} {k : Nat → Int → Int → List mV → Prop} (h : xIIR st k) : ∃ (a : Nat) (i v : Int) (r : List mV), st = vi v :: vi i :: vr a :: r ∧ k a i v r := by
  unfold xIIR at h
  split at h
  · exact ⟨_, _, _, _, rfl, h⟩
  · exact h.elim
theorem xLIR_get {st : List mV} {k : Nat → Int → Int → List mV → Prop} (h : xLIR st k) : ∃ (a : Nat) (i v : Int) (r : List mV), st = vl v :: vi i :: vr a :: r ∧ k a i v r := by
  unfold xLIR at h
  split at h
  · exact ⟨_, _, _, _, rfl, h⟩
  · exact h.elim
theorem xCp_get {st : List mV} {k : Nat → Int → Nat → Int → Int → List mV → Prop} (h : xCp st k) : ∃ (s : Nat) (sp : Int) (d : Nat) (dp n : Int) (r : List mV), st = vi n :: vi dp :: vr d :: vi sp :: vr s :: r ∧ k s sp d dp n r := by
  unfold xCp at h
  split at h
  · exact ⟨_, _, _, _, _, _, rfl, h⟩
  · exact h.elim
theorem xLoad_get {t : Nat} {v0 : Option mV} {K : mK} {pc : Nat} {lv : mL} {st : List mV} {M : mM} (h : xLoad t v0 K pc lv st M) : ∃ v, v0 = some v ∧ mtg v = t ∧ K pc lv (v :: st) M := by
  cases v0 with
  | none => exact h.elim
  | some v => exact ⟨v, rfl, h.1, h.2⟩
theorem mtg_0 {v : mV} (h : mtg v = 0) : ∃ z, v = vi z := by
  rcases v with z | z | z
  · exact ⟨z, rfl⟩
  · cases h
  · cases h
theorem mtg_1 {v : mV} (h : mtg v = 1) : ∃ z, v = vl z := by
  rcases v with z | z | z
  · cases h
  · exact ⟨z, rfl⟩
  · cases h
theorem mtg_2 {v : mV} (h : mtg v = 2) : ∃ z, v = vr z := by
  rcases v with z | z | z
  · cases h
  · cases h
  · exact ⟨z, rfl⟩
set_option maxHeartbeats 4000000 in
theorem ab_cl (CX : mCx p l R s m args c G A cells slots d j M0) (hRet : ∀ (i : Instr) (r : Option mV) (M : mM) (pc : Nat) (ls : Array Slot) (H : Heap) (locs : List Loc), decode (cOf j) pc = .ok (i, 1) → retOK j i r → okR r → okM M → sS M0 M → Q r M → va_P (G.1, G.2.1) vwCl (wW G M) H → va_S A s.heap H locs → W p l e R s m args below meth c H locs cells slots QQ (F0 m pc ls (r.toList.map (cv G)))) {i : Instr} {n : Nat} {pc : Nat} {lv : mL} {st : List mV} {M : mM} (hd : decode (cOf j) pc = .ok (i, n)) (hn : n = ilen i n) (h : mGo (mCall d) j Q (mAb p l e R s m args below meth c QQ G A cells slots j M0) i pc lv st M) : mAb p l e R s m args below meth c QQ G A cells slots j M0 pc lv st M := by
  cases i
  case iconst z =>
    replace hn : n = 1 := hn
    subst hn
    exact ab_iconst CX hd h
  case bipush z =>
    replace hn : n = 2 := hn
    subst hn
    exact ab_bipush CX hd h
  case sipush z =>
    replace hn : n = 3 := hn
    subst hn
    exact ab_sipush CX hd h
  case lconst z =>
    replace hn : n = 1 := hn
    subst hn
    exact ab_lconst CX hd h
  case aconst_null =>
    replace hn : n = 1 := hn
    subst hn
    exact ab_null CX hd h
  case ldc x =>
    replace hn : n = 2 := hn
    subst hn
    simp only [mGo] at h
    split at h
    · rename_i g; exact ab_ldc CX hd (Prod.ext g rfl) h
    · split at h
      · rename_i g; exact ab_ldcs CX hd (Prod.ext g rfl) h
      · exact h.elim
  case ldc_w x =>
    replace hn : n = 3 := hn
    subst hn
    simp only [mGo] at h
    split at h
    · rename_i g; exact ab_ldcw CX hd (Prod.ext g rfl) h
    · exact h.elim
  case ldc2_w x =>
    replace hn : n = 3 := hn
    subst hn
    simp only [mGo] at h
    split at h
    · rename_i g; exact ab_ldc2 CX hd (Prod.ext g rfl) h
    · exact h.elim
  case iload x =>
    replace hn : n = 2 := hn
    subst hn
    obtain ⟨v, h1, h2, h3⟩ := xLoad_get h
    obtain ⟨z, rfl⟩ := mtg_0 h2
    exact ab_iload CX hd h1 h3
  case iload_n x =>
    replace hn : n = 1 := hn
    subst hn
    obtain ⟨v, h1, h2, h3⟩ := xLoad_get h
    obtain ⟨z, rfl⟩ := mtg_0 h2
    exact ab_iloadn CX hd h1 h3
  case lload x =>
    replace hn : n = 2 := hn
    subst hn
    obtain ⟨v, h1, h2, h3⟩ := xLoad_get h
    obtain ⟨z, rfl⟩ := mtg_1 h2
    exact ab_lload CX hd h1 h3
  case lload_n x =>
    replace hn : n = 1 := hn
    subst hn
    obtain ⟨v, h1, h2, h3⟩ := xLoad_get h
    obtain ⟨z, rfl⟩ := mtg_1 h2
    exact ab_lloadn CX hd h1 h3
  case aload x =>
    replace hn : n = 2 := hn
    subst hn
    obtain ⟨v, h1, h2, h3⟩ := xLoad_get h
    obtain ⟨z, rfl⟩ := mtg_2 h2
    exact ab_aload CX hd h1 h3
  case aload_n x =>
    replace hn : n = 1 := hn
    subst hn
    obtain ⟨v, h1, h2, h3⟩ := xLoad_get h
    obtain ⟨z, rfl⟩ := mtg_2 h2
    exact ab_aloadn CX hd h1 h3
  case istore x =>
    replace hn : n = 2 := hn
    subst hn
    obtain ⟨z, r, rfl, h2⟩ := xI_get h.2
    exact ab_istore CX hd h.1 h2
  case istore_n x =>
    replace hn : n = 1 := hn
    subst hn
    obtain ⟨z, r, rfl, h2⟩ := xI_get h.2
    exact ab_istoren CX hd h.1 h2
  case astore x =>
    replace hn : n = 2 := hn
    subst hn
    obtain ⟨z, r, rfl, h2⟩ := xR_get h.2
    exact ab_astore CX hd h.1 h2
  case astore_n x =>
    replace hn : n = 1 := hn
    subst hn
    obtain ⟨z, r, rfl, h2⟩ := xR_get h.2
    exact ab_astoren CX hd h.1 h2
  case lstore x =>
    replace hn : n = 2 := hn
    subst hn
    obtain ⟨z, r, rfl, h2⟩ := xL_get h.2
    exact ab_lstore CX hd h.1 h2
  case lstore_n x =>
    replace hn : n = 1 := hn
    subst hn
    obtain ⟨z, r, rfl, h2⟩ := xL_get h.2
    exact ab_lstoren CX hd h.1 h2
  case iinc x k =>
    replace hn : n = 3 := hn
    subst hn
    obtain ⟨h1, h2⟩ := h
    unfold xInc at h2
    split at h2
    · rename_i z hz; exact ab_iinc CX hd h1 hz h2
    · exact h2.elim
  case iadd =>
    replace hn : n = 1 := hn
    subst hn
    obtain ⟨x, y, r, rfl, h2⟩ := xII_get h
    exact ab_iadd CX hd h2
  case isub =>
    replace hn : n = 1 := hn
    subst hn
    obtain ⟨x, y, r, rfl, h2⟩ := xII_get h
    exact ab_isub CX hd h2
  case imul =>
    replace hn : n = 1 := hn
    subst hn
    obtain ⟨x, y, r, rfl, h2⟩ := xII_get h
    exact ab_imul CX hd h2
  case iand =>
    replace hn : n = 1 := hn
    subst hn
    obtain ⟨x, y, r, rfl, h2⟩ := xII_get h
    exact ab_iand CX hd h2
  case ior =>
    replace hn : n = 1 := hn
    subst hn
    obtain ⟨x, y, r, rfl, h2⟩ := xII_get h
    exact ab_ior CX hd h2
  case ixor =>
    replace hn : n = 1 := hn
    subst hn
    obtain ⟨x, y, r, rfl, h2⟩ := xII_get h
    exact ab_ixor CX hd h2
  case ishl =>
    replace hn : n = 1 := hn
    subst hn
    obtain ⟨x, y, r, rfl, h2⟩ := xII_get h
    exact ab_ishl CX hd h2
  case ishr =>
    replace hn : n = 1 := hn
    subst hn
    obtain ⟨x, y, r, rfl, h2⟩ := xII_get h
    exact ab_ishr CX hd h2
  case iushr =>
    replace hn : n = 1 := hn
    subst hn
    obtain ⟨x, y, r, rfl, h2⟩ := xII_get h
    exact ab_iushr CX hd h2
  case idiv =>
    replace hn : n = 1 := hn
    subst hn
    obtain ⟨x, y, r, rfl, h2⟩ := xII_get h
    exact ab_idiv CX hd h2.1 h2.2
  case irem =>
    replace hn : n = 1 := hn
    subst hn
    obtain ⟨x, y, r, rfl, h2⟩ := xII_get h
    exact ab_irem CX hd h2.1 h2.2
  case ladd =>
    replace hn : n = 1 := hn
    subst hn
    obtain ⟨x, y, r, rfl, h2⟩ := xLL_get h
    exact ab_ladd CX hd h2
  case lsub =>
    replace hn : n = 1 := hn
    subst hn
    obtain ⟨x, y, r, rfl, h2⟩ := xLL_get h
    exact ab_lsub CX hd h2
  case lmul =>
    replace hn : n = 1 := hn
    subst hn
    obtain ⟨x, y, r, rfl, h2⟩ := xLL_get h
    exact ab_lmul CX hd h2
  case land =>
    replace hn : n = 1 := hn
    subst hn
    obtain ⟨x, y, r, rfl, h2⟩ := xLL_get h
    exact ab_land CX hd h2
  case lor =>
    replace hn : n = 1 := hn
    subst hn
    obtain ⟨x, y, r, rfl, h2⟩ := xLL_get h
    exact ab_lor CX hd h2
  case lxor =>
    replace hn : n = 1 := hn
    subst hn
    obtain ⟨x, y, r, rfl, h2⟩ := xLL_get h
    exact ab_lxor CX hd h2
  case lcmp =>
    replace hn : n = 1 := hn
    subst hn
    obtain ⟨x, y, r, rfl, h2⟩ := xLL_get h
    exact ab_lcmp CX hd h2
  case ldiv =>
    replace hn : n = 1 := hn
    subst hn
    obtain ⟨x, y, r, rfl, h2⟩ := xLL_get h
    exact ab_ldiv CX hd h2.1 h2.2
  case lrem =>
    replace hn : n = 1 := hn
    subst hn
    obtain ⟨x, y, r, rfl, h2⟩ := xLL_get h
    exact ab_lrem CX hd h2.1 h2.2
  case lshl =>
    replace hn : n = 1 := hn
    subst hn
    obtain ⟨x, y, r, rfl, h2⟩ := xLI_get h
    exact ab_lshl CX hd h2
  case lshr =>
    replace hn : n = 1 := hn
    subst hn
    obtain ⟨x, y, r, rfl, h2⟩ := xLI_get h
    exact ab_lshr CX hd h2
  case ineg =>
    replace hn : n = 1 := hn
    subst hn
    obtain ⟨x, r, rfl, h2⟩ := xI_get h
    exact ab_ineg CX hd h2
  case i2l =>
    replace hn : n = 1 := hn
    subst hn
    obtain ⟨x, r, rfl, h2⟩ := xI_get h
    exact ab_i2l CX hd h2
  case i2b =>
    replace hn : n = 1 := hn
    subst hn
    obtain ⟨x, r, rfl, h2⟩ := xI_get h
    exact ab_i2b CX hd h2
  case i2c =>
    replace hn : n = 1 := hn
    subst hn
    obtain ⟨x, r, rfl, h2⟩ := xI_get h
    exact ab_i2c CX hd h2
  case lneg =>
    replace hn : n = 1 := hn
    subst hn
    obtain ⟨x, r, rfl, h2⟩ := xL_get h
    exact ab_lneg CX hd h2
  case l2i =>
    replace hn : n = 1 := hn
    subst hn
    obtain ⟨x, r, rfl, h2⟩ := xL_get h
    exact ab_l2i CX hd h2
  case dup =>
    replace hn : n = 1 := hn
    subst hn
    match st, h with
    | v :: r, h => exact ab_dup CX hd h.1 h.2
  case pop =>
    replace hn : n = 1 := hn
    subst hn
    match st, h with
    | v :: r, h => exact ab_pop CX hd h.1 h.2
  case dup2 =>
    replace hn : n = 1 := hn
    subst hn
    match st, h with
    | v :: u :: r, h => exact ab_dup2 CX hd h.1 h.2.1 h.2.2
  case ifCond cd off =>
    replace hn : n = 3 := hn
    subst hn
    obtain ⟨t, ht, h⟩ := h
    obtain ⟨x, r, rfl, h2⟩ := xI_get h
    cases cd
    · exact ab_if_eq CX hd ht h2
    · exact ab_if_ne CX hd ht h2
    · exact ab_if_lt CX hd ht h2
    · exact ab_if_ge CX hd ht h2
    · exact ab_if_gt CX hd ht h2
    · exact ab_if_le CX hd ht h2
  case if_icmp cd off =>
    replace hn : n = 3 := hn
    subst hn
    obtain ⟨t, ht, h⟩ := h
    obtain ⟨x, y, r, rfl, h2⟩ := xII_get h
    cases cd
    · exact ab_ic_eq CX hd ht h2
    · exact ab_ic_ne CX hd ht h2
    · exact ab_ic_lt CX hd ht h2
    · exact ab_ic_ge CX hd ht h2
    · exact ab_ic_gt CX hd ht h2
    · exact ab_ic_le CX hd ht h2
  case ifnull off =>
    replace hn : n = 3 := hn
    subst hn
    obtain ⟨t, ht, h⟩ := h
    obtain ⟨k, r, rfl, h2⟩ := xR_get h
    exact ab_ifnull CX hd ht h2.1 h2.2
  case ifnonnull off =>
    replace hn : n = 3 := hn
    subst hn
    obtain ⟨t, ht, h⟩ := h
    obtain ⟨k, r, rfl, h2⟩ := xR_get h
    exact ab_ifnonnull CX hd ht h2.1 h2.2
  case goto off =>
    replace hn : n = 3 := hn
    subst hn
    obtain ⟨t, ht, h⟩ := h
    exact ab_goto CX hd ht h
  case tableswitch df lo hi offs =>
    obtain ⟨x, r, rfl, h2⟩ := xI_get h.2.2
    exact ab_tsw CX hd h.1 h.2.1 h2
  case lookupswitch df ps =>
    obtain ⟨x, r, rfl, h2⟩ := xI_get h.2.2
    exact ab_lsw CX hd h.1 h.2.1 h2
  case getfield x =>
    replace hn : n = 3 := hn
    subst hn
    obtain ⟨k, r, rfl, h2⟩ := xR_get h
    split at h2
    · rename_i g; exact ab_getf CX hd (show fR (oOf j) x = ((fR (oOf j) x).1, (fR (oOf j) x).2.1, (fR (oOf j) x).2.2) from rfl) h2.1 (by omega) (Or.inl ⟨g, rfl⟩) h2.2
    · split at h2
      · rename_i g; exact ab_getf CX hd (show fR (oOf j) x = ((fR (oOf j) x).1, (fR (oOf j) x).2.1, (fR (oOf j) x).2.2) from rfl) h2.1 (by omega) (Or.inr (Or.inl ⟨g, rfl⟩)) h2.2
      · split at h2
        · rename_i g; exact ab_getf CX hd (show fR (oOf j) x = ((fR (oOf j) x).1, (fR (oOf j) x).2.1, (fR (oOf j) x).2.2) from rfl) h2.1 (by omega) (Or.inr (Or.inr ⟨g, rfl⟩)) h2.2
        · exact h2.elim
  case putfield x =>
    replace hn : n = 3 := hn
    subst hn
    replace h := (show xPut (fR (oOf j) x) _ pc lv st M from h)
    have e3 : fR (oOf j) x = ((fR (oOf j) x).1, (fR (oOf j) x).2.1, (fR (oOf j) x).2.2) := rfl
    unfold xPut at h
    split at h
    · split at h
      · rename_i g; rw [g] at e3; exact ab_puti CX hd e3 h.1 h.2
      · split at h
        · rename_i g; rw [g] at e3; exact ab_putz CX hd e3 h.1 h.2.1 h.2.2
        · exact h.elim
    · split at h
      · rename_i g; rw [g] at e3; exact ab_putd CX hd e3 h.2.1 h.1 h.2.2
      · exact h.elim
    · exact h.elim
  case getstatic x =>
    replace hn : n = 3 := hn
    subst hn
    simp only [mGo] at h
    split at h
    · rename_i g; exact ab_getsi CX hd (Prod.ext g rfl) h
    · split at h
      · rename_i g; exact ab_getsr CX hd (Prod.ext g rfl) h
      · exact h.elim
  case iaload =>
    replace hn : n = 1 := hn
    subst hn
    obtain ⟨k, i, r, rfl, h2⟩ := xIR_get h
    exact ab_iald CX hd h2.1 h2.2.1 h2.2.2
  case baload =>
    replace hn : n = 1 := hn
    subst hn
    obtain ⟨k, i, r, rfl, h2⟩ := xIR_get h
    exact ab_bald CX hd h2.1 h2.2.1 h2.2.2
  case laload =>
    replace hn : n = 1 := hn
    subst hn
    obtain ⟨k, i, r, rfl, h2⟩ := xIR_get h
    exact ab_lald CX hd h2.1 h2.2.1 h2.2.2
  case aaload =>
    replace hn : n = 1 := hn
    subst hn
    obtain ⟨k, i, r, rfl, h2⟩ := xIR_get h
    exact ab_aald CX hd h2.1 h2.2.1 h2.2.2
  case iastore =>
    replace hn : n = 1 := hn
    subst hn
    obtain ⟨k, i, v, r, rfl, h2⟩ := xIIR_get h
    exact ab_iast CX hd h2.1 h2.2.1 h2.2.2
  case lastore =>
    replace hn : n = 1 := hn
    subst hn
    obtain ⟨k, i, v, r, rfl, h2⟩ := xLIR_get h
    exact ab_last CX hd h2.1 h2.2.1 h2.2.2
  case bastore =>
    replace hn : n = 1 := hn
    subst hn
    obtain ⟨k, i, v, r, rfl, h2⟩ := xIIR_get h
    rcases h2 with h2 | h2
    · exact ab_bast CX hd h2.1 h2.2.1 h2.2.2
    · exact ab_zast CX hd h2.1 h2.2.1 h2.2.2.1 h2.2.2.2
  case arraylength =>
    replace hn : n = 1 := hn
    subst hn
    obtain ⟨k, r, rfl, h2⟩ := xR_get h
    rcases h2 with h2 | h2
    · exact ab_slen CX hd h2.1 h2.2.2
    · exact ab_alen CX hd (by omega) h2.2.2.2.2
  case invokevirtual x =>
    replace hn : n = 3 := hn
    subst hn
    obtain ⟨h1, h2, h3, h4⟩ := h
    obtain ⟨k, r, hr, h5⟩ := xR_get h4
    exact ab_invV CX hd (show mR (oOf j) x = ((mR (oOf j) x).1, (mR (oOf j) x).2) from rfl) h1 h2 h3 hr h5.1 h5.2.1 h5.2.2
  case invokestatic x =>
    replace hn : n = 3 := hn
    subst hn
    replace h := (show xInvS (mR (oOf j) x) (mCall d) _ pc lv st M from h)
    have e3 : mR (oOf j) x = ((mR (oOf j) x).1, (mR (oOf j) x).2) := rfl
    unfold xInvS at h
    split at h
    · rename_i g
      obtain ⟨s0, sp, d0, dp, k, r, rfl, h2⟩ := xCp_get h
      rw [g] at e3
      exact ab_cpy CX hd e3 h2.1 h2.2.1 h2.2.2.1 h2.2.2.2
    · split at h
      · rename_i g
        obtain ⟨a, b, r, rfl, h2⟩ := xII_get h
        rw [g] at e3
        exact ab_mmax CX hd e3 h2.1 h2.2
      · split at h
        · rename_i g
          obtain ⟨a, b, r, rfl, h2⟩ := xII_get h
          rw [g] at e3
          exact ab_mmin CX hd e3 h2.1 h2.2
        · split at h
          · rename_i g
            obtain ⟨a, r, rfl, h2⟩ := xI_get h
            rw [g] at e3
            exact ab_mabs CX hd e3 h2.1 h2.2
          · exact ab_invS CX hd e3 h.1 h.2.1 h.2.2.1 h.2.2.2.2
  case ireturn =>
    replace hn : n = 1 := hn
    subst hn
    match st, h with
    | [.inl x], h =>
      intro okm hs okl oks ls H locs hl hP hS
      exact hRet .ireturn (some (vi x)) M pc ls H locs hd h.1 (oks _ List.mem_cons_self) okm hs h.2 hP hS
  case lreturn =>
    replace hn : n = 1 := hn
    subst hn
    match st, h with
    | [.inr (.inl x)], h =>
      intro okm hs okl oks ls H locs hl hP hS
      exact hRet .lreturn (some (vl x)) M pc ls H locs hd h.1 (oks _ List.mem_cons_self) okm hs h.2 hP hS
  case areturn =>
    replace hn : n = 1 := hn
    subst hn
    match st, h with
    | [.inr (.inr x)], h =>
      intro okm hs okl oks ls H locs hl hP hS
      exact hRet .areturn (some (vr x)) M pc ls H locs hd ⟨h.1, h.2.1⟩ trivial okm hs h.2.2 hP hS
  case return_ =>
    replace hn : n = 1 := hn
    subst hn
    match st, h with
    | [], h =>
      intro okm hs okl oks ls H locs hl hP hS
      exact hRet .return_ none M pc ls H locs hd h.1 trivial okm hs h.2 hP hS
  all_goals exact False.elim h
theorem ab_run (CX : mCx p l R s m args c G A cells slots d j M0) (hRet : ∀ (i : Instr) (r : Option mV) (M : mM) (pc : Nat) (ls : Array Slot) (H : Heap) (locs : List Loc), decode (cOf j) pc = .ok (i, 1) → retOK j i r → okR r → okM M → sS M0 M → Q r M → va_P (G.1, G.2.1) vwCl (wW G M) H → va_S A s.heap H locs → W p l e R s m args below meth c H locs cells slots QQ (F0 m pc ls (r.toList.map (cv G)))) {pc : Nat} {lv : mL} {st : List mV} {M : mM} (h : mRun (mCall d) j Q pc lv st M) : mAb p l e R s m args below meth c QQ G A cells slots j M0 pc lv st M := by
  refine h _ (fun pc lv st M h => ?_)
  unfold mStep at h
  split at h
  · rename_i i n hd
    exact ab_cl CX hRet hd h.1 h.2
  · exact h.elim
end Main
/-- every method that the small machine runs to an end meets its contract -/
theorem mMet {G : mG} {l : Launch} (hI : wI G) : ∀ d, mIH G l d
  | 0 => fun _ _ _ _ _ h => h.elim
  | d + 1 => by
    intro k a M P hk h okm oka
    obtain ⟨w1, w2, w3, w4, w5, w6, w7, -, -⟩ := mOk_spec hk
    refine Met.ofW (cc := cOf k) (maxL := nOf k) (ret := rtOf k) w5 rfl ?_
    intro p e s m args below meth c s₁ B hml hv
    obtain ⟨rfl, hP, hK, -, hSt⟩ := hv
    have hts := atoms_spec (ws := wsO k) B.pre
    have hown : s.vm.findClass (yOf k).cls = some m.cls := findClass_of_methodNamed B.named
    rw [w3] at hown
    have CX : mCx p l (headSpec (wsO k) (rmO (d + 1))).room s m (a.map (cv G)).toArray c G (wA G) 0 0 d k M := ⟨B.exec, B.bytes, hml, hown, fun w hw => hts w (List.mem_cons_of_mem _ hw), hK, hSt, hI, fun _ q => q, ⟨Nat.le_refl _, Nat.le_refl _, Nat.le_refl _, Nat.le_refl _⟩, mMet hI d⟩
    have hr := B.returns
    have hlk := B.notSynchronized
    rw [lg_entry_eq]
    refine ab_run (QQ := MQ below (mQc G M P) (a.map (cv G)).toArray s 0 0 (wA G)) CX ?_ h.2 okm (fun _ _ => rfl) (fun i v hv => ?_) (fun v hv => by cases hv) _ s.heap [] (mEn_has G a h.1) hP va_S.rf
    · intro i r M' pc ls H locs hd hro hok okm' hs' hq hP' hS'
      have fin : ∀ t : State, t.heap = H → s.WarmedH t.vm → mQc G M P (a.map (cv G)).toArray s (.returned (r.map (cv G))) t := fun t ht hW => ⟨⟨r, M', rfl, hok, hq, hs', wld_at CX okm' hs' hP' hS' t ht hW⟩, hS'.F ht⟩
      have hfr : ∀ q ∈ locs, wA G q.base := hS'.2.2
      match i, r, hro with
      | .ireturn, some (.inl x), hro =>
        rcases hrt : rtOf k with _ | t
        · rw [show retOK k .ireturn (some (.inl x)) = rOK (rtOf k) x from rfl, hrt] at hro; exact hro.elim
        · rw [show retOK k .ireturn (some (.inl x)) = rOK (rtOf k) x from rfl, hrt] at hro
          rw [hrt] at hr
          refine W.zret (ty := t) CX.1 CX.2.1 hr ?_ fin hfr hd hlk
          have hR : R32 x := hok
          cases t with
          | int => rfl
          | boolean => rcases (show x = 0 ∨ x = 1 from hro) with rfl | rfl <;> rfl
          | char => exact nar_c hro
          | byte => exact nar_b hro
          | _ => exact (show False from hro).elim
      | .lreturn, some (.inr (.inl x)), hro => exact W.lret CX.1 CX.2.1 (hr.trans hro) fin hfr hd hlk
      | .areturn, some (.inr (.inr x)), hro =>
        rcases hrt : rtOf k with _ | t
        · exact absurd hro.2 (by rw [hrt]; decide)
        · rw [hrt] at hr
          refine W.aret (rt := t) CX.1 CX.2.1 hr ?_ ?_ fin hfr hd hlk
          · have := hro.2
            rw [hrt] at this
            cases t with
            | object nm => exact Or.inl ⟨nm, rfl⟩
            | _ => cases this
          · show va_rf (al G x) = .null ∨ ∃ a, va_rf (al G x) = .ref a
            cases al G x with
            | none => exact Or.inl rfl
            | some q => exact Or.inr ⟨q, rfl⟩
      | .return_, none, hro => exact W.vret CX.1 CX.2.1 (hr.trans hro) fin hfr hd hlk
    · have := mEn_lt a 0 i v hv
      exact ⟨oka v this.2, by have := h.1; omega⟩
