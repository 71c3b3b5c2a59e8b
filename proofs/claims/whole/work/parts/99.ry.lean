/-! a choice: well, as both sides mean it -/
theorem bF_c {ok ok2 hr : Nat → Int} : ∀ n, (∀ t, t < n → (ok t = 1 ↔ ok2 t = 1)) → bF ok hr n = bF ok2 hr n
  | 0, _ => rfl
  | n + 1, h => by
    have ih := bF_c (hr := hr) n (fun t ht => h t (by omega))
    have e := h n (by omega)
    rw [bF_s, bF_s, ih]
    by_cases c : ok n = 1 ∧ ((bF ok2 hr n).1 = -1 ∨ hr n < (bF ok2 hr n).1)
    · rw [if_pos c, if_pos ⟨e.mp c.1, c.2⟩]
    · rw [if_neg c, if_neg (fun g => c ⟨e.mpr g.1, g.2⟩)]
/-- the notes by options chosen for some -/
def ntV (ru : RU) (A : Int → Int) (L : List Nat) (n : Nat) (nf : Nat → Nat → Int) (v : Int → Int) : Int → Int := fun b => if ask L b n = -1 then ntA ru A b else nf (ask L b n).toNat (v (ask L b n)).toNat
def welV (ru : RU) (A : Int → Int) (L : List Nat) (n : Nat) (nf : Nat → Nat → Int) (v : Int → Int) : Prop := cn (fpG ru A (ntV ru A L n nf v)) 36 = 0
theorem fpG_1 {ru : RU} {A nt : Int → Int} (b0 : A 0 ≤ 6) : cn (fpG ru A nt) 36 = 0 ↔ ∀ p q : Nat, p < q → (q : Int) < A 0 → iAnd (iShr (A (16 + p)) q) 1 = 1 → clI (ru 1) (A 80) (A 81) (nt p) (nt q) ≠ 1 := by
  rw [cn_0]
  constructor
  · intro h p q h1 h2 h3 h4
    have := h (6 * p + q) (by omega)
    rw [fpG_at h1 (by omega) h2, if_pos h3] at this
    exact this h4
  · intro h c hc g
    unfold fpG at g
    by_cases e : c / 6 < c % 6 ∧ ((c % 6 : Nat) : Int) < A 0 ∧ iAnd (iShr (A (16 + (c / 6 : Nat))) (c % 6 : Nat)) 1 = 1
    · rw [if_pos e] at g
      exact h (c / 6) (c % 6) e.1 e.2.1 e.2.2 g
    · rw [if_neg e] at g
      cases g
/-- what is asked of the members of a set of bridges -/
def BRs (A : Int → Int) (s : Int) (L : List Nat) (n : Nat) : Prop := L = mbr s 31 ∧ L.length = n ∧ ∀ k, k < n → ((L.getD k 0 : Nat) : Int) < A 0
theorem BRs_in {A : Int → Int} {s : Int} {L : List Nat} {n i : Nat} (h : BRs A s L n) (hi : i < n) : ask L ((L.getD i 0 : Nat) : Int) n = i ∧ isI s ((L.getD i 0 : Nat) : Int) := by
  obtain ⟨h1, h2, h3⟩ := h
  have hg := mbr_get (s := s) (n := 31) (k := i) (by rw [← h1]; omega)
  have hii : isI s (((mbr s 31).getD i 0 : Nat) : Int) := ⟨by omega, by omega, hg.2⟩
  rw [← h1] at hii
  refine ⟨ask_at rfl n hi (fun j h4 h5 => ?_), hii⟩
  have := mbr_lt h4 31 (by rw [← h1]; omega)
  rw [← h1] at this
  omega
theorem BRs_ex {A : Int → Int} {s : Int} {L : List Nat} {n b : Nat} (h : BRs A s L n) (hi : isI s b) : ∃ i, i < n ∧ L.getD i 0 = b := by
  obtain ⟨h1, h2, h3⟩ := h
  obtain ⟨k, e1, e2⟩ := mbr_ex hi.2.2 31 (by have := hi.2.1; omega)
  rw [← h1] at e1 e2
  exact ⟨k, by omega, e2⟩
theorem BRs_out {A : Int → Int} {s : Int} {L : List Nat} {n b : Nat} (h : BRs A s L n) (hi : ¬ isI s b) : ask L (b : Int) n = -1 := by
  obtain ⟨h1, h2, h3⟩ := h
  have := mbr_ask0 (s := s) (x := (b : Int)) hi
  rw [← h1, h2] at this
  exact this
theorem BRs_lt {A : Int → Int} {s : Int} {L : List Nat} {n e i : Nat} (h : BRs A s L n) (hi : i < n) (he : e < i) : L.getD e 0 < L.getD i 0 := by
  obtain ⟨h1, h2, h3⟩ := h
  have := mbr_lt he 31 (by rw [← h1]; omega)
  rw [← h1] at this
  exact this
theorem ntV_in {ru : RU} {A : Int → Int} {s : Int} {L : List Nat} {n i : Nat} {nf : Nat → Nat → Int} {v : Int → Int} (h : BRs A s L n) (hi : i < n) : ntV ru A L n nf v ((L.getD i 0 : Nat) : Int) = nf i (v i).toNat := by
  unfold ntV
  rw [(BRs_in h hi).1, if_neg (by omega), Int.toNat_natCast]
theorem ntV_out {ru : RU} {A : Int → Int} {s : Int} {L : List Nat} {n b : Nat} {nf : Nat → Nat → Int} {v : Int → Int} (h : BRs A s L n) (hi : ¬ isI s b) : ntV ru A L n nf v b = ntA ru A b := by
  unfold ntV
  rw [BRs_out h hi, if_pos rfl]
theorem ntV_c {ru : RU} {A : Int → Int} {L : List Nat} {n : Nat} {nf : Nat → Nat → Int} {v u : Int → Int} (h : ∀ j : Nat, j < n → v j = u j) : ntV ru A L n nf v = ntV ru A L n nf u := by
  funext b
  unfold ntV
  by_cases c : ask L b n = -1
  · rw [if_pos c, if_pos c]
  · have : ∀ m, ask L b m ≠ -1 → 0 ≤ ask L b m ∧ ask L b m < m := fun m => by
      induction m with
      | zero => intro g; exact absurd rfl g
      | succ m ih =>
        intro g
        rw [ask_s] at g ⊢
        by_cases e : ((L.getD m 0 : Nat) : Int) = b
        · rw [if_pos e]; omega
        · rw [if_neg e] at g ⊢
          have := ih g
          omega
    obtain ⟨h1, h2⟩ := this n c
    obtain ⟨j, hj⟩ := Int.eq_ofNat_of_zero_le h1
    rw [hj] at c h2 ⊢
    rw [if_neg c, if_neg c, h j (by omega)]
/-- the class's pieces together -/
theorem wel_GV {ru : RU} {A : Int → Int} {s : Int} {L : List Nat} {F : Int → Int} {n : Nat} {nf : Nat → Nat → Int} {v : Int → Int} (hw : WS A) (h : BRs A s L n) (hF : ∀ i, i < n → F ((i : Int) * 61 + (v i).toNat) = nf i (v i).toNat) (hoc : ∀ p q : Nat, p < q → (q : Int) < A 0 → ¬ ocP ru A s p q) : ((∀ i, i < n → dcB ru A s L F i (v i).toNat (A 0).toNat = true) ∧ (∀ i, i < n → ∀ e, e < i → FTb ru A L F e i (v e).toNat (v i).toNat = true)) ↔ welV ru A L n nf v := by
  have b0 := hw.1
  have hFT : ∀ e i, e < n → i < n → (FTb ru A L F e i (v e).toNat (v i).toNat = true ↔ ¬ (iAnd (iShr (A (16 + (L.getD e 0 : Nat))) (L.getD i 0 : Nat)) 1 = 1 ∧ clI (ru 1) (A 80) (A 81) (nf e (v e).toNat) (nf i (v i).toNat) = 1)) := fun e i he hi => by
    unfold FTb
    rw [hF e he, hF i hi]
    simp only [Bool.not_eq_true', Bool.and_eq_false_iff, decide_eq_false_iff_not]
    constructor
    · rintro (g | g) ⟨g1, g2⟩
      · exact g g1
      · exact g g2
    · intro g
      by_cases c : iAnd (iShr (A (16 + (L.getD e 0 : Nat))) (L.getD i 0 : Nat)) 1 = 1
      · exact Or.inr (fun q => g ⟨c, q⟩)
      · exact Or.inl c
  have hDC : ∀ i, i < n → (dcB ru A s L F i (v i).toNat (A 0).toNat = true ↔ ∀ b : Nat, (b : Int) < A 0 → ¬ isI s b → iAnd (iShr (A (16 + (L.getD i 0 : Nat))) b) 1 = 1 → clI (ru 1) (A 80) (A 81) (nf i (v i).toNat) (ntA ru A b) ≠ 1) := fun i hi => by
    rw [dcB_t]
    constructor
    · intro g b h1 h2 h3 h4
      have := dcO_t.mp (g b (by omega))
      rw [hF i hi] at this
      exact this ⟨⟨h2, h3⟩, h4⟩
    · intro g b hb
      rw [dcO_t, hF i hi]
      rintro ⟨⟨h2, h3⟩, h4⟩
      exact g b (by omega) h2 h3 h4
  have hsym : ∀ p q : Nat, (p : Int) < A 0 → (q : Int) < A 0 → iAnd (iShr (A (16 + p)) q) 1 = iAnd (iShr (A (16 + q)) p) 1 := fun p q h1 h2 => hw.2.2.2.2 p q (by omega) (by omega)
  unfold welV
  rw [fpG_1 (by omega)]
  constructor
  · rintro ⟨g1, g2⟩ p q h1 h2 h3
    by_cases c1 : isI s p
    · obtain ⟨e, he, rfl⟩ := BRs_ex h c1
      rw [ntV_in h he]
      by_cases c2 : isI s q
      · obtain ⟨i, hi, rfl⟩ := BRs_ex h c2
        rw [ntV_in h hi]
        have hei : e < i := by
          rcases Nat.lt_trichotomy e i with g | g | g
          · exact g
          · subst g; omega
          · have := BRs_lt h he g; omega
        intro h4
        exact (hFT e i he hi).mp (g2 i hi e hei) ⟨h3, h4⟩
      · rw [ntV_out h c2]
        exact (hDC e he).mp (g1 e he) q h2 c2 h3
    · rw [ntV_out h c1]
      by_cases c2 : isI s q
      · obtain ⟨i, hi, rfl⟩ := BRs_ex h c2
        rw [ntV_in h hi, clI_sym]
        exact (hDC i hi).mp (g1 i hi) p (by omega) c1 (by rw [← hsym p _ (by omega) h2]; exact h3)
      · rw [ntV_out h c2]
        intro h4
        exact hoc p q h1 h2 ⟨c1, c2, h3, h4⟩
  · intro g
    refine ⟨fun i hi => (hDC i hi).mpr (fun b h1 h2 h3 h4 => ?_), fun i hi e he => (hFT e i (by omega) hi).mpr (fun q => ?_)⟩
    · have hLi := h.2.2 i hi
      have hne : L.getD i 0 ≠ b := fun e => h2 (by rw [← e]; exact (BRs_in h hi).2)
      rcases Nat.lt_or_ge (L.getD i 0) b with c | c
      · have := g _ b c h1 h3
        rw [ntV_in h hi, ntV_out h h2] at this
        exact this h4
      · have := g b _ (by omega : b < L.getD i 0) hLi (by rw [hsym b _ h1 hLi]; exact h3)
        rw [ntV_in h hi, ntV_out h h2, clI_sym] at this
        exact this h4
    · have := g _ _ (BRs_lt h hi he) (h.2.2 i hi) q.1
      rw [ntV_in h (show e < n by omega), ntV_in h hi] at this
      exact this q.2
theorem wel_oc {ru : RU} {A : Int → Int} {s : Int} {L : List Nat} {n : Nat} {nf : Nat → Nat → Int} {v : Int → Int} (hw : WS A) (h : BRs A s L n) {p q : Nat} (h1 : p < q) (h2 : (q : Int) < A 0) (ho : ocP ru A s p q) : ¬ welV ru A L n nf v := by
  unfold welV
  rw [fpG_1 (by have := hw.1; omega)]
  intro g
  have := g p q h1 h2 ho.2.2.1
  rw [ntV_out h ho.1, ntV_out h ho.2.1] at this
  exact this ho.2.2.2
/-- well: what both sides look for -/
noncomputable def okCh (ru : RU) (A : Int → Int) (L : List Nat) (n C : Nat) (sh W : Int) (nf : Nat → Nat → Int) (vd : Nat → Nat → Bool) (x : Nat) : Int := @ite Int ((∀ i : Nat, i < n → vd i (ov C n x i).toNat = true) ∧ welV ru A L n nf (ov C n x) ∧ (sh = 1 → smV (ov C n x) n = W)) (Classical.propDecidable _) 1 0
theorem okCh_1 {ru : RU} {A : Int → Int} {L : List Nat} {n C : Nat} {sh W : Int} {nf : Nat → Nat → Int} {vd : Nat → Nat → Bool} {x : Nat} : okCh ru A L n C sh W nf vd x = 1 ↔ (∀ i : Nat, i < n → vd i (ov C n x i).toNat = true) ∧ welV ru A L n nf (ov C n x) ∧ (sh = 1 → smV (ov C n x) n = W) := by
  unfold okCh
  by_cases c : (∀ i : Nat, i < n → vd i (ov C n x i).toNat = true) ∧ welV ru A L n nf (ov C n x) ∧ (sh = 1 → smV (ov C n x) n = W)
  · rw [if_pos c]; exact ⟨fun _ => c, fun _ => rfl⟩
  · rw [if_neg c]; exact ⟨fun h => absurd h (by decide), fun h => absurd h c⟩
noncomputable def chB (ru : RU) (A : Int → Int) (L : List Nat) (n C : Nat) (sh W : Int) (nf : Nat → Nat → Int) (vd : Nat → Nat → Bool) : Int × Nat := bF (okCh ru A L n C sh W nf vd) (fun x => csV sh (ov C n x) n) (C ^ n)
set_option maxHeartbeats 1000000 in
theorem c_cheapestC {d n C : Nat} {M : mM} {K : mQ} {A F : Int → Int} {ru : RU} {L : List Nat} {sh s W wt' : Int} {vd : Nat → Nat → Bool} {nf : Nat → Nat → Int} (hsh : sh = 0 ∨ sh = 1) (hX : CX M A ru) (hC : CHs L F n C sh vd M) (hM : ∀ i : Nat, i < 366 → M 79 i = 0) (hF : ∀ j : Nat, j < 244 → 0 ≤ F j ∧ F j ≤ 999) (hn : n ≤ 4) (hC61 : C ≤ 61) (hC1 : 0 < C) (hW : sh = 1 → W = (C : Int) - 1 ∧ wt' = W) (hW0 : sh = 0 → wt' = 0 ∧ C = 11) (hBR : BRs A s L n) (hvd : ∀ i o, C ≤ o → vd i o = false) (hnf : ∀ i o, i < n → o < C → vd i o = true → F ((i : Int) * 61 + o) = nf i o) (hK : ∀ M', fr QCp M M' → ((chB ru A L n C sh W nf vd).1 ≠ -1 → ∀ j : Nat, j < n → M' 76 j = ov C n (chB ru A L n C sh W nf vd).2 j) → K (some (vi (chB ru A L n C sh W nf vd).1)) M') : mCall (d + 1 + n + 8) 4 [vr 74, vi s, vi wt'] M K := by
  have hw := hX.2.2.2.1
  have b0 := hw.1
  have h00 : ∀ t, 0 ≤ (fun x => csV sh (ov C n x) n) t := fun t => csV_0 n
  have hFM : FMs ru A L F n C M := fun e i oe h1 h2 h3 => by
    have := px_R i (by omega) e h1
    have h4 := hM (px e i * 61 + oe) (by omega)
    rw [show ((px e i * 61 + oe : Nat) : Int) = (px e i : Nat) * 61 + oe by omega] at h4
    exact Or.inl h4
  refine c_cheapest0 (W := W) hsh hX hC hFM hF hn hC61 hC1 hW hW0 hBR.2.1 (fun i hi => by have := hBR.2.2 i hi; omega) hvd (fun M' p q f1 h1 h2 h3 => ?_) (fun M' B f1 hno hB h76 => ?_)
  · have e : (chB ru A L n C sh W nf vd).1 = -1 := bF_none h00 (fun t ht hok => wel_oc hw hBR h1 h2 h3 (okCh_1.mp hok).2.1)
    have hr := hK M' f1 (fun g => absurd e g)
    rw [e] at hr
    exact hr
  · have e : B = chB ru A L n C sh W nf vd := by
      rw [hB]
      refine bF_c _ (fun t ht => ?_)
      rw [gdI_1, okCh_1]
      have hdv : ∀ i : Nat, (ov C n t i).toNat < C := fun i => by have := ov_R (n := n) (x := t) hC1 i; omega
      constructor
      · rintro ⟨g1, g2, g3⟩
        have hv : ∀ i : Nat, i < n → vd i (ov C n t i).toNat = true ∧ dcB ru A s L F i (ov C n t i).toNat (A 0).toNat = true := fun i hi => by
          have := g1 i hi
          rw [Bool.and_eq_true] at this
          exact this
        have hF2 : ∀ i, i < n → F ((i : Int) * 61 + (ov C n t i).toNat) = nf i (ov C n t i).toNat := fun i hi => hnf i _ hi (hdv i) (hv i hi).1
        exact ⟨fun i hi => (hv i hi).1, (wel_GV hw hBR hF2 hno).mp ⟨fun i hi => (hv i hi).2, g2⟩, g3⟩
      · rintro ⟨g1, g2, g3⟩
        have hF2 : ∀ i, i < n → F ((i : Int) * 61 + (ov C n t i).toNat) = nf i (ov C n t i).toNat := fun i hi => hnf i _ hi (hdv i) (g1 i hi)
        obtain ⟨g4, g5⟩ := (wel_GV hw hBR hF2 hno).mpr g2
        exact ⟨fun i hi => by rw [Bool.and_eq_true]; exact ⟨g1 i hi, g4 i hi⟩, g5, g3⟩
    rw [e] at h76 ⊢
    exact hK M' f1 h76
