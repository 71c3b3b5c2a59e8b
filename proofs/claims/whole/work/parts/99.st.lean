/-! text: each step keeps shape and types -/
theorem ty_sy {x : Int} {F : FR} (h : ¬ isR x) : ty ((x, []) :: F) = ty F := by
  show tw [] ++ ((if 28 ≤ x ∧ x ≤ 33 then [false] else []) ++ ty F) = ty F
  rw [if_neg (show ¬ (28 ≤ x ∧ x ≤ 33) from h)]
  rfl
theorem ty_ws {x : Int} {ws : List Int} {F : FR} (h : ¬ isR x) : ty ((x, ws) :: F) = tw ws ++ ty F := by
  show tw ws ++ ((if 28 ≤ x ∧ x ≤ 33 then [false] else []) ++ ty F) = _
  rw [if_neg (show ¬ (28 ≤ x ∧ x ≤ 33) from h), List.nil_append]
theorem ty_R {x : Int} {ws : List Int} {F : FR} (h : isR x) : ty ((x, ws) :: F) = tw ws ++ (false :: ty F) := by
  show tw ws ++ ((if 28 ≤ x ∧ x ≤ 33 then [false] else []) ++ ty F) = _
  rw [if_pos (show 28 ≤ x ∧ x ≤ 33 from h)]
  rfl
theorem okF_push {tn : Bool} {x : Int} : ∀ {F : FR}, okF tn F → arB tn (topF F) → (x = 39 ∨ x = 45) → okF tn ((x, []) :: F)
  | [], h, _, _ => h.elim
  | (y, us) :: F, h, g, hx => by
    rcases hx with rfl | rfl
    · exact ⟨h, Or.inr (Or.inr (Or.inl ⟨rfl, Or.inl rfl, g⟩))⟩
    · exact ⟨h, Or.inr (Or.inr (Or.inr ⟨rfl, rfl, g⟩))⟩
theorem dep_c {x : Int} {ws : List Int} {F : FR} : dep ((x, ws) :: F) = (if x = 14 ∨ x = 39 ∨ x = 45 then 1 else 0) + dep F := rfl
theorem tw_ar {k : Int} {ws : List Int} (h : 34 ≤ k ∧ k ≤ 38) : tw (k :: ws) = false :: tw ws := by
  show decide (k = 12 ∨ k = 13) :: tw ws = _
  rw [decide_eq_false (by omega)]
theorem tw_bo {k : Int} {ws : List Int} (h : k = 12 ∨ k = 13) : tw (k :: ws) = true :: tw ws := by
  show decide (k = 12 ∨ k = 13) :: tw ws = _
  rw [decide_eq_true h]
theorem tw_len {ws : List Int} : (tw ws).length = ws.length := List.length_map _
set_option maxHeartbeats 1000000 in
theorem wf_R {tn : Bool} {w x : Int} {ws bs : List Int} {n : Nat} {L : List (Int × Int)} (hF : okF tn ((x, ws) :: nts n [(1, bs)])) (hx : isR x) (ht : wfc w L [] (false :: ty ((x, ws) :: nts n [(1, bs)]))) (V : List Int) (U : List Int) (hV : bs = V ++ U) : tn = true ∧ bw bs ∧ dep ((x, ws) :: nts n [(1, bs)]) = n ∧ wfc w (L ++ em (ws ++ (x :: (List.replicate n 14 ++ V)))) [] (true :: tw U) := by
  have hG : okF tn (nts n [(1, bs)]) ∧ asB tn (topF (nts n [(1, bs)])) ∧ aw ws := by
    have hx' : x ≠ 14 ∧ x ≠ 39 ∧ x ≠ 45 := by unfold isR at hx; omega
    cases n with
    | zero =>
      refine ⟨hF.1, ?_⟩
      rcases hF.2 with q | q | q | q
      · exact absurd q.1 hx'.1
      · exact ⟨q.2.2, q.2.1⟩
      · exact absurd q.1 hx'.2.1
      · exact absurd q.1 hx'.2.2
    | succ m =>
      refine ⟨hF.1, Or.inl rfl, ?_⟩
      rcases hF.2 with q | q | q | q
      · exact absurd q.1 hx'.1
      · exact q.2.1
      · exact absurd q.1 hx'.2.1
      · exact absurd q.1 hx'.2.2
  obtain ⟨h1, h2, h3⟩ := hG
  obtain ⟨a, b, c, e⟩ := nts_ok n h1 h2
  have b2 := bw_2 b
  have w2 := aw_2 h3
  have hUV := b2.1
  rw [hV, List.length_append] at hUV
  refine ⟨a, b, ?_, ?_⟩
  · rw [dep_c, if_neg (by unfold isR at hx; omega), e, Nat.zero_add]
  · rw [ty_R hx, c] at ht
    have hbl := tw_len (ws := bs)
    have hwl := tw_len (ws := ws)
    have hb2 := b2.1
    have s1 := wf_ar ws L w2.2 (by rw [List.length_append, List.length_cons]; have := w2.1; omega) ht
    have s2 := wfc_app (w := w) (okI_op (k := x) (by unfold isWt; unfold isR at hx; omega) (by unfold isR at hx; omega)) (tyc_cm hx) (by rw [List.length_cons]; omega) _ [] s1
    have s3 := wf_nt (w := w) (R := tw bs) (by omega) n _ s2
    rw [hV, tw_app] at s3
    have hVl := tw_len (ws := V)
    have hUl := tw_len (ws := U)
    have s4 := wf_bo V _ (fun k hk => b2.2 k (by rw [hV]; exact List.mem_append_left _ hk)) (by rw [List.length_append]; omega) s3
    rw [em_app, ← List.append_assoc, em_cons, em_app, ← List.append_assoc]
    exact s4
set_option maxHeartbeats 2000000 in
theorem LSt_ok {w : Int} {F : FR} {L : List (Int × Int)} {w1 aA : Bool} {k v : Int} {F' : FR} {L' : List (Int × Int)} {w1' aA' : Bool} (h : okM2 (decide (w = 1)) F w1 aA) (hd : dep F ≤ 8) (ht : wfc w L [] (tyS w1 F)) (hv : k = 42 → 0 ≤ v) (s : LSt w F L w1 aA k v F' L' w1' aA') : okM2 (decide (w = 1)) F' w1' aA' ∧ dep F' ≤ 8 ∧ wfc w L' [] (tyS w1' F') := by
  have hF := h.1
  have hl1 := (len_F F hF).1
  have hl2 := ty_len F hF
  rcases s with ⟨rfl, c1, c2, rfl, rfl, rfl, rfl⟩ | ⟨rfl, c1, c2, rfl, rfl, rfl, rfl⟩ | ⟨rfl, c1, c2, c3, rfl, rfl, rfl, rfl⟩ | ⟨rfl, c1, c2, rfl, rfl, rfl, rfl⟩ | ⟨rfl, c1, c2, rfl, rfl, rfl, rfl⟩ | ⟨rfl, c1, ws, G, rfl, rfl, rfl, rfl, rfl⟩ | ⟨rfl, c1, x, ws, G, rfl, rfl, rfl, rfl, rfl⟩ | ⟨rfl, c1, ws, G, rfl, rfl, rfl, rfl, rfl⟩ | ⟨rfl, c1, x, ws, n, bs, c2, rfl, rfl, rfl, rfl, rfl⟩
  · obtain ⟨o1, o2, o3, o4⟩ := fO_ok h
    obtain ⟨d1, d2, d3, d4, d5⟩ := dM_ok _ o1 o2
    refine ⟨⟨d1, fun e => (by cases e), fun e => (by cases e), fun _ => ⟨rfl, d2, d3⟩⟩, by omega, ?_⟩
    show wfc w (L ++ ([(400, v)] ++ mns (nM (fO aA F)))) [] (false :: ty (dM (fO aA F)))
    rw [d4, o3, ← List.append_assoc]
    refine wf_mn (by omega) _ _ (wfc_app ⟨fun _ => ⟨hv c1, c2⟩, fun e => absurd e (show ¬ (400 : Int) = 401 by decide)⟩ rfl (by rw [List.length_cons]; omega) L [] ht)
  · obtain ⟨o1, o2, o3, o4⟩ := fO_ok h
    obtain ⟨d1, d2, d3, d4, d5⟩ := dM_ok _ o1 o2
    refine ⟨⟨d1, fun e => (by cases e), fun e => (by cases e), fun _ => ⟨rfl, d2, d3⟩⟩, by omega, ?_⟩
    show wfc w (L ++ ([(401, nNo k)] ++ mns (nM (fO aA F)))) [] (false :: ty (dM (fO aA F)))
    rw [d4, o3, ← List.append_assoc]
    refine wf_mn (by omega) _ _ (wfc_app ⟨fun e => absurd e (show ¬ (401 : Int) = 400 by decide), fun _ => c2⟩ rfl (by rw [List.length_cons]; omega) L [] ht)
  · have ha := h.2.1 rfl c2
    cases F with
    | nil => exact hF.elim
    | cons p F =>
      obtain ⟨y, us⟩ := p
      refine ⟨⟨⟨hF, Or.inl ⟨rfl, rfl, ha⟩⟩, fun _ _ => Or.inl rfl, fun _ e => (by cases e), fun e => (by cases e)⟩, ?_, ?_⟩
      · rw [dep_c, if_pos (Or.inl rfl)]; omega
      · show wfc w L' [] (ty ((14, []) :: (y, us) :: F))
        rw [ty_sy (by unfold isR; decide)]
        exact ht
  · obtain ⟨o1, o2, o3, o4⟩ := fO_ok h
    refine ⟨⟨okF_push o1 o2 (Or.inl rfl), fun _ e => (by cases e), fun _ _ => Or.inl rfl, fun e => (by cases e)⟩, ?_, ?_⟩
    · rw [dep_c, if_pos (by decide), o4]; omega
    · show wfc w L' [] (ty ((39, []) :: fO aA F))
      rw [ty_sy (by unfold isR; decide), o3]
      exact ht
  · obtain ⟨o1, o2, o3, o4⟩ := fO_ok h
    refine ⟨⟨okF_push o1 o2 (Or.inr rfl), fun _ e => (by cases e), fun _ _ => Or.inr (Or.inl rfl), fun e => (by cases e)⟩, ?_, ?_⟩
    · rw [dep_c, if_pos (by decide), o4]; omega
    · show wfc w L' [] (ty ((45, []) :: fO aA F))
      rw [ty_sy (by unfold isR; decide), o3]
      exact ht
  · have hG : okF (decide (w = 1)) G ∧ arB (decide (w = 1)) (topF G) := by
      cases G with
      | nil => exact absurd hF.1 (by decide)
      | cons p G =>
        refine ⟨hF.1, ?_⟩
        have h2 := hF.2
        unfold isR at h2
        rcases h2 with q | q | q | q
        · exact absurd q.1 (by decide)
        · exact absurd q.1 (by decide)
        · exact q.2.2
        · exact absurd q.1 (by decide)
    have ha := okF_aw hF (Or.inl rfl) (by decide)
    have w2 := aw_2 ha
    obtain ⟨d1, d2, d3, d4, d5⟩ := dM_ok _ hG.1 hG.2
    replace ht : wfc w L [] (false :: ty ((39, ws) :: G)) := ht
    rw [dep_c, if_pos (by decide)] at hd hl1
    rw [ty_ws (by unfold isR; decide), List.length_append] at hl2
    rw [ty_ws (by unfold isR; decide)] at ht
    refine ⟨⟨d1, fun e => (by cases e), fun e => (by cases e), fun _ => ⟨rfl, d2, d3⟩⟩, by omega, ?_⟩
    show wfc w (L ++ (em ws ++ mns (nM G))) [] (false :: ty (dM G))
    rw [d4, ← List.append_assoc]
    exact wf_mn (by omega) _ _ (wf_ar ws L w2.2 (by rw [List.length_append]; omega) ht)
  · obtain ⟨-, g1, g2⟩ := h.2.2.2 rfl
    have ha := okF_aw hF g1 g2
    have hax := aw_dr ha c1
    have w2 := aw_2 ha
    have e := tk_dr (rk k) ws
    replace ht : wfc w L [] (false :: ty ((x, ws) :: G)) := ht
    obtain ⟨R, hR⟩ : ∃ R, (if 28 ≤ x ∧ x ≤ 33 then [false] else []) ++ ty G = R := ⟨_, rfl⟩
    have et : ∀ us, ty ((x, us) :: G) = tw us ++ R := fun us => by rw [← hR]; rfl
    rw [et] at ht hl2
    refine ⟨⟨okF_put hF g1 g2 hax, fun _ e => (by cases e), fun _ _ => g1, fun e => (by cases e)⟩, hd, ?_⟩
    show wfc w _ [] (ty ((x, k :: drW (rk k) ws) :: G))
    rw [et, tw_ar c1]
    have hlt : (tw ws).length = (tw (tkW (rk k) ws)).length + (tw (drW (rk k) ws)).length := by
      rw [tw_len, tw_len, tw_len, ← List.length_append, e]
    rw [List.length_append] at hl2
    rw [← e, tw_app, List.append_assoc] at ht
    refine wf_ar (R := tw (drW (rk k) ws) ++ R) _ L (fun y hy => w2.2 y (by rw [← e]; exact List.mem_append_left _ hy)) (by rw [List.length_append, List.length_append]; omega) ht
  · obtain ⟨-, g1, g2⟩ := h.2.2.2 rfl
    have ha := okF_aw hF g1 g2
    have w2 := aw_2 ha
    replace ht : wfc w L [] (false :: ty ((2, ws) :: G)) := ht
    rw [ty_ws (by unfold isR; decide), List.length_append] at hl2
    rw [ty_ws (by unfold isR; decide)] at ht
    have hk : ¬ (k = 14 ∨ k = 39 ∨ k = 45) := by unfold isR at c1; omega
    refine ⟨⟨?_, fun _ e => (by cases e), fun _ _ => Or.inr (Or.inr (Or.inr (Or.inl c1))), fun e => (by cases e)⟩, ?_, ?_⟩
    · cases G with
      | nil => exact absurd hF.1 (by decide)
      | cons p G =>
        refine ⟨hF.1, ?_⟩
        have h2 := hF.2
        rcases h2 with q | q | q | q
        · exact absurd q.1 (by decide)
        · exact Or.inr (Or.inl ⟨Or.inr c1, Or.inl rfl, q.2.2⟩)
        · exact absurd q.1 (by decide)
        · exact absurd q.1 (by decide)
    · rw [dep_c, if_neg (by decide)] at hd
      rw [dep_c, if_neg hk]
      exact hd
    · show wfc w _ [] (ty ((k, []) :: G))
      rw [ty_R c1]
      exact wf_ar ws L w2.2 (by rw [List.length_append]; omega) ht
  · have e := tk_dr (rk k) bs
    obtain ⟨a, b, c, u⟩ := wf_R hF c2 ht (tkW (rk k) bs) (drW (rk k) bs) e.symm
    have hb := bw_dr b c1
    refine ⟨⟨⟨rfl, fun _ => hb, fun g => ?_⟩, fun _ _ => Or.inr ⟨rfl, a⟩, fun _ e => (by cases e), fun e => (by cases e)⟩, Nat.zero_le _, ?_⟩
    · rw [a] at g; cases g
    · show wfc w _ [] (ty [(1, k :: drW (rk k) bs)])
      rw [ty_ws (by unfold isR; decide), tw_bo c1]
      show wfc w _ [] (true :: (tw (drW (rk k) bs) ++ []))
      rw [List.append_nil]
      exact u
theorem LEnd_ok {w : Int} {F : FR} {L : List (Int × Int)} {w1 aA : Bool} {k : Int} {L' : List (Int × Int)} (h : okM2 (decide (w = 1)) F w1 aA) (ht : wfc w L [] (tyS w1 F)) (s : LEnd w F L w1 k L') : wfc w L' [] [decide (w = 1)] := by
  have hF := h.1
  obtain ⟨rfl, c1, ⟨hw, ws, rfl, rfl⟩ | ⟨x, ws, n, bs, c2, rfl, rfl⟩⟩ := s
  · rw [decide_eq_false hw] at hF ⊢
    have w2 := aw_2 (hF.2.2 rfl)
    replace ht : wfc w L [] (false :: ty [(1, ws)]) := ht
    rw [ty_ws (by unfold isR; decide)] at ht
    exact wf_ar (R := []) ws L w2.2 (by rw [List.append_nil, tw_len]; omega) ht
  · obtain ⟨a, b, c, u⟩ := wf_R hF c2 ht bs [] (List.append_nil bs).symm
    rw [a]
    exact u
