/-! text: the machine keeps its shape and its types -/
def tw (ws : List Int) : List Bool := ws.map (fun k => decide (k = 12 ∨ k = 13))
def ty : FR → List Bool
  | [] => []
  | (x, ws) :: F => tw ws ++ ((if 28 ≤ x ∧ x ≤ 33 then [false] else []) ++ ty F)
def tyS (w1 : Bool) (F : FR) : List Bool := if w1 = true then ty F else false :: ty F
theorem tw_app (W V : List Int) : tw (W ++ V) = tw W ++ tw V := List.map_append
theorem wfc_app {w : Int} {q : Int × Int} {t t1 : List Bool} (hq : okI w q) (h1 : tyc t q = some t1) (hl : t1.length ≤ 60) : ∀ (L : List (Int × Int)) (t0 : List Bool), wfc w L t0 t → wfc w (L ++ [q]) t0 t1
  | [], t0, h => by
    replace h : t0 = t := h
    subst h
    exact ⟨hq, t1, h1, hl, rfl⟩
  | p :: L, t0, h => by
    obtain ⟨a, s, b, c, e⟩ := h
    exact ⟨a, s, b, c, wfc_app hq h1 hl L s e⟩
theorem okI_op {w : Int} {k : Int} (h : isWt k) (h39 : k ≠ 39) : okI w (opk k, 0) := by
  obtain ⟨-, q2, q3⟩ := oTk_opk h h39
  exact ⟨fun e => absurd e q2, fun e => absurd e q3⟩
theorem tyc_ar {k : Int} {R : List Bool} (h : 34 ≤ k ∧ k ≤ 38) : tyc (false :: false :: R) (opk k, 0) = some (false :: R) := by
  rcases (show k = 34 ∨ k = 35 ∨ k = 36 ∨ k = 37 ∨ k = 38 by omega) with rfl | rfl | rfl | rfl | rfl <;> rfl
theorem tyc_cm {k : Int} {R : List Bool} (h : isR k) : tyc (false :: false :: R) (opk k, 0) = some (true :: R) := by
  unfold isR at h
  rcases (show k = 28 ∨ k = 29 ∨ k = 30 ∨ k = 31 ∨ k = 32 ∨ k = 33 by omega) with rfl | rfl | rfl | rfl | rfl | rfl <;> rfl
theorem em_cons (k : Int) (W : List Int) (L : List (Int × Int)) : L ++ em (k :: W) = (L ++ [(opk k, 0)]) ++ em W := by
  rw [List.append_assoc]
  rfl
theorem em_nil (L : List (Int × Int)) : L ++ em [] = L := List.append_nil L
theorem wf_ar {w : Int} {R : List Bool} : ∀ (W : List Int) (L : List (Int × Int)), (∀ k ∈ W, 34 ≤ k ∧ k ≤ 38) → (tw W ++ R).length ≤ 58 → wfc w L [] (false :: (tw W ++ R)) → wfc w (L ++ em W) [] (false :: R)
  | [], L, _, _, h => by rw [em_nil]; exact h
  | k :: W, L, hW, hl, h => by
    have hk := hW k (List.mem_cons_self ..)
    have e : tw (k :: W) = false :: tw W := by
      show decide (k = 12 ∨ k = 13) :: tw W = _
      rw [decide_eq_false (by omega)]
    rw [e] at h hl
    rw [em_cons]
    rw [List.cons_append, List.length_cons] at hl
    refine wf_ar W _ (fun x hx => hW x (List.mem_cons_of_mem _ hx)) (by omega) ?_
    exact wfc_app (okI_op (by unfold isWt; omega) (by omega)) (tyc_ar hk) (by rw [List.length_cons]; omega) L [] h
theorem wf_mn {w : Int} {R : List Bool} (hR : R.length ≤ 58) : ∀ (n : Nat) (L : List (Int × Int)), wfc w L [] (false :: R) → wfc w (L ++ mns n) [] (false :: R)
  | 0, L, h => by
    show wfc w (L ++ em []) [] (false :: R)
    rw [em_nil]; exact h
  | n + 1, L, h => by
    show wfc w (L ++ em (45 :: List.replicate n 45)) [] (false :: R)
    rw [em_cons]
    exact wf_mn hR n _ (wfc_app (okI_op (by unfold isWt; omega) (by decide)) rfl (by rw [List.length_cons]; omega) L [] h)
theorem wf_nt {w : Int} {R : List Bool} (hR : R.length ≤ 58) : ∀ (n : Nat) (L : List (Int × Int)), wfc w L [] (true :: R) → wfc w (L ++ em (List.replicate n 14)) [] (true :: R)
  | 0, L, h => by
    show wfc w (L ++ em []) [] (true :: R)
    rw [em_nil]; exact h
  | n + 1, L, h => by
    show wfc w (L ++ em (14 :: List.replicate n 14)) [] (true :: R)
    rw [em_cons]
    exact wf_nt hR n _ (wfc_app (okI_op (by unfold isWt; omega) (by decide)) rfl (by rw [List.length_cons]; omega) L [] h)
theorem wf_bo {w : Int} {R : List Bool} : ∀ (W : List Int) (L : List (Int × Int)), (∀ k ∈ W, k = 12 ∨ k = 13) → (tw W ++ R).length ≤ 58 → wfc w L [] (true :: (tw W ++ R)) → wfc w (L ++ em W) [] (true :: R)
  | [], L, _, _, h => by rw [em_nil]; exact h
  | k :: W, L, hW, hl, h => by
    have hk := hW k (List.mem_cons_self ..)
    have e : tw (k :: W) = true :: tw W := by
      show decide (k = 12 ∨ k = 13) :: tw W = _
      rw [decide_eq_true hk]
    rw [e] at h hl
    rw [em_cons]
    rw [List.cons_append, List.length_cons] at hl
    refine wf_bo W _ (fun x hx => hW x (List.mem_cons_of_mem _ hx)) (by omega) ?_
    exact wfc_app (okI_op (by unfold isWt; omega) (by omega)) (by rcases hk with rfl | rfl <;> rfl) (by rw [List.length_cons]; omega) L [] h
theorem dM_ok {tn : Bool} : ∀ F : FR, okF tn F → arB tn (topF F) → okF tn (dM F) ∧ arB tn (topF (dM F)) ∧ topF (dM F) ≠ 45 ∧ ty (dM F) = ty F ∧ dep (dM F) + nM F = dep F
  | [], h, _ => h.elim
  | [(x, ws)], h, g => by
    have hx := h.1
    have e1 : dM [(x, ws)] = [(x, ws)] := by
      show (if x = 45 then dM [] else [(x, ws)]) = _
      rw [if_neg (by omega)]
    have e2 : nM [(x, ws)] = 0 := by
      show (if x = 45 then nM [] + 1 else 0) = _
      rw [if_neg (by omega)]
    rw [e1, e2]
    exact ⟨h, g, by show x ≠ 45; omega, rfl, rfl⟩
  | (x, ws) :: (y, us) :: F, h, g => by
    by_cases c : x = 45
    · have hs : ws = [] ∧ arB tn y := by
        have h2 := h.2
        unfold isR at h2
        rcases h2 with q | q | q | q
        · have := q.1; omega
        · exfalso; rcases q.1 with q1 | q1 <;> omega
        · have := q.1; omega
        · exact q.2
      obtain ⟨a1, a2, a3, a4, a5⟩ := dM_ok ((y, us) :: F) h.1 hs.2
      have e1 : dM ((x, ws) :: (y, us) :: F) = dM ((y, us) :: F) := by
        show (if x = 45 then dM ((y, us) :: F) else _) = _
        rw [if_pos c]
      have e2 : nM ((x, ws) :: (y, us) :: F) = nM ((y, us) :: F) + 1 := by
        show (if x = 45 then nM ((y, us) :: F) + 1 else 0) = _
        rw [if_pos c]
      have e3 : ty ((x, ws) :: (y, us) :: F) = ty ((y, us) :: F) := by
        show tw ws ++ ((if 28 ≤ x ∧ x ≤ 33 then [false] else []) ++ ty ((y, us) :: F)) = _
        rw [if_neg (by omega), hs.1]
        rfl
      have e4 : dep ((x, ws) :: (y, us) :: F) = 1 + dep ((y, us) :: F) := by
        show (if x = 14 ∨ x = 39 ∨ x = 45 then 1 else 0) + dep ((y, us) :: F) = _
        rw [if_pos (Or.inr (Or.inr c))]
      rw [e1, e2, e3, e4]
      exact ⟨a1, a2, a3, a4, by omega⟩
    · have e1 : dM ((x, ws) :: (y, us) :: F) = (x, ws) :: (y, us) :: F := by
        show (if x = 45 then dM ((y, us) :: F) else _) = _
        rw [if_neg c]
      have e2 : nM ((x, ws) :: (y, us) :: F) = 0 := by
        show (if x = 45 then nM ((y, us) :: F) + 1 else 0) = _
        rw [if_neg c]
      rw [e1, e2]
      exact ⟨h, g, c, rfl, rfl⟩
theorem fO_ok {tn aA : Bool} {F : FR} (h : okM2 tn F true aA) : okF tn (fO aA F) ∧ arB tn (topF (fO aA F)) ∧ ty (fO aA F) = ty F ∧ dep (fO aA F) = dep F := by
  obtain ⟨hF, h1, h2, -⟩ := h
  cases aA with
  | false => exact ⟨hF, h2 rfl rfl, rfl, rfl⟩
  | true =>
    cases F with
    | nil => exact hF.elim
    | cons p F =>
      obtain ⟨y, us⟩ := p
      exact ⟨⟨hF, Or.inr (Or.inl ⟨Or.inl rfl, Or.inl rfl, h1 rfl rfl⟩)⟩, Or.inr (Or.inr (Or.inl rfl)), rfl, by show (if (2 : Int) = 14 ∨ (2 : Int) = 39 ∨ (2 : Int) = 45 then 1 else 0) + dep ((y, us) :: F) = _; rw [if_neg (by decide), Nat.zero_add]⟩
/-- no more frames than opened, the base and an asking -/
theorem len_F {tn : Bool} : ∀ F : FR, okF tn F → F.length ≤ dep F + 2 ∧ (asB tn (topF F) → F.length = dep F + 1)
  | [], h => h.elim
  | [(x, ws)], h => by
    have hx := h.1
    have e : dep [(x, ws)] = 0 := by
      show (if x = 14 ∨ x = 39 ∨ x = 45 then 1 else 0) + 0 = _
      rw [if_neg (by omega)]
    rw [e]
    exact ⟨by simp, fun _ => rfl⟩
  | (x, ws) :: (y, us) :: F, h => by
    obtain ⟨a1, a2⟩ := len_F ((y, us) :: F) h.1
    have h2 := h.2
    have e4 : dep ((x, ws) :: (y, us) :: F) = (if x = 14 ∨ x = 39 ∨ x = 45 then 1 else 0) + dep ((y, us) :: F) := rfl
    have e5 : ((x, ws) :: (y, us) :: F).length = ((y, us) :: F).length + 1 := rfl
    rw [e4, e5]
    rcases h2 with q | q | q | q
    · have q1 := a2 q.2.2
      rw [if_pos (Or.inl q.1)]
      exact ⟨by omega, fun _ => by omega⟩
    · have q1 := a2 q.2.2
      have q2 := q.1
      unfold isR at q2
      rw [if_neg (by omega)]
      refine ⟨by omega, fun g => ?_⟩
      exfalso
      replace g : asB tn x := g
      unfold asB at g
      rcases g with g | g
      · omega
      · have := g.1; omega
    · rw [if_pos (Or.inr (Or.inl q.1))]
      refine ⟨by omega, fun g => ?_⟩
      exfalso
      replace g : asB tn x := g
      have := q.1
      unfold asB at g
      rcases g with g | g
      · omega
      · have := g.1; omega
    · rw [if_pos (Or.inr (Or.inr q.1))]
      refine ⟨by omega, fun g => ?_⟩
      exfalso
      replace g : asB tn x := g
      have := q.1
      unfold asB at g
      rcases g with g | g
      · omega
      · have := g.1; omega
