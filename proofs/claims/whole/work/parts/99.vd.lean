/-! the start: what stays (wSt) -/
def stS (L : Nat) (xs : Nat → Int32) : Int → Int := fun i => if i = -1 then (L : Int) else (xs i.toNat).toInt
theorem st_R1 {args : Array Value} {s : State} (hts : ∀ w ∈ lw_tbl, w.before args s = true) {a : Nat} (ha : (Term.string "HummingBridges$Tape" 43).eval args s none [] s = some (.ref a)) : ∃ tx, vk_R (clsS 9) 43 tx a s :=
  ⟨"note  tune  holds toll  go    hour  mend  stringfrost stand on    to    or    and   not   bridgestrunglengthwear  load  many  up    down  low   high  weightkind  sound ", vk_R.of (A := args) (hts _ (List.mem_of_getElem? (i := 914) (by decide +kernel))) ha⟩
theorem st_R2 {args : Array Value} {s : State} (hts : ∀ w ∈ lw_tbl, w.before args s = true) {a : Nat} (ha : (Term.string "HummingBridges$Tape" 60).eval args s none [] s = some (.ref a)) : ∃ tx, vk_R (clsS 9) 60 tx a s :=
  ⟨"< > =#+-*/%();", vk_R.of (A := args) (hts _ (List.mem_of_getElem? (i := 968) (by decide +kernel))) ha⟩
theorem st_wSt {args : Array Value} {s : State} {A : Nat → Prop} {b L : Nat} {xs : Nat → Int32} (hts : ∀ w ∈ lw_tbl, w.before args s = true) (hgv : (Jvm.Cond.and given_1 narrow_1).before args s = true) (hA : ∀ a : Nat, a < s.heap.size → ¬ A a) (hX : va_X b L xs s s.heap) (hb : b < s.heap.size) : ∃ (T : Nat → Nat) (r : Option Nat), ∀ (G : mG) (M : mM), (∀ k, 142 ≤ k → k ≤ 150 → G.2.2.1 k = T k) → G.2.2.1 152 = b → G.2.2.2.1 = r → KS (stS L xs) M → wSt G A s M := by
  obtain ⟨t, ht⟩ : ∃ t : Nat → Nat, ∀ q, q < 5 → va_T .int (t q) 6 (fun i => .int (Int32.ofInt (CT (142 + q) i))) A s s.heap ∧ va_Z (sNa q).1 (sNa q).2.1 (sNa q).2.2 (.ref (t q)) A s s.heap :=
    ⟨fun q => if h : q < 5 then (st_T hts hgv hA h).choose else 0, fun q h => by dsimp only; rw [dif_pos h]; exact (st_T hts hgv hA h).choose_spec⟩
  obtain ⟨r, hr⟩ := st_Z6 (A := A) hts hgv hA
  obtain ⟨a1, b1, e1, p1, p2, p3, p4⟩ := st_S1 (A := A) hgv hA
  obtain ⟨a2, b2, e2, q1, q2, q3, q4⟩ := st_S2 (A := A) hgv hA
  refine ⟨fun k => if k < 147 then t (k - 142) else if k = 147 then a1 else if k = 148 then b1 else if k = 149 then a2 else b2, r, ?_⟩
  intro G M hG h152 hf hK
  have g : ∀ q, q < 5 → G.2.2.1 (142 + q) = t q := fun q h => by
    rw [hG (142 + q) (by omega) (by omega)]
    dsimp only
    rw [if_pos (by omega), Nat.add_sub_cancel_left]
  have g7 : G.2.2.1 147 = a1 := by rw [hG 147 (by omega) (by omega)]; rfl
  have g8 : G.2.2.1 148 = b1 := by rw [hG 148 (by omega) (by omega)]; rfl
  have g9 : G.2.2.1 149 = a2 := by rw [hG 149 (by omega) (by omega)]; rfl
  have g0 : G.2.2.1 150 = b2 := by rw [hG 150 (by omega) (by omega)]; rfl
  refine ⟨fun q h => ?_, fun q h => ?_, st_Z5 hts hgv hA, by rw [hf]; exact hr, ?_, ?_, ?_, ?_, ?_, fun a i x h hw => va_Nw.of rfl (hts _ hw)⟩
  · rw [g q h, hK.2 (142 + q) (by omega) (by omega)]; exact (ht q h).1
  · rw [g q h]; exact (ht q h).2
  · unfold wStr
    rw [g7, g8, hK.2 148 (by omega) (by omega), hK.2 147 (by omega) (by omega)]
    exact ⟨p1, p2, p3, p4, by decide +kernel⟩
  · unfold wStr
    rw [g9, g0, hK.2 150 (by omega) (by omega), hK.2 149 (by omega) (by omega)]
    exact ⟨q1, q2, q3, q4, by decide +kernel⟩
  · rw [g7]; exact st_R1 hts e1
  · rw [g9]; exact st_R2 hts e2
  · rw [h152, hK.1]
    have e : (stS L xs (-1)) = (L : Int) := rfl
    rw [e]
    refine ⟨by omega, ?_, hb, hA b hb⟩
    have ef : (fun i : Nat => Int32.ofInt (stS L xs i)) = xs := by
      funext i
      unfold stS
      rw [if_neg (by omega), Int32.ofInt_toInt]
      rfl
    rw [ef]
    exact hX
