/-! the start: the memory -/
def az : Int → Int := fun i => if i = 3 then -1 else if i = 82 then 23 else 0
def rz : Int → Int := fun i => if i = 50 then 23 else if 24 ≤ i ∧ i ≤ 35 then -1 else 0
def m0 (S : Int → Int) : mM := fun k => if k = 152 then S else if 142 ≤ k ∧ k ≤ 150 then CT k else if k = 9 ∨ k = 21 then rz else if k = 2 ∨ k = 14 then (fun i => if i = 18 then -1 else 0) else if k = 61 then (fun i => if i = 0 ∨ i = 1 then -1 else 0) else if k = 97 then (fun i => if i = 4 ∨ i = 5 then -1 else 0) else if k = 98 ∨ k = 99 then az else fun _ => 0
theorem az_0 {i : Int} (h : i ≠ 3 ∧ i ≠ 82) : az i = 0 := by unfold az; rw [if_neg h.1, if_neg h.2]
theorem rz_0 {i : Int} (h : i ≠ 50 ∧ (i < 24 ∨ 35 < i)) : rz i = 0 := by unfold rz; rw [if_neg h.1, if_neg (by omega)]
theorem rz_1 {i : Int} (h : 24 ≤ i ∧ i ≤ 35) : rz i = -1 := by unfold rz; rw [if_neg (by omega), if_pos h]
theorem ru_0 {i : Int} (h : i ≠ 18) : (if i = 18 then (-1 : Int) else 0) = 0 := if_neg h
theorem m0_z {S : Int → Int} {k : Nat} (h : k ≠ 152 ∧ ¬ (142 ≤ k ∧ k ≤ 150) ∧ k ≠ 9 ∧ k ≠ 21 ∧ k ≠ 2 ∧ k ≠ 14 ∧ k ≠ 61 ∧ k ≠ 97 ∧ k ≠ 98 ∧ k ≠ 99) : m0 S k = fun _ => 0 := by
  unfold m0
  rw [if_neg (by omega), if_neg (by omega), if_neg (by omega), if_neg (by omega), if_neg (by omega), if_neg (by omega), if_neg (by omega)]
theorem sh0 {q : Int} (h : 0 ≤ q ∧ q < 6) : iShr 0 q = 0 := by
  rcases (show q = 0 ∨ q = 1 ∨ q = 2 ∨ q = 3 ∨ q = 4 ∨ q = 5 by omega) with rfl | rfl | rfl | rfl | rfl | rfl <;> decide +kernel
theorem WS_az : WS az := by
  refine ⟨?_, ?_, fun b hb => ?_, fun l hl => ?_, fun p q hp hq => ?_⟩
  · rw [az_0 (by omega)]; omega
  · rw [az_0 (by omega)]; omega
  · rw [az_0 (i := 0) (by omega), az_0 (i := 10 + b) (by omega), az_0 (i := 16 + b) (by omega)]; omega
  · rw [az_0 (i := 22 + 3 * l) (by omega), az_0 (i := 23 + 3 * l) (by omega), az_0 (i := 24 + 3 * l) (by omega)]; omega
  · rw [az_0 (i := 16 + p) (by omega), az_0 (i := 16 + q) (by omega), sh0 (by omega), sh0 (by omega)]
theorem WD_az : WD az := by
  have e82 : az 82 = 23 := rfl
  refine ⟨?_, ?_, ?_, fun b hb => ?_, fun l hl => ?_⟩
  · rw [az_0 (by omega)]; omega
  · rw [az_0 (by omega)]; omega
  · rw [e82]; omega
  · rw [az_0 (i := 0) (by omega), az_0 (i := 83 + b) (by omega), az_0 (i := 89 + b) (by omega), az_0 (i := 95 + b) (by omega), az_0 (i := 101 + b) (by omega)]; omega
  · rw [az_0 (i := 1) (by omega), az_0 (i := 107 + l) (by omega), az_0 (i := 119 + l) (by omega)]; omega
theorem FW_az : FW az := by
  have e : az 131 = 0 := rfl
  refine ⟨by rw [e]; omega, fun i hi => ?_⟩
  rw [e] at hi
  omega
theorem CV_0 {S : Int → Int} {B : Nat} (hB : B = 2 ∨ B = 14) : CV B (m0 S) az := by
  have z : ∀ k, 1 ≤ k → k ≤ 11 → k ≠ 7 → m0 S (B + k) = fun _ => 0 := fun k h1 h2 h3 => m0_z (by omega)
  have z0 : m0 S B = fun i => if i = 18 then (-1 : Int) else 0 := by rcases hB with rfl | rfl <;> rfl
  have z7 : m0 S (B + 7) = rz := by rcases hB with rfl | rfl <;> rfl
  have a0 : ∀ {i : Int}, i ≠ 3 ∧ i ≠ 82 → az i = 0 := fun h => az_0 h
  refine ⟨⟨?_, ?_, fun b hb => ?_, fun l hl => ?_⟩, ⟨⟨fun b hb => ?_, fun l hl => ?_, ?_, ?_, ?_, ?_⟩, ?_, ?_, fun i hi => ?_⟩, WS_az, ⟨WD_az, ?_, FW_az⟩, ⟨?_, ?_, ?_, fun k hk => ?_⟩, ⟨fun b hb h => ?_, ⟨?_, ?_⟩, ⟨?_, ?_⟩, ⟨?_, ?_⟩, ⟨?_, ?_⟩, fun k hk => ⟨?_, ?_, fun h => ?_⟩, fun k hk => ⟨?_, fun h => ?_⟩⟩⟩
  · rw [z0]; rfl
  · rw [z0]; rfl
  · rw [z 2 (by omega) (by omega) (by omega), z 3 (by omega) (by omega) (by omega), a0 (by omega), a0 (by omega)]; exact ⟨rfl, rfl⟩
  · rw [z 4 (by omega) (by omega) (by omega), z 5 (by omega) (by omega) (by omega), z 6 (by omega) (by omega) (by omega), a0 (by omega), a0 (by omega), a0 (by omega)]; exact ⟨rfl, rfl, rfl⟩
  · rw [z7, rz_0 (i := b) (by omega), rz_0 (i := 6 + b) (by omega), rz_0 (i := 12 + b) (by omega), rz_0 (i := 18 + b) (by omega), a0 (i := 83 + b) (by omega), a0 (i := 89 + b) (by omega), a0 (i := 95 + b) (by omega), a0 (i := 101 + b) (by omega)]; exact ⟨rfl, rfl, rfl, rfl⟩
  · rw [z7, rz_1 (i := 24 + l) (by omega), rz_0 (i := 36 + l) (by omega), a0 (i := 1) (by omega), a0 (i := 119 + l) (by omega)]; exact ⟨fun h => by omega, fun _ => rfl, rfl⟩
  · rw [z7]; rfl
  · rw [z7]; rfl
  · rw [z7]; decide +kernel
  · rw [z7]; decide +kernel
  · rw [z7]; rfl
  · rw [z7]; rfl
  · exact absurd hi (by rw [show az 131 = 0 from rfl]; omega)
  · decide +kernel
  · rw [z0]; rfl
  · decide +kernel
  · rw [z0]; decide +kernel
  · exact absurd hk (by rw [show az 4 = 0 from rfl]; omega)
  · exact absurd h (by rw [show az 0 = 0 from rfl]; omega)
  · rw [z0]; rfl
  · decide +kernel
  · rw [z0]; rfl
  · decide +kernel
  · rw [z0]; rfl
  · decide +kernel
  · rw [z0]; rfl
  · decide +kernel
  · rw [z 9 (by omega) (by omega) (by omega), a0 (by omega)]
  · rw [z 10 (by omega) (by omega) (by omega), a0 (by omega)]
  · exact absurd h (by rw [show az 5 = 0 from rfl]; omega)
  · rw [z 11 (by omega) (by omega) (by omega), a0 (by omega)]
  · exact absurd h (by rw [show az 6 = 0 from rfl]; omega)
theorem J_0 {S : Int → Int} : J S (m0 S) (fun _ _ => none) := by
  have e8 : m0 S 98 = az := rfl
  have e9 : m0 S 99 = az := rfl
  refine ⟨by rw [e8]; exact CV_0 (Or.inl rfl), by rw [e9]; exact CV_0 (Or.inr rfl), by rw [e8, e9]; exact Int.le_refl _, fun t ht => absurd ht (by rw [e8, show az 2 = 0 from rfl]; omega), ⟨rfl, ⟨Int.le_refl _, show (0 : Int) ≤ 300 by decide⟩, fun i hi => absurd hi (by rw [show m0 S 59 1 = 0 from rfl]; omega), rfl, rfl⟩, rfl, ⟨rfl, fun k h1 h2 => ?_⟩, fun i hi => ?_⟩
  · unfold m0
    rw [if_neg (by omega), if_pos ⟨h1, h2⟩]
  · exact ⟨show (0 : Int) ≤ 0 by decide, show (0 : Int) ≤ 999 by decide⟩
