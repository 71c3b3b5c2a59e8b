/-! the start: the world as the small machine sees it (made by gen_world.py) -/
def adL (q1 q2 : Nat) (u1 u2 : Nat → Nat) : List Nat := [0, q1, u1 1, u1 2, u1 3, u1 4, u1 5, u1 6, u1 7, u1 8, u1 9, u1 10, u1 11, u1 12, u1 13, u1 14, u1 15, u1 16, u1 17, u1 18, u1 19, u1 20, u1 21, u1 22, u1 23, u1 24, u1 25, u1 64, u1 65, u1 66, u1 67, u1 68, u1 69, u1 70, u1 71, u1 72, u1 73, u1 74, u1 75, u1 76, u1 77, u1 78, u1 79, u1 80, u1 81, u1 82, u1 83, u1 84, u1 85, u1 86, u1 87, u1 88, u1 89, u1 90, u1 91, u1 92, u1 93, u1 94, u1 95, u1 26, u1 27, u1 28, u1 29, u1 30, u1 31, u1 32, u1 33, u1 34, u1 35, u1 36, u1 37, u1 38, u1 39, u1 40, u1 41, u1 42, u1 43, u1 44, u1 45, u1 46, u1 47, u1 48, u1 49, u1 50, u1 51, u1 52, u1 53, u1 54, u1 55, u1 56, u1 57, u1 58, u1 59, u1 60, u1 61, u1 62, u1 63, q2, u2 43, u2 44, u2 1, u2 2, u2 3, u2 4, u2 5, u2 6, u2 7, u2 8, u2 9, u2 10, u2 11, u2 12, u2 13, u2 14, u2 15, u2 16, u2 17, u2 18, u2 19, u2 20, u2 21, u2 22, u2 23, u2 24, u2 25, u2 26, u2 27, u2 28, u2 29, u2 30, u2 31, u2 32, u2 33, u2 34, u2 35, u2 36, u2 37, u2 38, u2 39, u2 40, u2 41, u2 42]
def adF (q1 q2 : Nat) (u1 u2 : Nat → Nat) (T : Nat → Nat) (b : Nat) : Nat → Nat := fun k => if k ≤ 141 then (adL q1 q2 u1 u2).getD k 0 else if k = 152 then b else T k
abbrev G0 (dC : Nat → ClassId) (dI : Nat → Nat → Nat) (cc : Nat → ClassId) (r : Option Nat) (T : Nat → Nat) (b q1 q2 : Nat) (u1 u2 : Nat → Nat) : mG := (dC, dI, adF q1 q2 u1 u2 T b, r, cc)
theorem rz_u : (fun i : Nat => Int32.ofInt (rz i)) = (upd (upd (upd (upd (upd (upd (upd (upd (upd (upd (upd (upd (upd (fun _ => 0) 50 23) 24 (-1)) 25 (-1)) 26 (-1)) 27 (-1)) 28 (-1)) 29 (-1)) 30 (-1)) 31 (-1)) 32 (-1)) 33 (-1)) 34 (-1)) 35 (-1)) := by
  funext i
  by_cases h : i < 60
  · exact (show ∀ i : Nat, i < 60 → Int32.ofInt (rz i) = ((upd (upd (upd (upd (upd (upd (upd (upd (upd (upd (upd (upd (upd (fun _ => 0) 50 23) 24 (-1)) 25 (-1)) 26 (-1)) 27 (-1)) 28 (-1)) 29 (-1)) 30 (-1)) 31 (-1)) 32 (-1)) 33 (-1)) 34 (-1)) 35 (-1))) i by decide +kernel) i h
  · have e : rz i = 0 := rz_0 (by omega)
    rw [e]
    unfold upd
    simp (disch := omega) only [if_neg]
    rfl
theorem az_u : (fun i : Nat => Int32.ofInt (az i)) = (upd (upd (fun _ => 0) 3 (-1)) 82 23) := by
  funext i
  by_cases h : i < 90
  · exact (show ∀ i : Nat, i < 90 → Int32.ofInt (az i) = ((upd (upd (fun _ => 0) 3 (-1)) 82 23)) i by decide +kernel) i h
  · have e : az i = 0 := az_0 (by omega)
    rw [e]
    unfold upd
    simp (disch := omega) only [if_neg]
    rfl
theorem ew_1 {dC : Nat → ClassId} {dI : Nat → Nat → Nat} {cc : Nat → ClassId} {r : Option Nat} {T : Nat → Nat} {b q1 q2 : Nat} {u1 u2 : Nat → Nat} {S : Int → Int} : wE (G0 dC dI cc r T b q1 q2 u1 u2) 1 (m0 S 1) = .inr (11, [.ref (u1 1), .ref (u1 13), .ref (u1 25), .ref (u1 26), .ref (u1 28), .ref (u1 30), .ref (u1 35), .ref (u1 41), .ref (u1 47), .ref (u1 53), .ref (u1 56), .ref (u1 61)]) := by
  rfl
theorem ew_2 {dC : Nat → ClassId} {dI : Nat → Nat → Nat} {cc : Nat → ClassId} {r : Option Nat} {T : Nat → Nat} {b q1 q2 : Nat} {u1 u2 : Nat → Nat} {S : Int → Int} : wE (G0 dC dI cc r T b q1 q2 u1 u2) 2 (m0 S 2) = .inr (10, [.int 0, .int 0, .ref (u1 2), .ref (u1 3), .ref (u1 4), .ref (u1 5), .ref (u1 6), .ref (u1 7), .ref (u1 8), .ref (u1 9), .int 0, .int 0, .ref (u1 10), .ref (u1 11), .int 0, .ref (u1 12), .int 0, .int 0, .int (-1)]) := by
  rfl
theorem ew_3 {dC : Nat → ClassId} {dI : Nat → Nat → Nat} {cc : Nat → ClassId} {r : Option Nat} {T : Nat → Nat} {b q1 q2 : Nat} {u1 u2 : Nat → Nat} {S : Int → Int} : wE (G0 dC dI cc r T b q1 q2 u1 u2) 3 (m0 S 3) = .inl (cc 2, 6, .inl (fun _ => 0)) := by
  rfl
theorem ew_4 {dC : Nat → ClassId} {dI : Nat → Nat → Nat} {cc : Nat → ClassId} {r : Option Nat} {T : Nat → Nat} {b q1 q2 : Nat} {u1 u2 : Nat → Nat} {S : Int → Int} : wE (G0 dC dI cc r T b q1 q2 u1 u2) 4 (m0 S 4) = .inl (cc 2, 6, .inl (fun _ => 0)) := by
  rfl
theorem ew_5 {dC : Nat → ClassId} {dI : Nat → Nat → Nat} {cc : Nat → ClassId} {r : Option Nat} {T : Nat → Nat} {b q1 q2 : Nat} {u1 u2 : Nat → Nat} {S : Int → Int} : wE (G0 dC dI cc r T b q1 q2 u1 u2) 5 (m0 S 5) = .inl (cc 2, 6, .inl (fun _ => 0)) := by
  rfl
theorem ew_6 {dC : Nat → ClassId} {dI : Nat → Nat → Nat} {cc : Nat → ClassId} {r : Option Nat} {T : Nat → Nat} {b q1 q2 : Nat} {u1 u2 : Nat → Nat} {S : Int → Int} : wE (G0 dC dI cc r T b q1 q2 u1 u2) 6 (m0 S 6) = .inl (cc 2, 12, .inl (fun _ => 0)) := by
  rfl
theorem ew_7 {dC : Nat → ClassId} {dI : Nat → Nat → Nat} {cc : Nat → ClassId} {r : Option Nat} {T : Nat → Nat} {b q1 q2 : Nat} {u1 u2 : Nat → Nat} {S : Int → Int} : wE (G0 dC dI cc r T b q1 q2 u1 u2) 7 (m0 S 7) = .inl (cc 2, 12, .inl (fun _ => 0)) := by
  rfl
theorem ew_8 {dC : Nat → ClassId} {dI : Nat → Nat → Nat} {cc : Nat → ClassId} {r : Option Nat} {T : Nat → Nat} {b q1 q2 : Nat} {u1 u2 : Nat → Nat} {S : Int → Int} : wE (G0 dC dI cc r T b q1 q2 u1 u2) 8 (m0 S 8) = .inl (cc 2, 12, .inl (fun _ => 0)) := by
  rfl
theorem ew_9 {dC : Nat → ClassId} {dI : Nat → Nat → Nat} {cc : Nat → ClassId} {r : Option Nat} {T : Nat → Nat} {b q1 q2 : Nat} {u1 u2 : Nat → Nat} {S : Int → Int} : wE (G0 dC dI cc r T b q1 q2 u1 u2) 9 (m0 S 9) = .inl (cc 2, 92, .inl (upd (upd (upd (upd (upd (upd (upd (upd (upd (upd (upd (upd (upd (fun _ => 0) 50 23) 24 (-1)) 25 (-1)) 26 (-1)) 27 (-1)) 28 (-1)) 29 (-1)) 30 (-1)) 31 (-1)) 32 (-1)) 33 (-1)) 34 (-1)) 35 (-1))) := by
  rw [← rz_u]
  rfl
theorem ew_10 {dC : Nat → ClassId} {dI : Nat → Nat → Nat} {cc : Nat → ClassId} {r : Option Nat} {T : Nat → Nat} {b q1 q2 : Nat} {u1 u2 : Nat → Nat} {S : Int → Int} : wE (G0 dC dI cc r T b q1 q2 u1 u2) 10 (m0 S 10) = .inl (cc 2, 2760, .inl (fun _ => 0)) := by
  rfl
theorem ew_11 {dC : Nat → ClassId} {dI : Nat → Nat → Nat} {cc : Nat → ClassId} {r : Option Nat} {T : Nat → Nat} {b q1 q2 : Nat} {u1 u2 : Nat → Nat} {S : Int → Int} : wE (G0 dC dI cc r T b q1 q2 u1 u2) 11 (m0 S 11) = .inl (cc 2, 6, .inl (fun _ => 0)) := by
  rfl
theorem ew_12 {dC : Nat → ClassId} {dI : Nat → Nat → Nat} {cc : Nat → ClassId} {r : Option Nat} {T : Nat → Nat} {b q1 q2 : Nat} {u1 u2 : Nat → Nat} {S : Int → Int} : wE (G0 dC dI cc r T b q1 q2 u1 u2) 12 (m0 S 12) = .inl (cc 2, 6, .inl (fun _ => 0)) := by
  rfl
theorem ew_13 {dC : Nat → ClassId} {dI : Nat → Nat → Nat} {cc : Nat → ClassId} {r : Option Nat} {T : Nat → Nat} {b q1 q2 : Nat} {u1 u2 : Nat → Nat} {S : Int → Int} : wE (G0 dC dI cc r T b q1 q2 u1 u2) 13 (m0 S 13) = .inl (cc 2, 6, .inl (fun _ => 0)) := by
  rfl
theorem ew_14 {dC : Nat → ClassId} {dI : Nat → Nat → Nat} {cc : Nat → ClassId} {r : Option Nat} {T : Nat → Nat} {b q1 q2 : Nat} {u1 u2 : Nat → Nat} {S : Int → Int} : wE (G0 dC dI cc r T b q1 q2 u1 u2) 14 (m0 S 14) = .inr (10, [.int 0, .int 0, .ref (u1 14), .ref (u1 15), .ref (u1 16), .ref (u1 17), .ref (u1 18), .ref (u1 19), .ref (u1 20), .ref (u1 21), .int 0, .int 0, .ref (u1 22), .ref (u1 23), .int 0, .ref (u1 24), .int 0, .int 0, .int (-1)]) := by
  rfl
theorem ew_15 {dC : Nat → ClassId} {dI : Nat → Nat → Nat} {cc : Nat → ClassId} {r : Option Nat} {T : Nat → Nat} {b q1 q2 : Nat} {u1 u2 : Nat → Nat} {S : Int → Int} : wE (G0 dC dI cc r T b q1 q2 u1 u2) 15 (m0 S 15) = .inl (cc 2, 6, .inl (fun _ => 0)) := by
  rfl
theorem ew_16 {dC : Nat → ClassId} {dI : Nat → Nat → Nat} {cc : Nat → ClassId} {r : Option Nat} {T : Nat → Nat} {b q1 q2 : Nat} {u1 u2 : Nat → Nat} {S : Int → Int} : wE (G0 dC dI cc r T b q1 q2 u1 u2) 16 (m0 S 16) = .inl (cc 2, 6, .inl (fun _ => 0)) := by
  rfl
theorem ew_17 {dC : Nat → ClassId} {dI : Nat → Nat → Nat} {cc : Nat → ClassId} {r : Option Nat} {T : Nat → Nat} {b q1 q2 : Nat} {u1 u2 : Nat → Nat} {S : Int → Int} : wE (G0 dC dI cc r T b q1 q2 u1 u2) 17 (m0 S 17) = .inl (cc 2, 6, .inl (fun _ => 0)) := by
  rfl
theorem ew_18 {dC : Nat → ClassId} {dI : Nat → Nat → Nat} {cc : Nat → ClassId} {r : Option Nat} {T : Nat → Nat} {b q1 q2 : Nat} {u1 u2 : Nat → Nat} {S : Int → Int} : wE (G0 dC dI cc r T b q1 q2 u1 u2) 18 (m0 S 18) = .inl (cc 2, 12, .inl (fun _ => 0)) := by
  rfl
theorem ew_19 {dC : Nat → ClassId} {dI : Nat → Nat → Nat} {cc : Nat → ClassId} {r : Option Nat} {T : Nat → Nat} {b q1 q2 : Nat} {u1 u2 : Nat → Nat} {S : Int → Int} : wE (G0 dC dI cc r T b q1 q2 u1 u2) 19 (m0 S 19) = .inl (cc 2, 12, .inl (fun _ => 0)) := by
  rfl
theorem ew_20 {dC : Nat → ClassId} {dI : Nat → Nat → Nat} {cc : Nat → ClassId} {r : Option Nat} {T : Nat → Nat} {b q1 q2 : Nat} {u1 u2 : Nat → Nat} {S : Int → Int} : wE (G0 dC dI cc r T b q1 q2 u1 u2) 20 (m0 S 20) = .inl (cc 2, 12, .inl (fun _ => 0)) := by
  rfl
theorem ew_21 {dC : Nat → ClassId} {dI : Nat → Nat → Nat} {cc : Nat → ClassId} {r : Option Nat} {T : Nat → Nat} {b q1 q2 : Nat} {u1 u2 : Nat → Nat} {S : Int → Int} : wE (G0 dC dI cc r T b q1 q2 u1 u2) 21 (m0 S 21) = .inl (cc 2, 92, .inl (upd (upd (upd (upd (upd (upd (upd (upd (upd (upd (upd (upd (upd (fun _ => 0) 50 23) 24 (-1)) 25 (-1)) 26 (-1)) 27 (-1)) 28 (-1)) 29 (-1)) 30 (-1)) 31 (-1)) 32 (-1)) 33 (-1)) 34 (-1)) 35 (-1))) := by
  rw [← rz_u]
  rfl
theorem ew_22 {dC : Nat → ClassId} {dI : Nat → Nat → Nat} {cc : Nat → ClassId} {r : Option Nat} {T : Nat → Nat} {b q1 q2 : Nat} {u1 u2 : Nat → Nat} {S : Int → Int} : wE (G0 dC dI cc r T b q1 q2 u1 u2) 22 (m0 S 22) = .inl (cc 2, 2760, .inl (fun _ => 0)) := by
  rfl
theorem ew_23 {dC : Nat → ClassId} {dI : Nat → Nat → Nat} {cc : Nat → ClassId} {r : Option Nat} {T : Nat → Nat} {b q1 q2 : Nat} {u1 u2 : Nat → Nat} {S : Int → Int} : wE (G0 dC dI cc r T b q1 q2 u1 u2) 23 (m0 S 23) = .inl (cc 2, 6, .inl (fun _ => 0)) := by
  rfl
theorem ew_24 {dC : Nat → ClassId} {dI : Nat → Nat → Nat} {cc : Nat → ClassId} {r : Option Nat} {T : Nat → Nat} {b q1 q2 : Nat} {u1 u2 : Nat → Nat} {S : Int → Int} : wE (G0 dC dI cc r T b q1 q2 u1 u2) 24 (m0 S 24) = .inl (cc 2, 6, .inl (fun _ => 0)) := by
  rfl
theorem ew_25 {dC : Nat → ClassId} {dI : Nat → Nat → Nat} {cc : Nat → ClassId} {r : Option Nat} {T : Nat → Nat} {b q1 q2 : Nat} {u1 u2 : Nat → Nat} {S : Int → Int} : wE (G0 dC dI cc r T b q1 q2 u1 u2) 25 (m0 S 25) = .inl (cc 2, 6, .inl (fun _ => 0)) := by
  rfl
theorem ew_26 {dC : Nat → ClassId} {dI : Nat → Nat → Nat} {cc : Nat → ClassId} {r : Option Nat} {T : Nat → Nat} {b q1 q2 : Nat} {u1 u2 : Nat → Nat} {S : Int → Int} : wE (G0 dC dI cc r T b q1 q2 u1 u2) 26 (m0 S 26) = .inl (cc 6, 4, .inr (.inr (.inr (.inr (va_up (va_up (va_up (va_up (fun _ => none) 0 (some (u1 64))) 1 (some (u1 72))) 2 (some (u1 80))) 3 (some (u1 88))))))) := by
  refine congrArg Sum.inl (congrArg (Prod.mk _) (congrArg (Prod.mk _) (congrArg Sum.inr (congrArg Sum.inr (congrArg Sum.inr (congrArg Sum.inr (funext fun i => ?_)))))))
  match i with
  | 0 => rfl
  | 1 => rfl
  | 2 => rfl
  | 3 => rfl
  | i + 4 => rfl
theorem ew_27 {dC : Nat → ClassId} {dI : Nat → Nat → Nat} {cc : Nat → ClassId} {r : Option Nat} {T : Nat → Nat} {b q1 q2 : Nat} {u1 u2 : Nat → Nat} {S : Int → Int} : wE (G0 dC dI cc r T b q1 q2 u1 u2) 27 (m0 S 27) = .inr (8, [.ref (u1 65), .ref (u1 66), .ref (u1 67), .int 0, .ref (u1 68), .int 0, .ref (u1 69), .ref (u1 70), .ref (u1 71)]) := by
  rfl
theorem ew_28 {dC : Nat → ClassId} {dI : Nat → Nat → Nat} {cc : Nat → ClassId} {r : Option Nat} {T : Nat → Nat} {b q1 q2 : Nat} {u1 u2 : Nat → Nat} {S : Int → Int} : wE (G0 dC dI cc r T b q1 q2 u1 u2) 28 (m0 S 28) = .inl (cc 2, 24, .inl (fun _ => 0)) := by
  rfl
theorem ew_29 {dC : Nat → ClassId} {dI : Nat → Nat → Nat} {cc : Nat → ClassId} {r : Option Nat} {T : Nat → Nat} {b q1 q2 : Nat} {u1 u2 : Nat → Nat} {S : Int → Int} : wE (G0 dC dI cc r T b q1 q2 u1 u2) 29 (m0 S 29) = .inl (cc 2, 24, .inl (fun _ => 0)) := by
  rfl
theorem ew_30 {dC : Nat → ClassId} {dI : Nat → Nat → Nat} {cc : Nat → ClassId} {r : Option Nat} {T : Nat → Nat} {b q1 q2 : Nat} {u1 u2 : Nat → Nat} {S : Int → Int} : wE (G0 dC dI cc r T b q1 q2 u1 u2) 30 (m0 S 30) = .inl (cc 2, 24, .inl (fun _ => 0)) := by
  rfl
theorem ew_31 {dC : Nat → ClassId} {dI : Nat → Nat → Nat} {cc : Nat → ClassId} {r : Option Nat} {T : Nat → Nat} {b q1 q2 : Nat} {u1 u2 : Nat → Nat} {S : Int → Int} : wE (G0 dC dI cc r T b q1 q2 u1 u2) 31 (m0 S 31) = .inl (cc 2, 300, .inl (fun _ => 0)) := by
  rfl
theorem ew_32 {dC : Nat → ClassId} {dI : Nat → Nat → Nat} {cc : Nat → ClassId} {r : Option Nat} {T : Nat → Nat} {b q1 q2 : Nat} {u1 u2 : Nat → Nat} {S : Int → Int} : wE (G0 dC dI cc r T b q1 q2 u1 u2) 32 (m0 S 32) = .inl (cc 2, 4, .inl (fun _ => 0)) := by
  rfl
theorem ew_33 {dC : Nat → ClassId} {dI : Nat → Nat → Nat} {cc : Nat → ClassId} {r : Option Nat} {T : Nat → Nat} {b q1 q2 : Nat} {u1 u2 : Nat → Nat} {S : Int → Int} : wE (G0 dC dI cc r T b q1 q2 u1 u2) 33 (m0 S 33) = .inl (cc 2, 4, .inl (fun _ => 0)) := by
  rfl
theorem ew_34 {dC : Nat → ClassId} {dI : Nat → Nat → Nat} {cc : Nat → ClassId} {r : Option Nat} {T : Nat → Nat} {b q1 q2 : Nat} {u1 u2 : Nat → Nat} {S : Int → Int} : wE (G0 dC dI cc r T b q1 q2 u1 u2) 34 (m0 S 34) = .inl (cc 2, 64, .inl (fun _ => 0)) := by
  rfl
theorem ew_35 {dC : Nat → ClassId} {dI : Nat → Nat → Nat} {cc : Nat → ClassId} {r : Option Nat} {T : Nat → Nat} {b q1 q2 : Nat} {u1 u2 : Nat → Nat} {S : Int → Int} : wE (G0 dC dI cc r T b q1 q2 u1 u2) 35 (m0 S 35) = .inr (8, [.ref (u1 73), .ref (u1 74), .ref (u1 75), .int 0, .ref (u1 76), .int 0, .ref (u1 77), .ref (u1 78), .ref (u1 79)]) := by
  rfl
theorem ew_36 {dC : Nat → ClassId} {dI : Nat → Nat → Nat} {cc : Nat → ClassId} {r : Option Nat} {T : Nat → Nat} {b q1 q2 : Nat} {u1 u2 : Nat → Nat} {S : Int → Int} : wE (G0 dC dI cc r T b q1 q2 u1 u2) 36 (m0 S 36) = .inl (cc 2, 24, .inl (fun _ => 0)) := by
  rfl
theorem ew_37 {dC : Nat → ClassId} {dI : Nat → Nat → Nat} {cc : Nat → ClassId} {r : Option Nat} {T : Nat → Nat} {b q1 q2 : Nat} {u1 u2 : Nat → Nat} {S : Int → Int} : wE (G0 dC dI cc r T b q1 q2 u1 u2) 37 (m0 S 37) = .inl (cc 2, 24, .inl (fun _ => 0)) := by
  rfl
theorem ew_38 {dC : Nat → ClassId} {dI : Nat → Nat → Nat} {cc : Nat → ClassId} {r : Option Nat} {T : Nat → Nat} {b q1 q2 : Nat} {u1 u2 : Nat → Nat} {S : Int → Int} : wE (G0 dC dI cc r T b q1 q2 u1 u2) 38 (m0 S 38) = .inl (cc 2, 24, .inl (fun _ => 0)) := by
  rfl
theorem ew_39 {dC : Nat → ClassId} {dI : Nat → Nat → Nat} {cc : Nat → ClassId} {r : Option Nat} {T : Nat → Nat} {b q1 q2 : Nat} {u1 u2 : Nat → Nat} {S : Int → Int} : wE (G0 dC dI cc r T b q1 q2 u1 u2) 39 (m0 S 39) = .inl (cc 2, 300, .inl (fun _ => 0)) := by
  rfl
theorem ew_40 {dC : Nat → ClassId} {dI : Nat → Nat → Nat} {cc : Nat → ClassId} {r : Option Nat} {T : Nat → Nat} {b q1 q2 : Nat} {u1 u2 : Nat → Nat} {S : Int → Int} : wE (G0 dC dI cc r T b q1 q2 u1 u2) 40 (m0 S 40) = .inl (cc 2, 4, .inl (fun _ => 0)) := by
  rfl
theorem ew_41 {dC : Nat → ClassId} {dI : Nat → Nat → Nat} {cc : Nat → ClassId} {r : Option Nat} {T : Nat → Nat} {b q1 q2 : Nat} {u1 u2 : Nat → Nat} {S : Int → Int} : wE (G0 dC dI cc r T b q1 q2 u1 u2) 41 (m0 S 41) = .inl (cc 2, 4, .inl (fun _ => 0)) := by
  rfl
theorem ew_42 {dC : Nat → ClassId} {dI : Nat → Nat → Nat} {cc : Nat → ClassId} {r : Option Nat} {T : Nat → Nat} {b q1 q2 : Nat} {u1 u2 : Nat → Nat} {S : Int → Int} : wE (G0 dC dI cc r T b q1 q2 u1 u2) 42 (m0 S 42) = .inl (cc 2, 64, .inl (fun _ => 0)) := by
  rfl
theorem ew_43 {dC : Nat → ClassId} {dI : Nat → Nat → Nat} {cc : Nat → ClassId} {r : Option Nat} {T : Nat → Nat} {b q1 q2 : Nat} {u1 u2 : Nat → Nat} {S : Int → Int} : wE (G0 dC dI cc r T b q1 q2 u1 u2) 43 (m0 S 43) = .inr (8, [.ref (u1 81), .ref (u1 82), .ref (u1 83), .int 0, .ref (u1 84), .int 0, .ref (u1 85), .ref (u1 86), .ref (u1 87)]) := by
  rfl
theorem ew_44 {dC : Nat → ClassId} {dI : Nat → Nat → Nat} {cc : Nat → ClassId} {r : Option Nat} {T : Nat → Nat} {b q1 q2 : Nat} {u1 u2 : Nat → Nat} {S : Int → Int} : wE (G0 dC dI cc r T b q1 q2 u1 u2) 44 (m0 S 44) = .inl (cc 2, 24, .inl (fun _ => 0)) := by
  rfl
theorem ew_45 {dC : Nat → ClassId} {dI : Nat → Nat → Nat} {cc : Nat → ClassId} {r : Option Nat} {T : Nat → Nat} {b q1 q2 : Nat} {u1 u2 : Nat → Nat} {S : Int → Int} : wE (G0 dC dI cc r T b q1 q2 u1 u2) 45 (m0 S 45) = .inl (cc 2, 24, .inl (fun _ => 0)) := by
  rfl
theorem ew_46 {dC : Nat → ClassId} {dI : Nat → Nat → Nat} {cc : Nat → ClassId} {r : Option Nat} {T : Nat → Nat} {b q1 q2 : Nat} {u1 u2 : Nat → Nat} {S : Int → Int} : wE (G0 dC dI cc r T b q1 q2 u1 u2) 46 (m0 S 46) = .inl (cc 2, 24, .inl (fun _ => 0)) := by
  rfl
theorem ew_47 {dC : Nat → ClassId} {dI : Nat → Nat → Nat} {cc : Nat → ClassId} {r : Option Nat} {T : Nat → Nat} {b q1 q2 : Nat} {u1 u2 : Nat → Nat} {S : Int → Int} : wE (G0 dC dI cc r T b q1 q2 u1 u2) 47 (m0 S 47) = .inl (cc 2, 300, .inl (fun _ => 0)) := by
  rfl
theorem ew_48 {dC : Nat → ClassId} {dI : Nat → Nat → Nat} {cc : Nat → ClassId} {r : Option Nat} {T : Nat → Nat} {b q1 q2 : Nat} {u1 u2 : Nat → Nat} {S : Int → Int} : wE (G0 dC dI cc r T b q1 q2 u1 u2) 48 (m0 S 48) = .inl (cc 2, 4, .inl (fun _ => 0)) := by
  rfl
theorem ew_49 {dC : Nat → ClassId} {dI : Nat → Nat → Nat} {cc : Nat → ClassId} {r : Option Nat} {T : Nat → Nat} {b q1 q2 : Nat} {u1 u2 : Nat → Nat} {S : Int → Int} : wE (G0 dC dI cc r T b q1 q2 u1 u2) 49 (m0 S 49) = .inl (cc 2, 4, .inl (fun _ => 0)) := by
  rfl
theorem ew_50 {dC : Nat → ClassId} {dI : Nat → Nat → Nat} {cc : Nat → ClassId} {r : Option Nat} {T : Nat → Nat} {b q1 q2 : Nat} {u1 u2 : Nat → Nat} {S : Int → Int} : wE (G0 dC dI cc r T b q1 q2 u1 u2) 50 (m0 S 50) = .inl (cc 2, 64, .inl (fun _ => 0)) := by
  rfl
theorem ew_51 {dC : Nat → ClassId} {dI : Nat → Nat → Nat} {cc : Nat → ClassId} {r : Option Nat} {T : Nat → Nat} {b q1 q2 : Nat} {u1 u2 : Nat → Nat} {S : Int → Int} : wE (G0 dC dI cc r T b q1 q2 u1 u2) 51 (m0 S 51) = .inr (8, [.ref (u1 89), .ref (u1 90), .ref (u1 91), .int 0, .ref (u1 92), .int 0, .ref (u1 93), .ref (u1 94), .ref (u1 95)]) := by
  rfl
theorem ew_52 {dC : Nat → ClassId} {dI : Nat → Nat → Nat} {cc : Nat → ClassId} {r : Option Nat} {T : Nat → Nat} {b q1 q2 : Nat} {u1 u2 : Nat → Nat} {S : Int → Int} : wE (G0 dC dI cc r T b q1 q2 u1 u2) 52 (m0 S 52) = .inl (cc 2, 24, .inl (fun _ => 0)) := by
  rfl
theorem ew_53 {dC : Nat → ClassId} {dI : Nat → Nat → Nat} {cc : Nat → ClassId} {r : Option Nat} {T : Nat → Nat} {b q1 q2 : Nat} {u1 u2 : Nat → Nat} {S : Int → Int} : wE (G0 dC dI cc r T b q1 q2 u1 u2) 53 (m0 S 53) = .inl (cc 2, 24, .inl (fun _ => 0)) := by
  rfl
theorem ew_54 {dC : Nat → ClassId} {dI : Nat → Nat → Nat} {cc : Nat → ClassId} {r : Option Nat} {T : Nat → Nat} {b q1 q2 : Nat} {u1 u2 : Nat → Nat} {S : Int → Int} : wE (G0 dC dI cc r T b q1 q2 u1 u2) 54 (m0 S 54) = .inl (cc 2, 24, .inl (fun _ => 0)) := by
  rfl
theorem ew_55 {dC : Nat → ClassId} {dI : Nat → Nat → Nat} {cc : Nat → ClassId} {r : Option Nat} {T : Nat → Nat} {b q1 q2 : Nat} {u1 u2 : Nat → Nat} {S : Int → Int} : wE (G0 dC dI cc r T b q1 q2 u1 u2) 55 (m0 S 55) = .inl (cc 2, 300, .inl (fun _ => 0)) := by
  rfl
theorem ew_56 {dC : Nat → ClassId} {dI : Nat → Nat → Nat} {cc : Nat → ClassId} {r : Option Nat} {T : Nat → Nat} {b q1 q2 : Nat} {u1 u2 : Nat → Nat} {S : Int → Int} : wE (G0 dC dI cc r T b q1 q2 u1 u2) 56 (m0 S 56) = .inl (cc 2, 4, .inl (fun _ => 0)) := by
  rfl
theorem ew_57 {dC : Nat → ClassId} {dI : Nat → Nat → Nat} {cc : Nat → ClassId} {r : Option Nat} {T : Nat → Nat} {b q1 q2 : Nat} {u1 u2 : Nat → Nat} {S : Int → Int} : wE (G0 dC dI cc r T b q1 q2 u1 u2) 57 (m0 S 57) = .inl (cc 2, 4, .inl (fun _ => 0)) := by
  rfl
theorem ew_58 {dC : Nat → ClassId} {dI : Nat → Nat → Nat} {cc : Nat → ClassId} {r : Option Nat} {T : Nat → Nat} {b q1 q2 : Nat} {u1 u2 : Nat → Nat} {S : Int → Int} : wE (G0 dC dI cc r T b q1 q2 u1 u2) 58 (m0 S 58) = .inl (cc 2, 64, .inl (fun _ => 0)) := by
  rfl
theorem ew_59 {dC : Nat → ClassId} {dI : Nat → Nat → Nat} {cc : Nat → ClassId} {r : Option Nat} {T : Nat → Nat} {b q1 q2 : Nat} {u1 u2 : Nat → Nat} {S : Int → Int} : wE (G0 dC dI cc r T b q1 q2 u1 u2) 59 (m0 S 59) = .inr (9, [.ref (u1 27), .int 0, .int 0, .int 0, .int 0]) := by
  rfl
theorem ew_60 {dC : Nat → ClassId} {dI : Nat → Nat → Nat} {cc : Nat → ClassId} {r : Option Nat} {T : Nat → Nat} {b q1 q2 : Nat} {u1 u2 : Nat → Nat} {S : Int → Int} : wE (G0 dC dI cc r T b q1 q2 u1 u2) 60 (m0 S 60) = .inl (cc 3, 300, .inl (fun _ => 0)) := by
  rfl
theorem ew_61 {dC : Nat → ClassId} {dI : Nat → Nat → Nat} {cc : Nat → ClassId} {r : Option Nat} {T : Nat → Nat} {b q1 q2 : Nat} {u1 u2 : Nat → Nat} {S : Int → Int} : wE (G0 dC dI cc r T b q1 q2 u1 u2) 61 (m0 S 61) = .inr (6, [.int (-1), .int (-1), .ref (u1 26), .null, .int 0, .int 0, .ref (u1 29), .int 0, .int 0, .int 0, .int 0, .int 0, .int 0]) := by
  rfl
theorem ew_62 {dC : Nat → ClassId} {dI : Nat → Nat → Nat} {cc : Nat → ClassId} {r : Option Nat} {T : Nat → Nat} {b q1 q2 : Nat} {u1 u2 : Nat → Nat} {S : Int → Int} : wE (G0 dC dI cc r T b q1 q2 u1 u2) 62 (m0 S 62) = .inl (cc 2, 64, .inl (fun _ => 0)) := by
  rfl
theorem ew_63 {dC : Nat → ClassId} {dI : Nat → Nat → Nat} {cc : Nat → ClassId} {r : Option Nat} {T : Nat → Nat} {b q1 q2 : Nat} {u1 u2 : Nat → Nat} {S : Int → Int} : wE (G0 dC dI cc r T b q1 q2 u1 u2) 63 (m0 S 63) = .inr (1, [.ref (u1 31), .ref (u1 32), .int 0, .ref (u1 1), .ref (u1 25), .ref (u1 33), .ref (u1 34)]) := by
  rfl
theorem ew_64 {dC : Nat → ClassId} {dI : Nat → Nat → Nat} {cc : Nat → ClassId} {r : Option Nat} {T : Nat → Nat} {b q1 q2 : Nat} {u1 u2 : Nat → Nat} {S : Int → Int} : wE (G0 dC dI cc r T b q1 q2 u1 u2) 64 (m0 S 64) = .inl (cc 2, 6, .inl (fun _ => 0)) := by
  rfl
theorem ew_65 {dC : Nat → ClassId} {dI : Nat → Nat → Nat} {cc : Nat → ClassId} {r : Option Nat} {T : Nat → Nat} {b q1 q2 : Nat} {u1 u2 : Nat → Nat} {S : Int → Int} : wE (G0 dC dI cc r T b q1 q2 u1 u2) 65 (m0 S 65) = .inl (cc 2, 15, .inl (fun _ => 0)) := by
  rfl
theorem ew_66 {dC : Nat → ClassId} {dI : Nat → Nat → Nat} {cc : Nat → ClassId} {r : Option Nat} {T : Nat → Nat} {b q1 q2 : Nat} {u1 u2 : Nat → Nat} {S : Int → Int} : wE (G0 dC dI cc r T b q1 q2 u1 u2) 66 (m0 S 66) = .inl (cc 2, 28, .inl (fun _ => 0)) := by
  rfl
theorem ew_67 {dC : Nat → ClassId} {dI : Nat → Nat → Nat} {cc : Nat → ClassId} {r : Option Nat} {T : Nat → Nat} {b q1 q2 : Nat} {u1 u2 : Nat → Nat} {S : Int → Int} : wE (G0 dC dI cc r T b q1 q2 u1 u2) 67 (m0 S 67) = .inl (cc 2, 92, .inl (fun _ => 0)) := by
  rfl
theorem ew_68 {dC : Nat → ClassId} {dI : Nat → Nat → Nat} {cc : Nat → ClassId} {r : Option Nat} {T : Nat → Nat} {b q1 q2 : Nat} {u1 u2 : Nat → Nat} {S : Int → Int} : wE (G0 dC dI cc r T b q1 q2 u1 u2) 68 (m0 S 68) = .inr (5, [.ref (u1 1), .ref (u1 30), .ref (u1 36), .ref (u1 37), .ref (u1 38), .ref (u1 39), .ref (u1 40), .int 0]) := by
  rfl
theorem ew_69 {dC : Nat → ClassId} {dI : Nat → Nat → Nat} {cc : Nat → ClassId} {r : Option Nat} {T : Nat → Nat} {b q1 q2 : Nat} {u1 u2 : Nat → Nat} {S : Int → Int} : wE (G0 dC dI cc r T b q1 q2 u1 u2) 69 (m0 S 69) = .inl (cc 2, 4, .inl (fun _ => 0)) := by
  rfl
theorem ew_70 {dC : Nat → ClassId} {dI : Nat → Nat → Nat} {cc : Nat → ClassId} {r : Option Nat} {T : Nat → Nat} {b q1 q2 : Nat} {u1 u2 : Nat → Nat} {S : Int → Int} : wE (G0 dC dI cc r T b q1 q2 u1 u2) 70 (m0 S 70) = .inl (cc 2, 4, .inl (fun _ => 0)) := by
  rfl
theorem ew_71 {dC : Nat → ClassId} {dI : Nat → Nat → Nat} {cc : Nat → ClassId} {r : Option Nat} {T : Nat → Nat} {b q1 q2 : Nat} {u1 u2 : Nat → Nat} {S : Int → Int} : wE (G0 dC dI cc r T b q1 q2 u1 u2) 71 (m0 S 71) = .inl (cc 2, 4, .inl (fun _ => 0)) := by
  rfl
theorem ew_72 {dC : Nat → ClassId} {dI : Nat → Nat → Nat} {cc : Nat → ClassId} {r : Option Nat} {T : Nat → Nat} {b q1 q2 : Nat} {u1 u2 : Nat → Nat} {S : Int → Int} : wE (G0 dC dI cc r T b q1 q2 u1 u2) 72 (m0 S 72) = .inl (cc 2, 4, .inl (fun _ => 0)) := by
  rfl
theorem ew_73 {dC : Nat → ClassId} {dI : Nat → Nat → Nat} {cc : Nat → ClassId} {r : Option Nat} {T : Nat → Nat} {b q1 q2 : Nat} {u1 u2 : Nat → Nat} {S : Int → Int} : wE (G0 dC dI cc r T b q1 q2 u1 u2) 73 (m0 S 73) = .inl (cc 2, 224, .inl (fun _ => 0)) := by
  rfl
theorem ew_74 {dC : Nat → ClassId} {dI : Nat → Nat → Nat} {cc : Nat → ClassId} {r : Option Nat} {T : Nat → Nat} {b q1 q2 : Nat} {u1 u2 : Nat → Nat} {S : Int → Int} : wE (G0 dC dI cc r T b q1 q2 u1 u2) 74 (m0 S 74) = .inr (0, [.ref (u1 1), .ref (u1 30), .ref (u1 42), .ref (u1 43), .ref (u1 44), .ref (u1 45), .ref (u1 46), .int 0, .int 0, .int 0]) := by
  rfl
theorem ew_75 {dC : Nat → ClassId} {dI : Nat → Nat → Nat} {cc : Nat → ClassId} {r : Option Nat} {T : Nat → Nat} {b q1 q2 : Nat} {u1 u2 : Nat → Nat} {S : Int → Int} : wE (G0 dC dI cc r T b q1 q2 u1 u2) 75 (m0 S 75) = .inl (cc 2, 4, .inl (fun _ => 0)) := by
  rfl
theorem ew_76 {dC : Nat → ClassId} {dI : Nat → Nat → Nat} {cc : Nat → ClassId} {r : Option Nat} {T : Nat → Nat} {b q1 q2 : Nat} {u1 u2 : Nat → Nat} {S : Int → Int} : wE (G0 dC dI cc r T b q1 q2 u1 u2) 76 (m0 S 76) = .inl (cc 2, 4, .inl (fun _ => 0)) := by
  rfl
theorem ew_77 {dC : Nat → ClassId} {dI : Nat → Nat → Nat} {cc : Nat → ClassId} {r : Option Nat} {T : Nat → Nat} {b q1 q2 : Nat} {u1 u2 : Nat → Nat} {S : Int → Int} : wE (G0 dC dI cc r T b q1 q2 u1 u2) 77 (m0 S 77) = .inl (cc 2, 244, .inl (fun _ => 0)) := by
  rfl
theorem ew_78 {dC : Nat → ClassId} {dI : Nat → Nat → Nat} {cc : Nat → ClassId} {r : Option Nat} {T : Nat → Nat} {b q1 q2 : Nat} {u1 u2 : Nat → Nat} {S : Int → Int} : wE (G0 dC dI cc r T b q1 q2 u1 u2) 78 (m0 S 78) = .inl (cc 4, 4, .inr (.inl (fun _ => 0))) := by
  rfl
theorem ew_79 {dC : Nat → ClassId} {dI : Nat → Nat → Nat} {cc : Nat → ClassId} {r : Option Nat} {T : Nat → Nat} {b q1 q2 : Nat} {u1 u2 : Nat → Nat} {S : Int → Int} : wE (G0 dC dI cc r T b q1 q2 u1 u2) 79 (m0 S 79) = .inl (cc 4, 366, .inr (.inl (fun _ => 0))) := by
  rfl
theorem ew_80 {dC : Nat → ClassId} {dI : Nat → Nat → Nat} {cc : Nat → ClassId} {r : Option Nat} {T : Nat → Nat} {b q1 q2 : Nat} {u1 u2 : Nat → Nat} {S : Int → Int} : wE (G0 dC dI cc r T b q1 q2 u1 u2) 80 (m0 S 80) = .inr (2, [.ref (u1 1), .ref (u1 30), .ref (u1 48), .ref (u1 49), .ref (u1 50), .ref (u1 51), .ref (u1 52), .int 0, .int 0, .int 0]) := by
  rfl
theorem ew_81 {dC : Nat → ClassId} {dI : Nat → Nat → Nat} {cc : Nat → ClassId} {r : Option Nat} {T : Nat → Nat} {b q1 q2 : Nat} {u1 u2 : Nat → Nat} {S : Int → Int} : wE (G0 dC dI cc r T b q1 q2 u1 u2) 81 (m0 S 81) = .inl (cc 2, 5, .inl (fun _ => 0)) := by
  rfl
theorem ew_82 {dC : Nat → ClassId} {dI : Nat → Nat → Nat} {cc : Nat → ClassId} {r : Option Nat} {T : Nat → Nat} {b q1 q2 : Nat} {u1 u2 : Nat → Nat} {S : Int → Int} : wE (G0 dC dI cc r T b q1 q2 u1 u2) 82 (m0 S 82) = .inl (cc 2, 5, .inl (fun _ => 0)) := by
  rfl
theorem ew_83 {dC : Nat → ClassId} {dI : Nat → Nat → Nat} {cc : Nat → ClassId} {r : Option Nat} {T : Nat → Nat} {b q1 q2 : Nat} {u1 u2 : Nat → Nat} {S : Int → Int} : wE (G0 dC dI cc r T b q1 q2 u1 u2) 83 (m0 S 83) = .inl (cc 2, 6, .inl (fun _ => 0)) := by
  rfl
theorem ew_84 {dC : Nat → ClassId} {dI : Nat → Nat → Nat} {cc : Nat → ClassId} {r : Option Nat} {T : Nat → Nat} {b q1 q2 : Nat} {u1 u2 : Nat → Nat} {S : Int → Int} : wE (G0 dC dI cc r T b q1 q2 u1 u2) 84 (m0 S 84) = .inl (cc 2, 192, .inl (fun _ => 0)) := by
  rfl
theorem ew_85 {dC : Nat → ClassId} {dI : Nat → Nat → Nat} {cc : Nat → ClassId} {r : Option Nat} {T : Nat → Nat} {b q1 q2 : Nat} {u1 u2 : Nat → Nat} {S : Int → Int} : wE (G0 dC dI cc r T b q1 q2 u1 u2) 85 (m0 S 85) = .inl (cc 2, 192, .inl (fun _ => 0)) := by
  rfl
theorem ew_86 {dC : Nat → ClassId} {dI : Nat → Nat → Nat} {cc : Nat → ClassId} {r : Option Nat} {T : Nat → Nat} {b q1 q2 : Nat} {u1 u2 : Nat → Nat} {S : Int → Int} : wE (G0 dC dI cc r T b q1 q2 u1 u2) 86 (m0 S 86) = .inr (3, [.ref (u1 54), .ref (u1 1), .ref (u1 55), .int 0, .int 0, .int 0]) := by
  rfl
theorem ew_87 {dC : Nat → ClassId} {dI : Nat → Nat → Nat} {cc : Nat → ClassId} {r : Option Nat} {T : Nat → Nat} {b q1 q2 : Nat} {u1 u2 : Nat → Nat} {S : Int → Int} : wE (G0 dC dI cc r T b q1 q2 u1 u2) 87 (m0 S 87) = .inl (cc 2, 6, .inl (fun _ => 0)) := by
  rfl
theorem ew_88 {dC : Nat → ClassId} {dI : Nat → Nat → Nat} {cc : Nat → ClassId} {r : Option Nat} {T : Nat → Nat} {b q1 q2 : Nat} {u1 u2 : Nat → Nat} {S : Int → Int} : wE (G0 dC dI cc r T b q1 q2 u1 u2) 88 (m0 S 88) = .inl (cc 2, 6, .inl (fun _ => 0)) := by
  rfl
theorem ew_89 {dC : Nat → ClassId} {dI : Nat → Nat → Nat} {cc : Nat → ClassId} {r : Option Nat} {T : Nat → Nat} {b q1 q2 : Nat} {u1 u2 : Nat → Nat} {S : Int → Int} : wE (G0 dC dI cc r T b q1 q2 u1 u2) 89 (m0 S 89) = .inr (4, [.ref (u1 1), .ref (u1 30), .ref (u1 57), .ref (u1 58), .ref (u1 59), .ref (u1 60), .int 0, .int 0]) := by
  rfl
theorem ew_90 {dC : Nat → ClassId} {dI : Nat → Nat → Nat} {cc : Nat → ClassId} {r : Option Nat} {T : Nat → Nat} {b q1 q2 : Nat} {u1 u2 : Nat → Nat} {S : Int → Int} : wE (G0 dC dI cc r T b q1 q2 u1 u2) 90 (m0 S 90) = .inl (cc 2, 6, .inl (fun _ => 0)) := by
  rfl
theorem ew_91 {dC : Nat → ClassId} {dI : Nat → Nat → Nat} {cc : Nat → ClassId} {r : Option Nat} {T : Nat → Nat} {b q1 q2 : Nat} {u1 u2 : Nat → Nat} {S : Int → Int} : wE (G0 dC dI cc r T b q1 q2 u1 u2) 91 (m0 S 91) = .inl (cc 2, 2, .inl (fun _ => 0)) := by
  rfl
theorem ew_92 {dC : Nat → ClassId} {dI : Nat → Nat → Nat} {cc : Nat → ClassId} {r : Option Nat} {T : Nat → Nat} {b q1 q2 : Nat} {u1 u2 : Nat → Nat} {S : Int → Int} : wE (G0 dC dI cc r T b q1 q2 u1 u2) 92 (m0 S 92) = .inl (cc 2, 2, .inl (fun _ => 0)) := by
  rfl
theorem ew_93 {dC : Nat → ClassId} {dI : Nat → Nat → Nat} {cc : Nat → ClassId} {r : Option Nat} {T : Nat → Nat} {b q1 q2 : Nat} {u1 u2 : Nat → Nat} {S : Int → Int} : wE (G0 dC dI cc r T b q1 q2 u1 u2) 93 (m0 S 93) = .inl (cc 2, 2, .inl (fun _ => 0)) := by
  rfl
theorem ew_94 {dC : Nat → ClassId} {dI : Nat → Nat → Nat} {cc : Nat → ClassId} {r : Option Nat} {T : Nat → Nat} {b q1 q2 : Nat} {u1 u2 : Nat → Nat} {S : Int → Int} : wE (G0 dC dI cc r T b q1 q2 u1 u2) 94 (m0 S 94) = .inr (7, [.ref (u1 1), .ref (u1 30), .ref (u1 62), .ref (u1 63), .int 0]) := by
  rfl
theorem ew_95 {dC : Nat → ClassId} {dI : Nat → Nat → Nat} {cc : Nat → ClassId} {r : Option Nat} {T : Nat → Nat} {b q1 q2 : Nat} {u1 u2 : Nat → Nat} {S : Int → Int} : wE (G0 dC dI cc r T b q1 q2 u1 u2) 95 (m0 S 95) = .inl (cc 2, 6, .inl (fun _ => 0)) := by
  rfl
theorem ew_96 {dC : Nat → ClassId} {dI : Nat → Nat → Nat} {cc : Nat → ClassId} {r : Option Nat} {T : Nat → Nat} {b q1 q2 : Nat} {u1 u2 : Nat → Nat} {S : Int → Int} : wE (G0 dC dI cc r T b q1 q2 u1 u2) 96 (m0 S 96) = .inl (cc 2, 6, .inl (fun _ => 0)) := by
  rfl
theorem ew_97 {dC : Nat → ClassId} {dI : Nat → Nat → Nat} {cc : Nat → ClassId} {r : Option Nat} {T : Nat → Nat} {b q1 q2 : Nat} {u1 u2 : Nat → Nat} {S : Int → Int} : wE (G0 dC dI cc r T b q1 q2 u1 u2) 97 (m0 S 97) = .inr (12, [.ref (u2 43), .ref (u2 44), .ref (u2 1), .int 0, .int (-1), .int (-1), .ref (u2 2), .ref (u2 3), .ref (u2 4), .ref (u2 5), .ref (u2 6), .ref (u2 7), .ref (u2 8), .int 0, .int 0, .int 0, .int 0, .int 0, .int 0, .int 0, .int 0, .int 0, .ref (u2 9), .ref (u2 10), .int 0, .ref (u2 11), .ref (u2 12), .int 0, .int 0, .int 0, .ref (u2 13), .ref (u2 14), .ref (u2 15), .ref (u2 16), .int 0, .ref (u2 17), .ref (u2 18), .ref (u2 19), .ref (u2 20), .int 0, .ref (u2 21), .ref (u2 22), .ref (u2 23), .ref (u2 24), .ref (u2 25), .ref (u2 26), .ref (u2 27), .ref (u2 28), .ref (u2 29), .ref (u2 30), .ref (u2 31), .ref (u2 32), .ref (u2 33), .ref (u2 34), .ref (u2 35), .ref (u2 36), .ref (u2 37), .ref (u2 38), .ref (u2 39), .ref (u2 40), .ref (u2 41), .ref (u2 42)]) := by
  rfl
theorem ew_98 {dC : Nat → ClassId} {dI : Nat → Nat → Nat} {cc : Nat → ClassId} {r : Option Nat} {T : Nat → Nat} {b q1 q2 : Nat} {u1 u2 : Nat → Nat} {S : Int → Int} : wE (G0 dC dI cc r T b q1 q2 u1 u2) 98 (m0 S 98) = .inl (cc 2, 6660, .inl (upd (upd (fun _ => 0) 3 (-1)) 82 23)) := by
  rw [← az_u]
  rfl
theorem ew_99 {dC : Nat → ClassId} {dI : Nat → Nat → Nat} {cc : Nat → ClassId} {r : Option Nat} {T : Nat → Nat} {b q1 q2 : Nat} {u1 u2 : Nat → Nat} {S : Int → Int} : wE (G0 dC dI cc r T b q1 q2 u1 u2) 99 (m0 S 99) = .inl (cc 2, 6660, .inl (upd (upd (fun _ => 0) 3 (-1)) 82 23)) := by
  rw [← az_u]
  rfl
theorem ew_100 {dC : Nat → ClassId} {dI : Nat → Nat → Nat} {cc : Nat → ClassId} {r : Option Nat} {T : Nat → Nat} {b q1 q2 : Nat} {u1 u2 : Nat → Nat} {S : Int → Int} : wE (G0 dC dI cc r T b q1 q2 u1 u2) 100 (m0 S 100) = .inl (cc 3, 300, .inl (fun _ => 0)) := by
  rfl
theorem ew_101 {dC : Nat → ClassId} {dI : Nat → Nat → Nat} {cc : Nat → ClassId} {r : Option Nat} {T : Nat → Nat} {b q1 q2 : Nat} {u1 u2 : Nat → Nat} {S : Int → Int} : wE (G0 dC dI cc r T b q1 q2 u1 u2) 101 (m0 S 101) = .inl (cc 2, 4, .inl (fun _ => 0)) := by
  rfl
theorem ew_102 {dC : Nat → ClassId} {dI : Nat → Nat → Nat} {cc : Nat → ClassId} {r : Option Nat} {T : Nat → Nat} {b q1 q2 : Nat} {u1 u2 : Nat → Nat} {S : Int → Int} : wE (G0 dC dI cc r T b q1 q2 u1 u2) 102 (m0 S 102) = .inl (cc 2, 96, .inl (fun _ => 0)) := by
  rfl
theorem ew_103 {dC : Nat → ClassId} {dI : Nat → Nat → Nat} {cc : Nat → ClassId} {r : Option Nat} {T : Nat → Nat} {b q1 q2 : Nat} {u1 u2 : Nat → Nat} {S : Int → Int} : wE (G0 dC dI cc r T b q1 q2 u1 u2) 103 (m0 S 103) = .inl (cc 2, 96, .inl (fun _ => 0)) := by
  rfl
theorem ew_104 {dC : Nat → ClassId} {dI : Nat → Nat → Nat} {cc : Nat → ClassId} {r : Option Nat} {T : Nat → Nat} {b q1 q2 : Nat} {u1 u2 : Nat → Nat} {S : Int → Int} : wE (G0 dC dI cc r T b q1 q2 u1 u2) 104 (m0 S 104) = .inl (cc 2, 96, .inl (fun _ => 0)) := by
  rfl
theorem ew_105 {dC : Nat → ClassId} {dI : Nat → Nat → Nat} {cc : Nat → ClassId} {r : Option Nat} {T : Nat → Nat} {b q1 q2 : Nat} {u1 u2 : Nat → Nat} {S : Int → Int} : wE (G0 dC dI cc r T b q1 q2 u1 u2) 105 (m0 S 105) = .inl (cc 2, 96, .inl (fun _ => 0)) := by
  rfl
theorem ew_106 {dC : Nat → ClassId} {dI : Nat → Nat → Nat} {cc : Nat → ClassId} {r : Option Nat} {T : Nat → Nat} {b q1 q2 : Nat} {u1 u2 : Nat → Nat} {S : Int → Int} : wE (G0 dC dI cc r T b q1 q2 u1 u2) 106 (m0 S 106) = .inl (cc 2, 1600, .inl (fun _ => 0)) := by
  rfl
theorem ew_107 {dC : Nat → ClassId} {dI : Nat → Nat → Nat} {cc : Nat → ClassId} {r : Option Nat} {T : Nat → Nat} {b q1 q2 : Nat} {u1 u2 : Nat → Nat} {S : Int → Int} : wE (G0 dC dI cc r T b q1 q2 u1 u2) 107 (m0 S 107) = .inl (cc 2, 1600, .inl (fun _ => 0)) := by
  rfl
theorem ew_108 {dC : Nat → ClassId} {dI : Nat → Nat → Nat} {cc : Nat → ClassId} {r : Option Nat} {T : Nat → Nat} {b q1 q2 : Nat} {u1 u2 : Nat → Nat} {S : Int → Int} : wE (G0 dC dI cc r T b q1 q2 u1 u2) 108 (m0 S 108) = .inl (cc 2, 40, .inl (fun _ => 0)) := by
  rfl
theorem ew_109 {dC : Nat → ClassId} {dI : Nat → Nat → Nat} {cc : Nat → ClassId} {r : Option Nat} {T : Nat → Nat} {b q1 q2 : Nat} {u1 u2 : Nat → Nat} {S : Int → Int} : wE (G0 dC dI cc r T b q1 q2 u1 u2) 109 (m0 S 109) = .inl (cc 2, 41, .inl (fun _ => 0)) := by
  rfl
theorem ew_110 {dC : Nat → ClassId} {dI : Nat → Nat → Nat} {cc : Nat → ClassId} {r : Option Nat} {T : Nat → Nat} {b q1 q2 : Nat} {u1 u2 : Nat → Nat} {S : Int → Int} : wE (G0 dC dI cc r T b q1 q2 u1 u2) 110 (m0 S 110) = .inl (cc 2, 80, .inl (fun _ => 0)) := by
  rfl
theorem ew_111 {dC : Nat → ClassId} {dI : Nat → Nat → Nat} {cc : Nat → ClassId} {r : Option Nat} {T : Nat → Nat} {b q1 q2 : Nat} {u1 u2 : Nat → Nat} {S : Int → Int} : wE (G0 dC dI cc r T b q1 q2 u1 u2) 111 (m0 S 111) = .inl (cc 2, 80, .inl (fun _ => 0)) := by
  rfl
theorem ew_112 {dC : Nat → ClassId} {dI : Nat → Nat → Nat} {cc : Nat → ClassId} {r : Option Nat} {T : Nat → Nat} {b q1 q2 : Nat} {u1 u2 : Nat → Nat} {S : Int → Int} : wE (G0 dC dI cc r T b q1 q2 u1 u2) 112 (m0 S 112) = .inl (cc 2, 24, .inl (fun _ => 0)) := by
  rfl
theorem ew_113 {dC : Nat → ClassId} {dI : Nat → Nat → Nat} {cc : Nat → ClassId} {r : Option Nat} {T : Nat → Nat} {b q1 q2 : Nat} {u1 u2 : Nat → Nat} {S : Int → Int} : wE (G0 dC dI cc r T b q1 q2 u1 u2) 113 (m0 S 113) = .inl (cc 2, 24, .inl (fun _ => 0)) := by
  rfl
theorem ew_114 {dC : Nat → ClassId} {dI : Nat → Nat → Nat} {cc : Nat → ClassId} {r : Option Nat} {T : Nat → Nat} {b q1 q2 : Nat} {u1 u2 : Nat → Nat} {S : Int → Int} : wE (G0 dC dI cc r T b q1 q2 u1 u2) 114 (m0 S 114) = .inl (cc 2, 24, .inl (fun _ => 0)) := by
  rfl
theorem ew_115 {dC : Nat → ClassId} {dI : Nat → Nat → Nat} {cc : Nat → ClassId} {r : Option Nat} {T : Nat → Nat} {b q1 q2 : Nat} {u1 u2 : Nat → Nat} {S : Int → Int} : wE (G0 dC dI cc r T b q1 q2 u1 u2) 115 (m0 S 115) = .inl (cc 2, 24, .inl (fun _ => 0)) := by
  rfl
theorem ew_116 {dC : Nat → ClassId} {dI : Nat → Nat → Nat} {cc : Nat → ClassId} {r : Option Nat} {T : Nat → Nat} {b q1 q2 : Nat} {u1 u2 : Nat → Nat} {S : Int → Int} : wE (G0 dC dI cc r T b q1 q2 u1 u2) 116 (m0 S 116) = .inl (cc 2, 400, .inl (fun _ => 0)) := by
  rfl
theorem ew_117 {dC : Nat → ClassId} {dI : Nat → Nat → Nat} {cc : Nat → ClassId} {r : Option Nat} {T : Nat → Nat} {b q1 q2 : Nat} {u1 u2 : Nat → Nat} {S : Int → Int} : wE (G0 dC dI cc r T b q1 q2 u1 u2) 117 (m0 S 117) = .inl (cc 2, 400, .inl (fun _ => 0)) := by
  rfl
theorem ew_118 {dC : Nat → ClassId} {dI : Nat → Nat → Nat} {cc : Nat → ClassId} {r : Option Nat} {T : Nat → Nat} {b q1 q2 : Nat} {u1 u2 : Nat → Nat} {S : Int → Int} : wE (G0 dC dI cc r T b q1 q2 u1 u2) 118 (m0 S 118) = .inl (cc 2, 15, .inl (fun _ => 0)) := by
  rfl
theorem ew_119 {dC : Nat → ClassId} {dI : Nat → Nat → Nat} {cc : Nat → ClassId} {r : Option Nat} {T : Nat → Nat} {b q1 q2 : Nat} {u1 u2 : Nat → Nat} {S : Int → Int} : wE (G0 dC dI cc r T b q1 q2 u1 u2) 119 (m0 S 119) = .inl (cc 4, 200, .inr (.inl (fun _ => 0))) := by
  rfl
theorem ew_120 {dC : Nat → ClassId} {dI : Nat → Nat → Nat} {cc : Nat → ClassId} {r : Option Nat} {T : Nat → Nat} {b q1 q2 : Nat} {u1 u2 : Nat → Nat} {S : Int → Int} : wE (G0 dC dI cc r T b q1 q2 u1 u2) 120 (m0 S 120) = .inl (cc 2, 6, .inl (fun _ => 0)) := by
  rfl
theorem ew_121 {dC : Nat → ClassId} {dI : Nat → Nat → Nat} {cc : Nat → ClassId} {r : Option Nat} {T : Nat → Nat} {b q1 q2 : Nat} {u1 u2 : Nat → Nat} {S : Int → Int} : wE (G0 dC dI cc r T b q1 q2 u1 u2) 121 (m0 S 121) = .inl (cc 2, 6, .inl (fun _ => 0)) := by
  rfl
theorem ew_122 {dC : Nat → ClassId} {dI : Nat → Nat → Nat} {cc : Nat → ClassId} {r : Option Nat} {T : Nat → Nat} {b q1 q2 : Nat} {u1 u2 : Nat → Nat} {S : Int → Int} : wE (G0 dC dI cc r T b q1 q2 u1 u2) 122 (m0 S 122) = .inl (cc 2, 6, .inl (fun _ => 0)) := by
  rfl
theorem ew_123 {dC : Nat → ClassId} {dI : Nat → Nat → Nat} {cc : Nat → ClassId} {r : Option Nat} {T : Nat → Nat} {b q1 q2 : Nat} {u1 u2 : Nat → Nat} {S : Int → Int} : wE (G0 dC dI cc r T b q1 q2 u1 u2) 123 (m0 S 123) = .inl (cc 2, 6, .inl (fun _ => 0)) := by
  rfl
theorem ew_124 {dC : Nat → ClassId} {dI : Nat → Nat → Nat} {cc : Nat → ClassId} {r : Option Nat} {T : Nat → Nat} {b q1 q2 : Nat} {u1 u2 : Nat → Nat} {S : Int → Int} : wE (G0 dC dI cc r T b q1 q2 u1 u2) 124 (m0 S 124) = .inl (cc 2, 12, .inl (fun _ => 0)) := by
  rfl
theorem ew_125 {dC : Nat → ClassId} {dI : Nat → Nat → Nat} {cc : Nat → ClassId} {r : Option Nat} {T : Nat → Nat} {b q1 q2 : Nat} {u1 u2 : Nat → Nat} {S : Int → Int} : wE (G0 dC dI cc r T b q1 q2 u1 u2) 125 (m0 S 125) = .inl (cc 2, 12, .inl (fun _ => 0)) := by
  rfl
theorem ew_126 {dC : Nat → ClassId} {dI : Nat → Nat → Nat} {cc : Nat → ClassId} {r : Option Nat} {T : Nat → Nat} {b q1 q2 : Nat} {u1 u2 : Nat → Nat} {S : Int → Int} : wE (G0 dC dI cc r T b q1 q2 u1 u2) 126 (m0 S 126) = .inl (cc 2, 6, .inl (fun _ => 0)) := by
  rfl
theorem ew_127 {dC : Nat → ClassId} {dI : Nat → Nat → Nat} {cc : Nat → ClassId} {r : Option Nat} {T : Nat → Nat} {b q1 q2 : Nat} {u1 u2 : Nat → Nat} {S : Int → Int} : wE (G0 dC dI cc r T b q1 q2 u1 u2) 127 (m0 S 127) = .inl (cc 2, 6, .inl (fun _ => 0)) := by
  rfl
theorem ew_128 {dC : Nat → ClassId} {dI : Nat → Nat → Nat} {cc : Nat → ClassId} {r : Option Nat} {T : Nat → Nat} {b q1 q2 : Nat} {u1 u2 : Nat → Nat} {S : Int → Int} : wE (G0 dC dI cc r T b q1 q2 u1 u2) 128 (m0 S 128) = .inl (cc 2, 6, .inl (fun _ => 0)) := by
  rfl
theorem ew_129 {dC : Nat → ClassId} {dI : Nat → Nat → Nat} {cc : Nat → ClassId} {r : Option Nat} {T : Nat → Nat} {b q1 q2 : Nat} {u1 u2 : Nat → Nat} {S : Int → Int} : wE (G0 dC dI cc r T b q1 q2 u1 u2) 129 (m0 S 129) = .inl (cc 2, 6, .inl (fun _ => 0)) := by
  rfl
theorem ew_130 {dC : Nat → ClassId} {dI : Nat → Nat → Nat} {cc : Nat → ClassId} {r : Option Nat} {T : Nat → Nat} {b q1 q2 : Nat} {u1 u2 : Nat → Nat} {S : Int → Int} : wE (G0 dC dI cc r T b q1 q2 u1 u2) 130 (m0 S 130) = .inl (cc 2, 4, .inl (fun _ => 0)) := by
  rfl
theorem ew_131 {dC : Nat → ClassId} {dI : Nat → Nat → Nat} {cc : Nat → ClassId} {r : Option Nat} {T : Nat → Nat} {b q1 q2 : Nat} {u1 u2 : Nat → Nat} {S : Int → Int} : wE (G0 dC dI cc r T b q1 q2 u1 u2) 131 (m0 S 131) = .inl (cc 2, 4, .inl (fun _ => 0)) := by
  rfl
theorem ew_132 {dC : Nat → ClassId} {dI : Nat → Nat → Nat} {cc : Nat → ClassId} {r : Option Nat} {T : Nat → Nat} {b q1 q2 : Nat} {u1 u2 : Nat → Nat} {S : Int → Int} : wE (G0 dC dI cc r T b q1 q2 u1 u2) 132 (m0 S 132) = .inl (cc 2, 4, .inl (fun _ => 0)) := by
  rfl
theorem ew_133 {dC : Nat → ClassId} {dI : Nat → Nat → Nat} {cc : Nat → ClassId} {r : Option Nat} {T : Nat → Nat} {b q1 q2 : Nat} {u1 u2 : Nat → Nat} {S : Int → Int} : wE (G0 dC dI cc r T b q1 q2 u1 u2) 133 (m0 S 133) = .inl (cc 2, 6, .inl (fun _ => 0)) := by
  rfl
theorem ew_134 {dC : Nat → ClassId} {dI : Nat → Nat → Nat} {cc : Nat → ClassId} {r : Option Nat} {T : Nat → Nat} {b q1 q2 : Nat} {u1 u2 : Nat → Nat} {S : Int → Int} : wE (G0 dC dI cc r T b q1 q2 u1 u2) 134 (m0 S 134) = .inl (cc 2, 4, .inl (fun _ => 0)) := by
  rfl
theorem ew_135 {dC : Nat → ClassId} {dI : Nat → Nat → Nat} {cc : Nat → ClassId} {r : Option Nat} {T : Nat → Nat} {b q1 q2 : Nat} {u1 u2 : Nat → Nat} {S : Int → Int} : wE (G0 dC dI cc r T b q1 q2 u1 u2) 135 (m0 S 135) = .inl (cc 2, 4, .inl (fun _ => 0)) := by
  rfl
theorem ew_136 {dC : Nat → ClassId} {dI : Nat → Nat → Nat} {cc : Nat → ClassId} {r : Option Nat} {T : Nat → Nat} {b q1 q2 : Nat} {u1 u2 : Nat → Nat} {S : Int → Int} : wE (G0 dC dI cc r T b q1 q2 u1 u2) 136 (m0 S 136) = .inl (cc 2, 3, .inl (fun _ => 0)) := by
  rfl
theorem ew_137 {dC : Nat → ClassId} {dI : Nat → Nat → Nat} {cc : Nat → ClassId} {r : Option Nat} {T : Nat → Nat} {b q1 q2 : Nat} {u1 u2 : Nat → Nat} {S : Int → Int} : wE (G0 dC dI cc r T b q1 q2 u1 u2) 137 (m0 S 137) = .inl (cc 2, 5, .inl (fun _ => 0)) := by
  rfl
theorem ew_138 {dC : Nat → ClassId} {dI : Nat → Nat → Nat} {cc : Nat → ClassId} {r : Option Nat} {T : Nat → Nat} {b q1 q2 : Nat} {u1 u2 : Nat → Nat} {S : Int → Int} : wE (G0 dC dI cc r T b q1 q2 u1 u2) 138 (m0 S 138) = .inl (cc 2, 6000, .inl (fun _ => 0)) := by
  rfl
theorem ew_139 {dC : Nat → ClassId} {dI : Nat → Nat → Nat} {cc : Nat → ClassId} {r : Option Nat} {T : Nat → Nat} {b q1 q2 : Nat} {u1 u2 : Nat → Nat} {S : Int → Int} : wE (G0 dC dI cc r T b q1 q2 u1 u2) 139 (m0 S 139) = .inl (cc 2, 6, .inl (fun _ => 0)) := by
  rfl
theorem ew_140 {dC : Nat → ClassId} {dI : Nat → Nat → Nat} {cc : Nat → ClassId} {r : Option Nat} {T : Nat → Nat} {b q1 q2 : Nat} {u1 u2 : Nat → Nat} {S : Int → Int} : wE (G0 dC dI cc r T b q1 q2 u1 u2) 140 (m0 S 140) = .inl (cc 5, 729, .inl (fun _ => 0)) := by
  rfl
theorem ew_141 {dC : Nat → ClassId} {dI : Nat → Nat → Nat} {cc : Nat → ClassId} {r : Option Nat} {T : Nat → Nat} {b q1 q2 : Nat} {u1 u2 : Nat → Nat} {S : Int → Int} : wE (G0 dC dI cc r T b q1 q2 u1 u2) 141 (m0 S 141) = .inl (cc 2, 6, .inl (fun _ => 0)) := by
  rfl
