/-! the law: rows for its loop -/
section Law
variable {p : Program} {l : Launch} {e : Env} {R : Room} {s : State} {m : MethodId} {args : Array Value} {below : List Frame} {meth : Method} {c : Code} {QQ : State → Prop} {G : mG} {A : Nat → Prop} {cells slots d : Nat} {M0 : mM} {S : Int → Int}
theorem la_S (h2 : M0 152 = S) {pc : Nat} {lv : mL} {st : List mV} {M : mM} (h : M 152 = S → mAb p l e R s m args below meth c QQ G A cells slots 285 M0 pc lv st M) : mAb p l e R s m args below meth c QQ G A cells slots 285 M0 pc lv st M :=
  fun okm hs => h ((hs 152 (by decide)).trans h2) okm hs
theorem la_arg (CX : mCx p l R s m args c G A cells slots d 285 M0) {pc : Nat} {lv : mL} {st : List mV} {M : mM} {i k : Int} (hd1 : decode (cOf 285) pc = .ok (.aload_n 0, 1)) (hd2 : decode (cOf 285) (pc + 1) = .ok (.iload_n 3, 1)) (hd3 : decode (cOf 285) (pc + 1 + 1) = .ok (.iconst k, 1)) (hd4 : decode (cOf 285) (pc + 1 + 1 + 1) = .ok (.iadd, 1)) (hd5 : decode (cOf 285) (pc + 1 + 1 + 1 + 1) = .ok (.iaload, 1)) (hM : M 152 = S) (h0 : lv 0 = some (vr 152)) (h3 : lv 3 = some (vi i)) (hk : 1 ≤ k ∧ k ≤ 5) (hi : 0 ≤ i ∧ i + 6 ≤ S (-1) ∧ S (-1) ≤ 3072) (h : mAb p l e R s m args below meth c QQ G A cells slots 285 M0 (pc + 1 + 1 + 1 + 1 + 1) lv (vi (S (i + k)) :: st) M) : mAb p l e R s m args below meth c QQ G A cells slots 285 M0 pc lv st M := by
  have ew : w32 k = k := w32_s (by omega)
  have ew2 : w32 (i + k) = i + k := w32_s (by omega)
  have ea : ak 152 = 10 := by decide +kernel
  refine ab_aloadn CX hd1 h0 (ab_iloadn CX hd2 h3 (ab_iconst CX hd3 ?_))
  rw [ew]
  refine ab_iadd CX hd4 ?_
  rw [ew2]
  refine ab_iald CX hd5 (Or.inr (Or.inr ea)) ?_ ?_
  · rw [ea]
    unfold xOk
    rw [hM]
    simp
    omega
  · rw [hM]
    exact h
theorem la_bool (CX : mCx p l R s m args c G A cells slots d 285 M0) {pc : Nat} {lv : mL} {st : List mV} {M : mM} {v : Int} (hd1 : decode (cOf 285) pc = .ok (.ifCond .eq 7, 3)) (hd2 : decode (cOf 285) (pc + 3) = .ok (.iconst 1, 1)) (hd3 : decode (cOf 285) (pc + 3 + 1) = .ok (.goto 4, 3)) (hd4 : decode (cOf 285) (pc + 7) = .ok (.iconst 0, 1)) (h : mAb p l e R s m args below meth c QQ G A cells slots 285 M0 (pc + 8) lv (vi (if v = 0 then 0 else 1) :: st) M) : mAb p l e R s m args below meth c QQ G A cells slots 285 M0 pc lv (vi v :: st) M := by
  by_cases g : v = 0
  · rw [if_pos g] at h
    refine ab_if_eq CX hd1 (t := pc + 7) (by omega) ?_
    rw [xBr_t g]
    exact ab_iconst CX hd4 h
  · rw [if_neg g] at h
    refine ab_if_eq CX hd1 (t := pc + 7) (by omega) ?_
    rw [xBr_f g]
    refine ab_iconst CX hd2 (ab_goto CX hd3 (t := pc + 8) (by omega) h)
theorem la_callA (CX : mCx p l R s m args c G A cells slots (d + 40) 285 M0) (h2 : M0 152 = S) {pc x kA kB : Nat} {lv : mL} {as : List mV} {M : mM} {lw : Nat → RU} (hd : decode (cOf 285) pc = .ok (.invokevirtual x, 3)) (hq : mR (oOf 285) x = (kA, as.length + 1)) (hk9 : kA < 9000 ∧ stOf kA = false) (ho : clO 1 = oOf kA) (hop : OPJ kA kB as) (hJ : J S M lw) (h : ∀ (z : Int) (M1 : mM), (∀ K2 : mQ, (∀ M2 lw2, J S M2 lw2 → K2 (some (vi z)) M2) → mCall (d + 40) kB (vr 97 :: as) M1 K2) → M1 152 = S → mAb p l e R s m args below meth c QQ G A cells slots 285 M0 (pc + 3) lv [vi z] M1) : mAb p l e R s m args below meth c QQ G A cells slots 285 M0 pc lv (as.reverse ++ [vr 1]) M := by
  have e1 : (as.reverse ++ [vr 1]).length = as.length + 1 := by rw [List.length_append, List.length_reverse]; rfl
  refine ab_invV CX hd hq hk9 (Nat.le_of_eq e1.symm) (by omega) (o := 1) (r0 := []) ?_ (by decide) ho ?_
  · rw [Nat.add_sub_cancel, List.drop_append_of_le_length (by rw [List.length_reverse]; exact Nat.le_refl _), ← List.length_reverse, List.drop_length]
    rfl
  · rw [List.take_of_length_le (Nat.le_of_eq e1), List.reverse_append, List.reverse_reverse]
    exact hop S d M lw hJ _ (fun z M1 h1 => la_S h2 (fun hM => h z M1 h1 hM))
theorem la_callB (CX : mCx p l R s m args c G A cells slots (d + 40) 285 M0) {pc x kB : Nat} {lv : mL} {as : List mV} {M1 : mM} {z : Int} (hd : decode (cOf 285) pc = .ok (.invokevirtual x, 3)) (hq : mR (oOf 285) x = (kB, as.length + 1)) (hk9 : kB < 9000 ∧ stOf kB = false) (ho : clO 97 = oOf kB) (h1 : ∀ K2 : mQ, (∀ M2 lw2, J S M2 lw2 → K2 (some (vi z)) M2) → mCall (d + 40) kB (vr 97 :: as) M1 K2) (h : ∀ M2 lw2, J S M2 lw2 → mAb p l e R s m args below meth c QQ G A cells slots 285 M0 (pc + 3) lv [vi z, vi z] M2) : mAb p l e R s m args below meth c QQ G A cells slots 285 M0 pc lv (as.reverse ++ [vr 97, vi z]) M1 := by
  have e1 : (as.reverse ++ [vr 97, vi z]).length = as.length + 2 := by rw [List.length_append, List.length_reverse]; rfl
  refine ab_invV CX hd hq hk9 (by rw [e1]; omega) (by omega) (o := 97) (r0 := [vi z]) ?_ (Nat.le_of_ble_eq_true rfl) ho ?_
  · rw [Nat.add_sub_cancel, List.drop_append_of_le_length (by rw [List.length_reverse]; exact Nat.le_refl _), ← List.length_reverse, List.drop_length]
    rfl
  · have e2 : (as.reverse ++ [vr 97, vi z]).take (as.length + 1) = as.reverse ++ [vr 97] := by
      rw [show as.reverse ++ [vr 97, vi z] = (as.reverse ++ [vr 97]) ++ [vi z] by rw [List.append_assoc]; rfl]
      exact List.take_left' (by rw [List.length_append, List.length_reverse]; rfl)
    rw [e2, List.reverse_append, List.reverse_reverse]
    exact h1 _ (fun M2 lw2 hJ2 => h M2 lw2 hJ2)
end Law
