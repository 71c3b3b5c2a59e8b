/-! the law: its loop (made by gen_law.py) -/
theorem and63 {s : Int} (hs : R32 s) : iAnd s 63 = s % 64 := by
  unfold iAnd
  have h := pk_and (Int32.ofInt s) (m := Int32.ofInt 63) 6 (by decide)
  have hb := (Int32.ofInt s).toBitVec.isLt
  rw [h, nI_toInt (by omega)]
  have e : ((Int32.ofInt s).toBitVec.toNat : Int) = s % 4294967296 := by
    rw [Int32.toBitVec_ofInt, BitVec.toNat_ofInt]
    omega
  omega
set_option maxHeartbeats 2000000 in
theorem law_loop {p : Program} {l : Launch} {e : Env} {R : Room} {s : State} {m : MethodId} {args : Array Value} {below : List Frame} {meth : Method} {c : Code} {QQ : State → Prop} {G : mG} {A : Nat → Prop} {cells slots d : Nat} {M0 : mM} {S : Int → Int} (CX : mCx p l R s m args c G A cells slots (d + 40) 285 M0) (h2 : M0 152 = S) (hS : ∀ j, R32 (S j)) (hL : 0 ≤ S (-1) ∧ S (-1) ≤ 3072) (hEnd : ∀ (lv : mL) (M : mM), mAb p l e R s m args below meth c QQ G A cells slots 285 M0 1438 lv [] M) : ∀ (n : Nat) (i : Int) (M : mM) (lv : mL) (lw : Nat → RU), 0 ≤ i → i ≤ 4000 → S (-1) - i ≤ n → J S M lw → lv 0 = some (vr 152) → lv 1 = some (vr 1) → lv 2 = some (vr 97) → lv 3 = some (vi i) → mAb p l e R s m args below meth c QQ G A cells slots 285 M0 18 lv [] M := by
  intro n
  induction n with
  | zero =>
    intro i M lv lw i0 i4 hi hJ g0 g1 g2 g3
    have hM : M 152 = S := hJ.2.2.2.2.2.2.1.1
    refine ab_iloadn CX (show decode (cOf 285) 18 = .ok (.iload_n 3, 1) by decide +kernel) g3 (ab_aloadn CX (show decode (cOf 285) 19 = .ok (.aload_n 0, 1) by decide +kernel) g0 (ab_slen CX (show decode (cOf 285) 20 = .ok (.arraylength, 1) by decide +kernel) (by decide +kernel) (ab_bipush CX (show decode (cOf 285) 21 = .ok (.bipush 6, 2) by decide +kernel) ?_)))
    rw [hM, show (Int8.ofInt 6).toInt = 6 by decide +kernel]
    refine ab_isub CX (show decode (cOf 285) 23 = .ok (.isub, 1) by decide +kernel) ?_
    rw [w32_s (show -2147483648 ≤ S (-1) - 6 ∧ S (-1) - 6 < 2147483648 by omega)]
    refine ab_ic_gt CX (show decode (cOf 285) 24 = .ok (.if_icmp .gt 1414, 3) by decide +kernel) (t := 1438) (by decide) ?_
    rw [xBr_t (show S (-1) - 6 < i by omega)]
    exact hEnd lv M
  | succ n ih =>
    intro i M lv lw i0 i4 hi hJ g0 g1 g2 g3
    have hM : M 152 = S := hJ.2.2.2.2.2.2.1.1
    refine ab_iloadn CX (show decode (cOf 285) 18 = .ok (.iload_n 3, 1) by decide +kernel) g3 (ab_aloadn CX (show decode (cOf 285) 19 = .ok (.aload_n 0, 1) by decide +kernel) g0 (ab_slen CX (show decode (cOf 285) 20 = .ok (.arraylength, 1) by decide +kernel) (by decide +kernel) (ab_bipush CX (show decode (cOf 285) 21 = .ok (.bipush 6, 2) by decide +kernel) ?_)))
    rw [hM, show (Int8.ofInt 6).toInt = 6 by decide +kernel]
    refine ab_isub CX (show decode (cOf 285) 23 = .ok (.isub, 1) by decide +kernel) ?_
    rw [w32_s (show -2147483648 ≤ S (-1) - 6 ∧ S (-1) - 6 < 2147483648 by omega)]
    refine ab_ic_gt CX (show decode (cOf 285) 24 = .ok (.if_icmp .gt 1414, 3) by decide +kernel) (t := 1438) (by decide) ?_
    by_cases c6 : S (-1) - 6 < i
    · rw [xBr_t c6]
      exact hEnd lv M
    · rw [xBr_f c6]
      have hi6 : 0 ≤ i ∧ i + 6 ≤ S (-1) ∧ S (-1) ≤ 3072 := ⟨i0, by omega, hL.2⟩
      have hn : ∀ M2 lw2, J S M2 lw2 → mAb p l e R s m args below meth c QQ G A cells slots 285 M0 1432 lv [] M2 := fun M2 lw2 hJ2 => by
        refine ab_iinc CX (x := 3) (show decode (cOf 285) 1432 = .ok (.iinc 3 6, 3) by decide +kernel) (by decide +kernel) g3 ?_
        rw [w32_s (show -2147483648 ≤ i + 6 ∧ i + 6 < 2147483648 by omega)]
        refine ab_goto CX (show decode (cOf 285) 1435 = .ok (.goto (-1417), 3) by decide +kernel) (t := 18) (by decide) ?_
        refine ih (i + 6) M2 _ lw2 (by omega) (by omega) (by omega) hJ2 ?_ ?_ ?_ ?_
        all_goals simp [s1_at, g0, g1, g2, xlong_i, xlong_r]
      have ea : ak 152 = 10 := by decide +kernel
      refine ab_aloadn CX (show decode (cOf 285) 27 = .ok (.aload_n 0, 1) by decide +kernel) g0 (ab_iloadn CX (show decode (cOf 285) 28 = .ok (.iload_n 3, 1) by decide +kernel) g3 (ab_iald CX (show decode (cOf 285) 29 = .ok (.iaload, 1) by decide +kernel) (Or.inr (Or.inr ea)) ?_ ?_))
      · rw [ea]
        unfold xOk
        rw [hM]
        simp
        omega
      · rw [hM]
        refine ab_bipush CX (show decode (cOf 285) 30 = .ok (.bipush 63, 2) by decide +kernel) ?_
        rw [show (Int8.ofInt 63).toInt = 63 by decide +kernel]
        refine ab_iand CX (show decode (cOf 285) 32 = .ok (.iand, 1) by decide +kernel) ?_
        rw [and63 (hS i)]
        obtain ⟨v, hv⟩ : ∃ v, S i % 64 = v := ⟨_, rfl⟩
        rw [hv]
        refine ab_tsw CX (show decode (cOf 285) 33 = .ok (.tableswitch 1399 0 37 #[167, 200, 243, 276, 309, 332, 355, 388, 411, 444, 477, 540, 563, 576, 599, 622, 645, 658, 691, 724, 747, 780, 829, 872, 915, 948, 991, 1050, 1083, 1126, 1149, 1172, 1215, 1284, 1317, 1350, 1363, 1376], 167) by decide +kernel) (by decide +kernel) (by decide +kernel) ?_
        have hsw : ∀ t : Nat, swT v 0 [200, 233, 276, 309, 342, 365, 388, 421, 444, 477, 510, 573, 596, 609, 632, 655, 678, 691, 724, 757, 780, 813, 862, 905, 948, 981, 1024, 1083, 1116, 1159, 1182, 1205, 1248, 1317, 1350, 1383, 1396, 1409] 1432 = t → mAb p l e R s m args below meth c QQ G A cells slots 285 M0 t lv [] M → mAb p l e R s m args below meth c QQ G A cells slots 285 M0 (swT v 0 [200, 233, 276, 309, 342, 365, 388, 421, 444, 477, 510, 573, 596, 609, 632, 655, 678, 691, 724, 757, 780, 813, 862, 905, 948, 981, 1024, 1083, 1116, 1159, 1182, 1205, 1248, 1317, 1350, 1383, 1396, 1409] 1432) lv [] M := fun t e h => by rw [e]; exact h
        show mAb p l e R s m args below meth c QQ G A cells slots 285 M0 (swT v 0 [200, 233, 276, 309, 342, 365, 388, 421, 444, 477, 510, 573, 596, 609, 632, 655, 678, 691, 724, 757, 780, 813, 862, 905, 948, 981, 1024, 1083, 1116, 1159, 1182, 1205, 1248, 1317, 1350, 1383, 1396, 1409] 1432) lv [] M
        rcases (show v = 0 ∨ v = 1 ∨ v = 2 ∨ v = 3 ∨ v = 4 ∨ v = 5 ∨ v = 6 ∨ v = 7 ∨ v = 8 ∨ v = 9 ∨ v = 10 ∨ v = 11 ∨ v = 12 ∨ v = 13 ∨ v = 14 ∨ v = 15 ∨ v = 16 ∨ v = 17 ∨ v = 18 ∨ v = 19 ∨ v = 20 ∨ v = 21 ∨ v = 22 ∨ v = 23 ∨ v = 24 ∨ v = 25 ∨ v = 26 ∨ v = 27 ∨ v = 28 ∨ v = 29 ∨ v = 30 ∨ v = 31 ∨ v = 32 ∨ v = 33 ∨ v = 34 ∨ v = 35 ∨ v = 36 ∨ v = 37 ∨ 38 ≤ v by omega) with rfl | rfl | rfl | rfl | rfl | rfl | rfl | rfl | rfl | rfl | rfl | rfl | rfl | rfl | rfl | rfl | rfl | rfl | rfl | rfl | rfl | rfl | rfl | rfl | rfl | rfl | rfl | rfl | rfl | rfl | rfl | rfl | rfl | rfl | rfl | rfl | rfl | rfl | h38
        · exact hsw 200 rfl (la_k0 CX h2 hS hi6 g0 g1 g2 g3 hJ hn)
        · exact hsw 233 rfl (la_k1 CX h2 hS hi6 g0 g1 g2 g3 hJ hn)
        · exact hsw 276 rfl (la_k2 CX h2 hS hi6 g0 g1 g2 g3 hJ hn)
        · exact hsw 309 rfl (la_k3 CX h2 hS hi6 g0 g1 g2 g3 hJ hn)
        · exact hsw 342 rfl (la_k4 CX h2 hS hi6 g0 g1 g2 g3 hJ hn)
        · exact hsw 365 rfl (la_k5 CX h2 hS hi6 g0 g1 g2 g3 hJ hn)
        · exact hsw 388 rfl (la_k6 CX h2 hS hi6 g0 g1 g2 g3 hJ hn)
        · exact hsw 421 rfl (la_k7 CX h2 hS hi6 g0 g1 g2 g3 hJ hn)
        · exact hsw 444 rfl (la_k8 CX h2 hS hi6 g0 g1 g2 g3 hJ hn)
        · exact hsw 477 rfl (la_k9 CX h2 hS hi6 g0 g1 g2 g3 hJ hn)
        · exact hsw 510 rfl (la_k10 CX h2 hS hi6 g0 g1 g2 g3 hJ hn)
        · exact hsw 573 rfl (la_k11 CX h2 hS hi6 g0 g1 g2 g3 hJ hn)
        · exact hsw 596 rfl (la_k12 CX h2 hS hi6 g0 g1 g2 g3 hJ hn)
        · exact hsw 609 rfl (la_k13 CX h2 hS hi6 g0 g1 g2 g3 hJ hn)
        · exact hsw 632 rfl (la_k14 CX h2 hS hi6 g0 g1 g2 g3 hJ hn)
        · exact hsw 655 rfl (la_k15 CX h2 hS hi6 g0 g1 g2 g3 hJ hn)
        · exact hsw 678 rfl (la_k16 CX h2 hS hi6 g0 g1 g2 g3 hJ hn)
        · exact hsw 691 rfl (la_k17 CX h2 hS hi6 g0 g1 g2 g3 hJ hn)
        · exact hsw 724 rfl (la_k18 CX h2 hS hi6 g0 g1 g2 g3 hJ hn)
        · exact hsw 757 rfl (la_k19 CX h2 hS hi6 g0 g1 g2 g3 hJ hn)
        · exact hsw 780 rfl (la_k20 CX h2 hS hi6 g0 g1 g2 g3 hJ hn)
        · exact hsw 813 rfl (la_k21 CX h2 hS hi6 g0 g1 g2 g3 hJ hn)
        · exact hsw 862 rfl (la_k22 CX h2 hS hi6 g0 g1 g2 g3 hJ hn)
        · exact hsw 905 rfl (la_k23 CX h2 hS hi6 g0 g1 g2 g3 hJ hn)
        · exact hsw 948 rfl (la_k24 CX h2 hS hi6 g0 g1 g2 g3 hJ hn)
        · exact hsw 981 rfl (la_k25 CX h2 hS hi6 g0 g1 g2 g3 hJ hn)
        · exact hsw 1024 rfl (la_k26 CX h2 hS hi6 g0 g1 g2 g3 hJ hn)
        · exact hsw 1083 rfl (la_k27 CX h2 hS hi6 g0 g1 g2 g3 hJ hn)
        · exact hsw 1116 rfl (la_k28 CX h2 hS hi6 g0 g1 g2 g3 hJ hn)
        · exact hsw 1159 rfl (la_k29 CX h2 hS hi6 g0 g1 g2 g3 hJ hn)
        · exact hsw 1182 rfl (la_k30 CX h2 hS hi6 g0 g1 g2 g3 hJ hn)
        · exact hsw 1205 rfl (la_k31 CX h2 hS hi6 g0 g1 g2 g3 hJ hn)
        · exact hsw 1248 rfl (la_k32 CX h2 hS hi6 g0 g1 g2 g3 hJ hn)
        · exact hsw 1317 rfl (la_k33 CX h2 hS hi6 g0 g1 g2 g3 hJ hn)
        · exact hsw 1350 rfl (la_k34 CX h2 hS hi6 g0 g1 g2 g3 hJ hn)
        · exact hsw 1383 rfl (la_k35 CX h2 hS hi6 g0 g1 g2 g3 hJ hn)
        · exact hsw 1396 rfl (la_k36 CX h2 hS hi6 g0 g1 g2 g3 hJ hn)
        · exact hsw 1409 rfl (la_k37 CX h2 hS hi6 g0 g1 g2 g3 hJ hn)
        · refine hsw 1432 ?_ (hn M lw hJ)
          exact swT_d 38 rfl (Or.inr (by omega))
