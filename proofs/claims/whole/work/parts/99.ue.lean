/-! constructors, walked: a valley -/
abbrev yK10 : MethodName := ⟨"HummingBridges$Valley", "<init>", "()V"⟩
abbrev rmK10 : Room := { frames := 1, cells := 11, slots := 2924, locals := 12 }
abbrev eK10 : va_E := .inr (10, [.int 0, .int 0, .null, .null, .null, .null, .null, .null, .null, .null, .int 0, .int 0, .null, .null, .int 0, .null, .int 0, .int 0, .int 0])
def WfK10 (cc : Nat → ClassId) (h0 : Nat) (u : Nat → Nat) : va_W := [(h0, .inr (10, [.int 0, .int 0, .ref (u 1), .ref (u 2), .ref (u 3), .ref (u 4), .ref (u 5), .ref (u 6), .ref (u 7), .ref (u 8), .int 0, .int 0, .ref (u 9), .ref (u 10), .int 0, .ref (u 11), .int 0, .int 0, .int (-1)])), ((u 1), .inl (cc 2, 6, .inl (fun _ => 0))), ((u 2), .inl (cc 2, 6, .inl (fun _ => 0))), ((u 3), .inl (cc 2, 6, .inl (fun _ => 0))), ((u 4), .inl (cc 2, 12, .inl (fun _ => 0))), ((u 5), .inl (cc 2, 12, .inl (fun _ => 0))), ((u 6), .inl (cc 2, 12, .inl (fun _ => 0))), ((u 7), .inl (cc 2, 92, .inl (upd (upd (upd (upd (upd (upd (upd (upd (upd (upd (upd (upd (upd (fun _ => 0) 50 23) 24 (-1)) 25 (-1)) 26 (-1)) 27 (-1)) 28 (-1)) 29 (-1)) 30 (-1)) 31 (-1)) 32 (-1)) 33 (-1)) 34 (-1)) 35 (-1)))), ((u 8), .inl (cc 2, 2760, .inl (fun _ => 0))), ((u 9), .inl (cc 2, 6, .inl (fun _ => 0))), ((u 10), .inl (cc 2, 6, .inl (fun _ => 0))), ((u 11), .inl (cc 2, 6, .inl (fun _ => 0)))]
set_option maxRecDepth 100000 in
set_option maxHeartbeats 4000000 in
theorem kM10 {l : Launch} {D : va_G} {cc : Nat → ClassId} {h0 : Nat} : ∀ sz, Met l yK10 (Cond.code yK10 prog_12_method_1_code 2 none :: gw) rmK10 (kPc D cc [] h0 eK10 sz) (kQc D h0 eK10 (WfK10 cc h0) sz) 11 2924 (va_A [(h0, eK10)] sz) := by
  refine kMet (o := 10) [(0, .ref h0)] (by decide) rfl rfl rfl (Nat.le_of_ble_eq_true rfl) (fun p e s m args below meth c A QQ CX hin hEnd => ?_)
  refine kb_aload CX (show decode prog_12_method_1_code 0 = .ok (.aload_n 0, 1) by decide +kernel) rfl 0 rfl ?_
  refine kb_obj CX (show decode prog_12_method_1_code 1 = .ok (.invokespecial 5, 3) by decide +kernel) (gw_in (List.mem_of_getElem? (i := 165) (by decide +kernel)) (by decide +kernel)) (gw_in (List.mem_of_getElem? (i := 158) (by decide +kernel)) (by decide +kernel)) (gw_in (List.mem_of_getElem? (i := 159) (by decide +kernel)) (by decide +kernel)) (Nat.le_of_ble_eq_true rfl) (Nat.le_of_ble_eq_true rfl) ?_
  refine kb_aload CX (show decode prog_12_method_1_code 4 = .ok (.aload_n 0, 1) by decide +kernel) rfl 0 rfl ?_
  refine kb_bipush CX (v := 6) (show decode prog_12_method_1_code 5 = .ok (.bipush 6, 2) by decide +kernel) (by decide +kernel) ?_
  refine kb_newa CX (n := 6) (N := 6) (a0 := (6, .inl (fun _ => 0))) (at' := .int) (ty := .int) (c0 := cc 2) 0 (gw_in (List.mem_of_getElem? (i := 268) (by decide +kernel)) (by decide +kernel)) rfl rfl a0_int (by decide +kernel) (by decide +kernel) (by decide +kernel) (Nat.le_of_ble_eq_true rfl) (Nat.le_of_ble_eq_true rfl) (show decode prog_12_method_1_code 7 = .ok (.newarray .int, 2) by decide +kernel) (fun k10q1 => ?_)
  refine kb_putF CX hin (f := 2) (kd := 2) 0 (show decode prog_12_method_1_code 9 = .ok (.putfield 11, 3) by decide +kernel) (by decide +kernel) (by decide) rfl rfl rfl rfl (Nat.le_of_ble_eq_true rfl) ?_
  refine kb_aload CX (show decode prog_12_method_1_code 12 = .ok (.aload_n 0, 1) by decide +kernel) rfl 0 rfl ?_
  refine kb_bipush CX (v := 6) (show decode prog_12_method_1_code 13 = .ok (.bipush 6, 2) by decide +kernel) (by decide +kernel) ?_
  refine kb_newa CX (n := 6) (N := 6) (a0 := (6, .inl (fun _ => 0))) (at' := .int) (ty := .int) (c0 := cc 2) 0 (gw_in (List.mem_of_getElem? (i := 268) (by decide +kernel)) (by decide +kernel)) rfl rfl a0_int (by decide +kernel) (by decide +kernel) (by decide +kernel) (Nat.le_of_ble_eq_true rfl) (Nat.le_of_ble_eq_true rfl) (show decode prog_12_method_1_code 15 = .ok (.newarray .int, 2) by decide +kernel) (fun k10q2 => ?_)
  refine kb_putF CX hin (f := 3) (kd := 2) 0 (show decode prog_12_method_1_code 17 = .ok (.putfield 15, 3) by decide +kernel) (by decide +kernel) (by decide) rfl rfl rfl rfl (Nat.le_of_ble_eq_true rfl) ?_
  refine kb_aload CX (show decode prog_12_method_1_code 20 = .ok (.aload_n 0, 1) by decide +kernel) rfl 0 rfl ?_
  refine kb_bipush CX (v := 6) (show decode prog_12_method_1_code 21 = .ok (.bipush 6, 2) by decide +kernel) (by decide +kernel) ?_
  refine kb_newa CX (n := 6) (N := 6) (a0 := (6, .inl (fun _ => 0))) (at' := .int) (ty := .int) (c0 := cc 2) 0 (gw_in (List.mem_of_getElem? (i := 268) (by decide +kernel)) (by decide +kernel)) rfl rfl a0_int (by decide +kernel) (by decide +kernel) (by decide +kernel) (Nat.le_of_ble_eq_true rfl) (Nat.le_of_ble_eq_true rfl) (show decode prog_12_method_1_code 23 = .ok (.newarray .int, 2) by decide +kernel) (fun k10q3 => ?_)
  refine kb_putF CX hin (f := 4) (kd := 2) 0 (show decode prog_12_method_1_code 25 = .ok (.putfield 18, 3) by decide +kernel) (by decide +kernel) (by decide) rfl rfl rfl rfl (Nat.le_of_ble_eq_true rfl) ?_
  refine kb_aload CX (show decode prog_12_method_1_code 28 = .ok (.aload_n 0, 1) by decide +kernel) rfl 0 rfl ?_
  refine kb_bipush CX (v := 12) (show decode prog_12_method_1_code 29 = .ok (.bipush 12, 2) by decide +kernel) (by decide +kernel) ?_
  refine kb_newa CX (n := 12) (N := 12) (a0 := (12, .inl (fun _ => 0))) (at' := .int) (ty := .int) (c0 := cc 2) 0 (gw_in (List.mem_of_getElem? (i := 268) (by decide +kernel)) (by decide +kernel)) rfl rfl a0_int (by decide +kernel) (by decide +kernel) (by decide +kernel) (Nat.le_of_ble_eq_true rfl) (Nat.le_of_ble_eq_true rfl) (show decode prog_12_method_1_code 31 = .ok (.newarray .int, 2) by decide +kernel) (fun k10q4 => ?_)
  refine kb_putF CX hin (f := 5) (kd := 2) 0 (show decode prog_12_method_1_code 33 = .ok (.putfield 21, 3) by decide +kernel) (by decide +kernel) (by decide) rfl rfl rfl rfl (Nat.le_of_ble_eq_true rfl) ?_
  refine kb_aload CX (show decode prog_12_method_1_code 36 = .ok (.aload_n 0, 1) by decide +kernel) rfl 0 rfl ?_
  refine kb_bipush CX (v := 12) (show decode prog_12_method_1_code 37 = .ok (.bipush 12, 2) by decide +kernel) (by decide +kernel) ?_
  refine kb_newa CX (n := 12) (N := 12) (a0 := (12, .inl (fun _ => 0))) (at' := .int) (ty := .int) (c0 := cc 2) 0 (gw_in (List.mem_of_getElem? (i := 268) (by decide +kernel)) (by decide +kernel)) rfl rfl a0_int (by decide +kernel) (by decide +kernel) (by decide +kernel) (Nat.le_of_ble_eq_true rfl) (Nat.le_of_ble_eq_true rfl) (show decode prog_12_method_1_code 39 = .ok (.newarray .int, 2) by decide +kernel) (fun k10q5 => ?_)
  refine kb_putF CX hin (f := 6) (kd := 2) 0 (show decode prog_12_method_1_code 41 = .ok (.putfield 24, 3) by decide +kernel) (by decide +kernel) (by decide) rfl rfl rfl rfl (Nat.le_of_ble_eq_true rfl) ?_
  refine kb_aload CX (show decode prog_12_method_1_code 44 = .ok (.aload_n 0, 1) by decide +kernel) rfl 0 rfl ?_
  refine kb_bipush CX (v := 12) (show decode prog_12_method_1_code 45 = .ok (.bipush 12, 2) by decide +kernel) (by decide +kernel) ?_
  refine kb_newa CX (n := 12) (N := 12) (a0 := (12, .inl (fun _ => 0))) (at' := .int) (ty := .int) (c0 := cc 2) 0 (gw_in (List.mem_of_getElem? (i := 268) (by decide +kernel)) (by decide +kernel)) rfl rfl a0_int (by decide +kernel) (by decide +kernel) (by decide +kernel) (Nat.le_of_ble_eq_true rfl) (Nat.le_of_ble_eq_true rfl) (show decode prog_12_method_1_code 47 = .ok (.newarray .int, 2) by decide +kernel) (fun k10q6 => ?_)
  refine kb_putF CX hin (f := 7) (kd := 2) 0 (show decode prog_12_method_1_code 49 = .ok (.putfield 27, 3) by decide +kernel) (by decide +kernel) (by decide) rfl rfl rfl rfl (Nat.le_of_ble_eq_true rfl) ?_
  refine kb_aload CX (show decode prog_12_method_1_code 52 = .ok (.aload_n 0, 1) by decide +kernel) rfl 0 rfl ?_
  refine kb_bipush CX (v := 92) (show decode prog_12_method_1_code 53 = .ok (.bipush 92, 2) by decide +kernel) (by decide +kernel) ?_
  refine kb_newa CX (n := 92) (N := 92) (a0 := (92, .inl (fun _ => 0))) (at' := .int) (ty := .int) (c0 := cc 2) 0 (gw_in (List.mem_of_getElem? (i := 268) (by decide +kernel)) (by decide +kernel)) rfl rfl a0_int (by decide +kernel) (by decide +kernel) (by decide +kernel) (Nat.le_of_ble_eq_true rfl) (Nat.le_of_ble_eq_true rfl) (show decode prog_12_method_1_code 55 = .ok (.newarray .int, 2) by decide +kernel) (fun k10q7 => ?_)
  refine kb_putF CX hin (f := 8) (kd := 2) 0 (show decode prog_12_method_1_code 57 = .ok (.putfield 30, 3) by decide +kernel) (by decide +kernel) (by decide) rfl rfl rfl rfl (Nat.le_of_ble_eq_true rfl) ?_
  refine kb_aload CX (show decode prog_12_method_1_code 60 = .ok (.aload_n 0, 1) by decide +kernel) rfl 0 rfl ?_
  refine kb_sipush CX (v := 2760) (show decode prog_12_method_1_code 61 = .ok (.sipush 2760, 3) by decide +kernel) (by decide +kernel) ?_
  refine kb_newa CX (n := 2760) (N := 2760) (a0 := (2760, .inl (fun _ => 0))) (at' := .int) (ty := .int) (c0 := cc 2) 0 (gw_in (List.mem_of_getElem? (i := 268) (by decide +kernel)) (by decide +kernel)) rfl rfl a0_int (by decide +kernel) (by decide +kernel) (by decide +kernel) (Nat.le_of_ble_eq_true rfl) (Nat.le_of_ble_eq_true rfl) (show decode prog_12_method_1_code 64 = .ok (.newarray .int, 2) by decide +kernel) (fun k10q8 => ?_)
  refine kb_putF CX hin (f := 9) (kd := 2) 0 (show decode prog_12_method_1_code 66 = .ok (.putfield 33, 3) by decide +kernel) (by decide +kernel) (by decide) rfl rfl rfl rfl (Nat.le_of_ble_eq_true rfl) ?_
  refine kb_aload CX (show decode prog_12_method_1_code 69 = .ok (.aload_n 0, 1) by decide +kernel) rfl 0 rfl ?_
  refine kb_bipush CX (v := 6) (show decode prog_12_method_1_code 70 = .ok (.bipush 6, 2) by decide +kernel) (by decide +kernel) ?_
  refine kb_newa CX (n := 6) (N := 6) (a0 := (6, .inl (fun _ => 0))) (at' := .int) (ty := .int) (c0 := cc 2) 0 (gw_in (List.mem_of_getElem? (i := 268) (by decide +kernel)) (by decide +kernel)) rfl rfl a0_int (by decide +kernel) (by decide +kernel) (by decide +kernel) (Nat.le_of_ble_eq_true rfl) (Nat.le_of_ble_eq_true rfl) (show decode prog_12_method_1_code 72 = .ok (.newarray .int, 2) by decide +kernel) (fun k10q9 => ?_)
  refine kb_putF CX hin (f := 12) (kd := 2) 0 (show decode prog_12_method_1_code 74 = .ok (.putfield 36, 3) by decide +kernel) (by decide +kernel) (by decide) rfl rfl rfl rfl (Nat.le_of_ble_eq_true rfl) ?_
  refine kb_aload CX (show decode prog_12_method_1_code 77 = .ok (.aload_n 0, 1) by decide +kernel) rfl 0 rfl ?_
  refine kb_bipush CX (v := 6) (show decode prog_12_method_1_code 78 = .ok (.bipush 6, 2) by decide +kernel) (by decide +kernel) ?_
  refine kb_newa CX (n := 6) (N := 6) (a0 := (6, .inl (fun _ => 0))) (at' := .int) (ty := .int) (c0 := cc 2) 0 (gw_in (List.mem_of_getElem? (i := 268) (by decide +kernel)) (by decide +kernel)) rfl rfl a0_int (by decide +kernel) (by decide +kernel) (by decide +kernel) (Nat.le_of_ble_eq_true rfl) (Nat.le_of_ble_eq_true rfl) (show decode prog_12_method_1_code 80 = .ok (.newarray .int, 2) by decide +kernel) (fun k10q10 => ?_)
  refine kb_putF CX hin (f := 13) (kd := 2) 0 (show decode prog_12_method_1_code 82 = .ok (.putfield 39, 3) by decide +kernel) (by decide +kernel) (by decide) rfl rfl rfl rfl (Nat.le_of_ble_eq_true rfl) ?_
  refine kb_aload CX (show decode prog_12_method_1_code 85 = .ok (.aload_n 0, 1) by decide +kernel) rfl 0 rfl ?_
  refine kb_bipush CX (v := 6) (show decode prog_12_method_1_code 86 = .ok (.bipush 6, 2) by decide +kernel) (by decide +kernel) ?_
  refine kb_newa CX (n := 6) (N := 6) (a0 := (6, .inl (fun _ => 0))) (at' := .int) (ty := .int) (c0 := cc 2) 0 (gw_in (List.mem_of_getElem? (i := 268) (by decide +kernel)) (by decide +kernel)) rfl rfl a0_int (by decide +kernel) (by decide +kernel) (by decide +kernel) (Nat.le_of_ble_eq_true rfl) (Nat.le_of_ble_eq_true rfl) (show decode prog_12_method_1_code 88 = .ok (.newarray .int, 2) by decide +kernel) (fun k10q11 => ?_)
  refine kb_putF CX hin (f := 15) (kd := 2) 0 (show decode prog_12_method_1_code 90 = .ok (.putfield 42, 3) by decide +kernel) (by decide +kernel) (by decide) rfl rfl rfl rfl (Nat.le_of_ble_eq_true rfl) ?_
  refine kb_aload CX (show decode prog_12_method_1_code 93 = .ok (.aload_n 0, 1) by decide +kernel) rfl 0 rfl ?_
  refine kb_iconst CX (v := (-1)) (show decode prog_12_method_1_code 94 = .ok (.iconst (-1), 1) by decide +kernel) (by decide +kernel) ?_
  refine kb_put CX (f := 18) (kd := 0) 0 (show decode prog_12_method_1_code 95 = .ok (.putfield 45, 3) by decide +kernel) (by decide +kernel) (by decide) rfl rfl rfl rfl (Nat.le_of_ble_eq_true rfl) ?_
  refine kb_aload CX (show decode prog_12_method_1_code 98 = .ok (.aload_n 0, 1) by decide +kernel) rfl 0 rfl ?_
  refine kb_get CX (f := 8) (kd := 2) 0 (show decode prog_12_method_1_code 99 = .ok (.getfield 30, 3) by decide +kernel) (by decide +kernel) (by decide) rfl rfl ?_
  refine kb_bipush CX (v := 50) (show decode prog_12_method_1_code 102 = .ok (.bipush 50, 2) by decide +kernel) (by decide +kernel) ?_
  refine kb_bipush CX (v := 23) (show decode prog_12_method_1_code 104 = .ok (.bipush 23, 2) by decide +kernel) (by decide +kernel) ?_
  refine kb_iast CX (N := 50) 7 rfl (by unfold vp_in; decide) (by decide) (show decode prog_12_method_1_code 106 = .ok (.iastore, 1) by decide +kernel) ?_
  refine kb_iconst CX (v := 0) (show decode prog_12_method_1_code 107 = .ok (.iconst 0, 1) by decide +kernel) (by decide +kernel) ?_
  refine kb_istore CX (show decode prog_12_method_1_code 108 = .ok (.istore_n 1, 1) by decide +kernel) rfl (by decide) (lv' := [(1, .int 0), (0, .ref h0)]) rfl ?_
  refine kb_iload CX (show decode prog_12_method_1_code 109 = .ok (.iload_n 1, 1) by decide +kernel) rfl 0 rfl ?_
  refine kb_bipush CX (v := 12) (show decode prog_12_method_1_code 110 = .ok (.bipush 12, 2) by decide +kernel) (by decide +kernel) ?_
  refine kb_iclt CX (tgt := 131) (show decode prog_12_method_1_code 112 = .ok (.if_icmp .ge 19, 3) by decide +kernel) (by decide) (by decide) ?_
  refine kb_aload CX (show decode prog_12_method_1_code 115 = .ok (.aload_n 0, 1) by decide +kernel) rfl 1 rfl ?_
  refine kb_get CX (f := 8) (kd := 2) 0 (show decode prog_12_method_1_code 116 = .ok (.getfield 30, 3) by decide +kernel) (by decide +kernel) (by decide) rfl rfl ?_
  refine kb_bipush CX (v := 24) (show decode prog_12_method_1_code 119 = .ok (.bipush 24, 2) by decide +kernel) (by decide +kernel) ?_
  refine kb_iload CX (show decode prog_12_method_1_code 121 = .ok (.iload_n 1, 1) by decide +kernel) rfl 0 rfl ?_
  refine kb_iadd CX (z := 24) (show decode prog_12_method_1_code 122 = .ok (.iadd, 1) by decide +kernel) (by decide) ?_
  refine kb_iconst CX (v := (-1)) (show decode prog_12_method_1_code 123 = .ok (.iconst (-1), 1) by decide +kernel) (by decide +kernel) ?_
  refine kb_iast CX (N := 24) 7 rfl (by unfold vp_in; decide) (by decide) (show decode prog_12_method_1_code 124 = .ok (.iastore, 1) by decide +kernel) ?_
  refine kb_iinc CX (j := 0) (v := 1) (show decode prog_12_method_1_code 125 = .ok (.iinc 1 1, 3) by decide +kernel) rfl (by decide) (by decide) (lv' := [(1, .int 1), (0, .ref h0)]) rfl ?_
  refine kb_goto CX (tgt := 109) (show decode prog_12_method_1_code 128 = .ok (.goto (-19), 3) by decide +kernel) (by decide) ?_
  refine kb_iload CX (show decode prog_12_method_1_code 109 = .ok (.iload_n 1, 1) by decide +kernel) rfl 0 rfl ?_
  refine kb_bipush CX (v := 12) (show decode prog_12_method_1_code 110 = .ok (.bipush 12, 2) by decide +kernel) (by decide +kernel) ?_
  refine kb_iclt CX (tgt := 131) (show decode prog_12_method_1_code 112 = .ok (.if_icmp .ge 19, 3) by decide +kernel) (by decide) (by decide) ?_
  refine kb_aload CX (show decode prog_12_method_1_code 115 = .ok (.aload_n 0, 1) by decide +kernel) rfl 1 rfl ?_
  refine kb_get CX (f := 8) (kd := 2) 0 (show decode prog_12_method_1_code 116 = .ok (.getfield 30, 3) by decide +kernel) (by decide +kernel) (by decide) rfl rfl ?_
  refine kb_bipush CX (v := 24) (show decode prog_12_method_1_code 119 = .ok (.bipush 24, 2) by decide +kernel) (by decide +kernel) ?_
  refine kb_iload CX (show decode prog_12_method_1_code 121 = .ok (.iload_n 1, 1) by decide +kernel) rfl 0 rfl ?_
  refine kb_iadd CX (z := 25) (show decode prog_12_method_1_code 122 = .ok (.iadd, 1) by decide +kernel) (by decide) ?_
  refine kb_iconst CX (v := (-1)) (show decode prog_12_method_1_code 123 = .ok (.iconst (-1), 1) by decide +kernel) (by decide +kernel) ?_
  refine kb_iast CX (N := 25) 7 rfl (by unfold vp_in; decide) (by decide) (show decode prog_12_method_1_code 124 = .ok (.iastore, 1) by decide +kernel) ?_
  refine kb_iinc CX (j := 0) (v := 2) (show decode prog_12_method_1_code 125 = .ok (.iinc 1 1, 3) by decide +kernel) rfl (by decide) (by decide) (lv' := [(1, .int 2), (0, .ref h0)]) rfl ?_
  refine kb_goto CX (tgt := 109) (show decode prog_12_method_1_code 128 = .ok (.goto (-19), 3) by decide +kernel) (by decide) ?_
  refine kb_iload CX (show decode prog_12_method_1_code 109 = .ok (.iload_n 1, 1) by decide +kernel) rfl 0 rfl ?_
  refine kb_bipush CX (v := 12) (show decode prog_12_method_1_code 110 = .ok (.bipush 12, 2) by decide +kernel) (by decide +kernel) ?_
  refine kb_iclt CX (tgt := 131) (show decode prog_12_method_1_code 112 = .ok (.if_icmp .ge 19, 3) by decide +kernel) (by decide) (by decide) ?_
  refine kb_aload CX (show decode prog_12_method_1_code 115 = .ok (.aload_n 0, 1) by decide +kernel) rfl 1 rfl ?_
  refine kb_get CX (f := 8) (kd := 2) 0 (show decode prog_12_method_1_code 116 = .ok (.getfield 30, 3) by decide +kernel) (by decide +kernel) (by decide) rfl rfl ?_
  refine kb_bipush CX (v := 24) (show decode prog_12_method_1_code 119 = .ok (.bipush 24, 2) by decide +kernel) (by decide +kernel) ?_
  refine kb_iload CX (show decode prog_12_method_1_code 121 = .ok (.iload_n 1, 1) by decide +kernel) rfl 0 rfl ?_
  refine kb_iadd CX (z := 26) (show decode prog_12_method_1_code 122 = .ok (.iadd, 1) by decide +kernel) (by decide) ?_
  refine kb_iconst CX (v := (-1)) (show decode prog_12_method_1_code 123 = .ok (.iconst (-1), 1) by decide +kernel) (by decide +kernel) ?_
  refine kb_iast CX (N := 26) 7 rfl (by unfold vp_in; decide) (by decide) (show decode prog_12_method_1_code 124 = .ok (.iastore, 1) by decide +kernel) ?_
  refine kb_iinc CX (j := 0) (v := 3) (show decode prog_12_method_1_code 125 = .ok (.iinc 1 1, 3) by decide +kernel) rfl (by decide) (by decide) (lv' := [(1, .int 3), (0, .ref h0)]) rfl ?_
  refine kb_goto CX (tgt := 109) (show decode prog_12_method_1_code 128 = .ok (.goto (-19), 3) by decide +kernel) (by decide) ?_
  refine kb_iload CX (show decode prog_12_method_1_code 109 = .ok (.iload_n 1, 1) by decide +kernel) rfl 0 rfl ?_
  refine kb_bipush CX (v := 12) (show decode prog_12_method_1_code 110 = .ok (.bipush 12, 2) by decide +kernel) (by decide +kernel) ?_
  refine kb_iclt CX (tgt := 131) (show decode prog_12_method_1_code 112 = .ok (.if_icmp .ge 19, 3) by decide +kernel) (by decide) (by decide) ?_
  refine kb_aload CX (show decode prog_12_method_1_code 115 = .ok (.aload_n 0, 1) by decide +kernel) rfl 1 rfl ?_
  refine kb_get CX (f := 8) (kd := 2) 0 (show decode prog_12_method_1_code 116 = .ok (.getfield 30, 3) by decide +kernel) (by decide +kernel) (by decide) rfl rfl ?_
  refine kb_bipush CX (v := 24) (show decode prog_12_method_1_code 119 = .ok (.bipush 24, 2) by decide +kernel) (by decide +kernel) ?_
  refine kb_iload CX (show decode prog_12_method_1_code 121 = .ok (.iload_n 1, 1) by decide +kernel) rfl 0 rfl ?_
  refine kb_iadd CX (z := 27) (show decode prog_12_method_1_code 122 = .ok (.iadd, 1) by decide +kernel) (by decide) ?_
  refine kb_iconst CX (v := (-1)) (show decode prog_12_method_1_code 123 = .ok (.iconst (-1), 1) by decide +kernel) (by decide +kernel) ?_
  refine kb_iast CX (N := 27) 7 rfl (by unfold vp_in; decide) (by decide) (show decode prog_12_method_1_code 124 = .ok (.iastore, 1) by decide +kernel) ?_
  refine kb_iinc CX (j := 0) (v := 4) (show decode prog_12_method_1_code 125 = .ok (.iinc 1 1, 3) by decide +kernel) rfl (by decide) (by decide) (lv' := [(1, .int 4), (0, .ref h0)]) rfl ?_
  refine kb_goto CX (tgt := 109) (show decode prog_12_method_1_code 128 = .ok (.goto (-19), 3) by decide +kernel) (by decide) ?_
  refine kb_iload CX (show decode prog_12_method_1_code 109 = .ok (.iload_n 1, 1) by decide +kernel) rfl 0 rfl ?_
  refine kb_bipush CX (v := 12) (show decode prog_12_method_1_code 110 = .ok (.bipush 12, 2) by decide +kernel) (by decide +kernel) ?_
  refine kb_iclt CX (tgt := 131) (show decode prog_12_method_1_code 112 = .ok (.if_icmp .ge 19, 3) by decide +kernel) (by decide) (by decide) ?_
  refine kb_aload CX (show decode prog_12_method_1_code 115 = .ok (.aload_n 0, 1) by decide +kernel) rfl 1 rfl ?_
  refine kb_get CX (f := 8) (kd := 2) 0 (show decode prog_12_method_1_code 116 = .ok (.getfield 30, 3) by decide +kernel) (by decide +kernel) (by decide) rfl rfl ?_
  refine kb_bipush CX (v := 24) (show decode prog_12_method_1_code 119 = .ok (.bipush 24, 2) by decide +kernel) (by decide +kernel) ?_
  refine kb_iload CX (show decode prog_12_method_1_code 121 = .ok (.iload_n 1, 1) by decide +kernel) rfl 0 rfl ?_
  refine kb_iadd CX (z := 28) (show decode prog_12_method_1_code 122 = .ok (.iadd, 1) by decide +kernel) (by decide) ?_
  refine kb_iconst CX (v := (-1)) (show decode prog_12_method_1_code 123 = .ok (.iconst (-1), 1) by decide +kernel) (by decide +kernel) ?_
  refine kb_iast CX (N := 28) 7 rfl (by unfold vp_in; decide) (by decide) (show decode prog_12_method_1_code 124 = .ok (.iastore, 1) by decide +kernel) ?_
  refine kb_iinc CX (j := 0) (v := 5) (show decode prog_12_method_1_code 125 = .ok (.iinc 1 1, 3) by decide +kernel) rfl (by decide) (by decide) (lv' := [(1, .int 5), (0, .ref h0)]) rfl ?_
  refine kb_goto CX (tgt := 109) (show decode prog_12_method_1_code 128 = .ok (.goto (-19), 3) by decide +kernel) (by decide) ?_
  refine kb_iload CX (show decode prog_12_method_1_code 109 = .ok (.iload_n 1, 1) by decide +kernel) rfl 0 rfl ?_
  refine kb_bipush CX (v := 12) (show decode prog_12_method_1_code 110 = .ok (.bipush 12, 2) by decide +kernel) (by decide +kernel) ?_
  refine kb_iclt CX (tgt := 131) (show decode prog_12_method_1_code 112 = .ok (.if_icmp .ge 19, 3) by decide +kernel) (by decide) (by decide) ?_
  refine kb_aload CX (show decode prog_12_method_1_code 115 = .ok (.aload_n 0, 1) by decide +kernel) rfl 1 rfl ?_
  refine kb_get CX (f := 8) (kd := 2) 0 (show decode prog_12_method_1_code 116 = .ok (.getfield 30, 3) by decide +kernel) (by decide +kernel) (by decide) rfl rfl ?_
  refine kb_bipush CX (v := 24) (show decode prog_12_method_1_code 119 = .ok (.bipush 24, 2) by decide +kernel) (by decide +kernel) ?_
  refine kb_iload CX (show decode prog_12_method_1_code 121 = .ok (.iload_n 1, 1) by decide +kernel) rfl 0 rfl ?_
  refine kb_iadd CX (z := 29) (show decode prog_12_method_1_code 122 = .ok (.iadd, 1) by decide +kernel) (by decide) ?_
  refine kb_iconst CX (v := (-1)) (show decode prog_12_method_1_code 123 = .ok (.iconst (-1), 1) by decide +kernel) (by decide +kernel) ?_
  refine kb_iast CX (N := 29) 7 rfl (by unfold vp_in; decide) (by decide) (show decode prog_12_method_1_code 124 = .ok (.iastore, 1) by decide +kernel) ?_
  refine kb_iinc CX (j := 0) (v := 6) (show decode prog_12_method_1_code 125 = .ok (.iinc 1 1, 3) by decide +kernel) rfl (by decide) (by decide) (lv' := [(1, .int 6), (0, .ref h0)]) rfl ?_
  refine kb_goto CX (tgt := 109) (show decode prog_12_method_1_code 128 = .ok (.goto (-19), 3) by decide +kernel) (by decide) ?_
  refine kb_iload CX (show decode prog_12_method_1_code 109 = .ok (.iload_n 1, 1) by decide +kernel) rfl 0 rfl ?_
  refine kb_bipush CX (v := 12) (show decode prog_12_method_1_code 110 = .ok (.bipush 12, 2) by decide +kernel) (by decide +kernel) ?_
  refine kb_iclt CX (tgt := 131) (show decode prog_12_method_1_code 112 = .ok (.if_icmp .ge 19, 3) by decide +kernel) (by decide) (by decide) ?_
  refine kb_aload CX (show decode prog_12_method_1_code 115 = .ok (.aload_n 0, 1) by decide +kernel) rfl 1 rfl ?_
  refine kb_get CX (f := 8) (kd := 2) 0 (show decode prog_12_method_1_code 116 = .ok (.getfield 30, 3) by decide +kernel) (by decide +kernel) (by decide) rfl rfl ?_
  refine kb_bipush CX (v := 24) (show decode prog_12_method_1_code 119 = .ok (.bipush 24, 2) by decide +kernel) (by decide +kernel) ?_
  refine kb_iload CX (show decode prog_12_method_1_code 121 = .ok (.iload_n 1, 1) by decide +kernel) rfl 0 rfl ?_
  refine kb_iadd CX (z := 30) (show decode prog_12_method_1_code 122 = .ok (.iadd, 1) by decide +kernel) (by decide) ?_
  refine kb_iconst CX (v := (-1)) (show decode prog_12_method_1_code 123 = .ok (.iconst (-1), 1) by decide +kernel) (by decide +kernel) ?_
  refine kb_iast CX (N := 30) 7 rfl (by unfold vp_in; decide) (by decide) (show decode prog_12_method_1_code 124 = .ok (.iastore, 1) by decide +kernel) ?_
  refine kb_iinc CX (j := 0) (v := 7) (show decode prog_12_method_1_code 125 = .ok (.iinc 1 1, 3) by decide +kernel) rfl (by decide) (by decide) (lv' := [(1, .int 7), (0, .ref h0)]) rfl ?_
  refine kb_goto CX (tgt := 109) (show decode prog_12_method_1_code 128 = .ok (.goto (-19), 3) by decide +kernel) (by decide) ?_
  refine kb_iload CX (show decode prog_12_method_1_code 109 = .ok (.iload_n 1, 1) by decide +kernel) rfl 0 rfl ?_
  refine kb_bipush CX (v := 12) (show decode prog_12_method_1_code 110 = .ok (.bipush 12, 2) by decide +kernel) (by decide +kernel) ?_
  refine kb_iclt CX (tgt := 131) (show decode prog_12_method_1_code 112 = .ok (.if_icmp .ge 19, 3) by decide +kernel) (by decide) (by decide) ?_
  refine kb_aload CX (show decode prog_12_method_1_code 115 = .ok (.aload_n 0, 1) by decide +kernel) rfl 1 rfl ?_
  refine kb_get CX (f := 8) (kd := 2) 0 (show decode prog_12_method_1_code 116 = .ok (.getfield 30, 3) by decide +kernel) (by decide +kernel) (by decide) rfl rfl ?_
  refine kb_bipush CX (v := 24) (show decode prog_12_method_1_code 119 = .ok (.bipush 24, 2) by decide +kernel) (by decide +kernel) ?_
  refine kb_iload CX (show decode prog_12_method_1_code 121 = .ok (.iload_n 1, 1) by decide +kernel) rfl 0 rfl ?_
  refine kb_iadd CX (z := 31) (show decode prog_12_method_1_code 122 = .ok (.iadd, 1) by decide +kernel) (by decide) ?_
  refine kb_iconst CX (v := (-1)) (show decode prog_12_method_1_code 123 = .ok (.iconst (-1), 1) by decide +kernel) (by decide +kernel) ?_
  refine kb_iast CX (N := 31) 7 rfl (by unfold vp_in; decide) (by decide) (show decode prog_12_method_1_code 124 = .ok (.iastore, 1) by decide +kernel) ?_
  refine kb_iinc CX (j := 0) (v := 8) (show decode prog_12_method_1_code 125 = .ok (.iinc 1 1, 3) by decide +kernel) rfl (by decide) (by decide) (lv' := [(1, .int 8), (0, .ref h0)]) rfl ?_
  refine kb_goto CX (tgt := 109) (show decode prog_12_method_1_code 128 = .ok (.goto (-19), 3) by decide +kernel) (by decide) ?_
  refine kb_iload CX (show decode prog_12_method_1_code 109 = .ok (.iload_n 1, 1) by decide +kernel) rfl 0 rfl ?_
  refine kb_bipush CX (v := 12) (show decode prog_12_method_1_code 110 = .ok (.bipush 12, 2) by decide +kernel) (by decide +kernel) ?_
  refine kb_iclt CX (tgt := 131) (show decode prog_12_method_1_code 112 = .ok (.if_icmp .ge 19, 3) by decide +kernel) (by decide) (by decide) ?_
  refine kb_aload CX (show decode prog_12_method_1_code 115 = .ok (.aload_n 0, 1) by decide +kernel) rfl 1 rfl ?_
  refine kb_get CX (f := 8) (kd := 2) 0 (show decode prog_12_method_1_code 116 = .ok (.getfield 30, 3) by decide +kernel) (by decide +kernel) (by decide) rfl rfl ?_
  refine kb_bipush CX (v := 24) (show decode prog_12_method_1_code 119 = .ok (.bipush 24, 2) by decide +kernel) (by decide +kernel) ?_
  refine kb_iload CX (show decode prog_12_method_1_code 121 = .ok (.iload_n 1, 1) by decide +kernel) rfl 0 rfl ?_
  refine kb_iadd CX (z := 32) (show decode prog_12_method_1_code 122 = .ok (.iadd, 1) by decide +kernel) (by decide) ?_
  refine kb_iconst CX (v := (-1)) (show decode prog_12_method_1_code 123 = .ok (.iconst (-1), 1) by decide +kernel) (by decide +kernel) ?_
  refine kb_iast CX (N := 32) 7 rfl (by unfold vp_in; decide) (by decide) (show decode prog_12_method_1_code 124 = .ok (.iastore, 1) by decide +kernel) ?_
  refine kb_iinc CX (j := 0) (v := 9) (show decode prog_12_method_1_code 125 = .ok (.iinc 1 1, 3) by decide +kernel) rfl (by decide) (by decide) (lv' := [(1, .int 9), (0, .ref h0)]) rfl ?_
  refine kb_goto CX (tgt := 109) (show decode prog_12_method_1_code 128 = .ok (.goto (-19), 3) by decide +kernel) (by decide) ?_
  refine kb_iload CX (show decode prog_12_method_1_code 109 = .ok (.iload_n 1, 1) by decide +kernel) rfl 0 rfl ?_
  refine kb_bipush CX (v := 12) (show decode prog_12_method_1_code 110 = .ok (.bipush 12, 2) by decide +kernel) (by decide +kernel) ?_
  refine kb_iclt CX (tgt := 131) (show decode prog_12_method_1_code 112 = .ok (.if_icmp .ge 19, 3) by decide +kernel) (by decide) (by decide) ?_
  refine kb_aload CX (show decode prog_12_method_1_code 115 = .ok (.aload_n 0, 1) by decide +kernel) rfl 1 rfl ?_
  refine kb_get CX (f := 8) (kd := 2) 0 (show decode prog_12_method_1_code 116 = .ok (.getfield 30, 3) by decide +kernel) (by decide +kernel) (by decide) rfl rfl ?_
  refine kb_bipush CX (v := 24) (show decode prog_12_method_1_code 119 = .ok (.bipush 24, 2) by decide +kernel) (by decide +kernel) ?_
  refine kb_iload CX (show decode prog_12_method_1_code 121 = .ok (.iload_n 1, 1) by decide +kernel) rfl 0 rfl ?_
  refine kb_iadd CX (z := 33) (show decode prog_12_method_1_code 122 = .ok (.iadd, 1) by decide +kernel) (by decide) ?_
  refine kb_iconst CX (v := (-1)) (show decode prog_12_method_1_code 123 = .ok (.iconst (-1), 1) by decide +kernel) (by decide +kernel) ?_
  refine kb_iast CX (N := 33) 7 rfl (by unfold vp_in; decide) (by decide) (show decode prog_12_method_1_code 124 = .ok (.iastore, 1) by decide +kernel) ?_
  refine kb_iinc CX (j := 0) (v := 10) (show decode prog_12_method_1_code 125 = .ok (.iinc 1 1, 3) by decide +kernel) rfl (by decide) (by decide) (lv' := [(1, .int 10), (0, .ref h0)]) rfl ?_
  refine kb_goto CX (tgt := 109) (show decode prog_12_method_1_code 128 = .ok (.goto (-19), 3) by decide +kernel) (by decide) ?_
  refine kb_iload CX (show decode prog_12_method_1_code 109 = .ok (.iload_n 1, 1) by decide +kernel) rfl 0 rfl ?_
  refine kb_bipush CX (v := 12) (show decode prog_12_method_1_code 110 = .ok (.bipush 12, 2) by decide +kernel) (by decide +kernel) ?_
  refine kb_iclt CX (tgt := 131) (show decode prog_12_method_1_code 112 = .ok (.if_icmp .ge 19, 3) by decide +kernel) (by decide) (by decide) ?_
  refine kb_aload CX (show decode prog_12_method_1_code 115 = .ok (.aload_n 0, 1) by decide +kernel) rfl 1 rfl ?_
  refine kb_get CX (f := 8) (kd := 2) 0 (show decode prog_12_method_1_code 116 = .ok (.getfield 30, 3) by decide +kernel) (by decide +kernel) (by decide) rfl rfl ?_
  refine kb_bipush CX (v := 24) (show decode prog_12_method_1_code 119 = .ok (.bipush 24, 2) by decide +kernel) (by decide +kernel) ?_
  refine kb_iload CX (show decode prog_12_method_1_code 121 = .ok (.iload_n 1, 1) by decide +kernel) rfl 0 rfl ?_
  refine kb_iadd CX (z := 34) (show decode prog_12_method_1_code 122 = .ok (.iadd, 1) by decide +kernel) (by decide) ?_
  refine kb_iconst CX (v := (-1)) (show decode prog_12_method_1_code 123 = .ok (.iconst (-1), 1) by decide +kernel) (by decide +kernel) ?_
  refine kb_iast CX (N := 34) 7 rfl (by unfold vp_in; decide) (by decide) (show decode prog_12_method_1_code 124 = .ok (.iastore, 1) by decide +kernel) ?_
  refine kb_iinc CX (j := 0) (v := 11) (show decode prog_12_method_1_code 125 = .ok (.iinc 1 1, 3) by decide +kernel) rfl (by decide) (by decide) (lv' := [(1, .int 11), (0, .ref h0)]) rfl ?_
  refine kb_goto CX (tgt := 109) (show decode prog_12_method_1_code 128 = .ok (.goto (-19), 3) by decide +kernel) (by decide) ?_
  refine kb_iload CX (show decode prog_12_method_1_code 109 = .ok (.iload_n 1, 1) by decide +kernel) rfl 0 rfl ?_
  refine kb_bipush CX (v := 12) (show decode prog_12_method_1_code 110 = .ok (.bipush 12, 2) by decide +kernel) (by decide +kernel) ?_
  refine kb_iclt CX (tgt := 131) (show decode prog_12_method_1_code 112 = .ok (.if_icmp .ge 19, 3) by decide +kernel) (by decide) (by decide) ?_
  refine kb_aload CX (show decode prog_12_method_1_code 115 = .ok (.aload_n 0, 1) by decide +kernel) rfl 1 rfl ?_
  refine kb_get CX (f := 8) (kd := 2) 0 (show decode prog_12_method_1_code 116 = .ok (.getfield 30, 3) by decide +kernel) (by decide +kernel) (by decide) rfl rfl ?_
  refine kb_bipush CX (v := 24) (show decode prog_12_method_1_code 119 = .ok (.bipush 24, 2) by decide +kernel) (by decide +kernel) ?_
  refine kb_iload CX (show decode prog_12_method_1_code 121 = .ok (.iload_n 1, 1) by decide +kernel) rfl 0 rfl ?_
  refine kb_iadd CX (z := 35) (show decode prog_12_method_1_code 122 = .ok (.iadd, 1) by decide +kernel) (by decide) ?_
  refine kb_iconst CX (v := (-1)) (show decode prog_12_method_1_code 123 = .ok (.iconst (-1), 1) by decide +kernel) (by decide +kernel) ?_
  refine kb_iast CX (N := 35) 7 rfl (by unfold vp_in; decide) (by decide) (show decode prog_12_method_1_code 124 = .ok (.iastore, 1) by decide +kernel) ?_
  refine kb_iinc CX (j := 0) (v := 12) (show decode prog_12_method_1_code 125 = .ok (.iinc 1 1, 3) by decide +kernel) rfl (by decide) (by decide) (lv' := [(1, .int 12), (0, .ref h0)]) rfl ?_
  refine kb_goto CX (tgt := 109) (show decode prog_12_method_1_code 128 = .ok (.goto (-19), 3) by decide +kernel) (by decide) ?_
  refine kb_iload CX (show decode prog_12_method_1_code 109 = .ok (.iload_n 1, 1) by decide +kernel) rfl 0 rfl ?_
  refine kb_bipush CX (v := 12) (show decode prog_12_method_1_code 110 = .ok (.bipush 12, 2) by decide +kernel) (by decide +kernel) ?_
  refine kb_icge CX (tgt := 131) (show decode prog_12_method_1_code 112 = .ok (.if_icmp .ge 19, 3) by decide +kernel) (by decide) (by decide) ?_
  exact hEnd 131 _ (fun k => ([0, k10q1, k10q2, k10q3, k10q4, k10q5, k10q6, k10q7, k10q8, k10q9, k10q10, k10q11] : List Nat).getD k 0) _ _ (Nat.le_of_ble_eq_true rfl) (Nat.le_of_ble_eq_true rfl) (show decode prog_12_method_1_code 131 = .ok (.return_, 1) by decide +kernel)
