/-! constructors, walked, 2 -/
abbrev yK1 : MethodName := ⟨"HummingBridges$Ear", "<init>", "(LHummingBridges$Valley;[LHummingBridges$Score;)V"⟩
abbrev rmK1 : Room := { frames := 1, cells := 4, slots := 141, locals := 12 }
abbrev eK1 : va_E := .inr (1, [.null, .null, .int 0, .null, .null, .null, .null])
def WfK1 (cc : Nat → ClassId) (h0 k1a1 k1a2 : Nat) (u : Nat → Nat) : va_W := [(h0, .inr (1, [.ref (u 1), .ref (u 2), .int 0, .ref k1a1, .ref k1a2, .ref (u 3), .ref (u 4)])), ((u 1), .inl (cc 2, 6, .inl (fun _ => 0))), ((u 2), .inl (cc 2, 15, .inl (fun _ => 0))), ((u 3), .inl (cc 2, 28, .inl (fun _ => 0))), ((u 4), .inl (cc 2, 92, .inl (fun _ => 0)))]
set_option maxRecDepth 100000 in
set_option maxHeartbeats 4000000 in
theorem kM1 {l : Launch} {D : va_G} {cc : Nat → ClassId} {h0 : Nat} (k1a1 k1a2 : Nat) : ∀ sz, Met l yK1 (Cond.code yK1 prog_3_method_1_code 3 none :: gw) rmK1 (kPc D cc [.ref k1a1, .ref k1a2] h0 eK1 sz) (kQc D h0 eK1 (WfK1 cc h0 k1a1 k1a2) sz) 4 141 (va_A [(h0, eK1)] sz) := by
  refine kMet (o := 1) [(0, .ref h0), (1, .ref k1a1), (2, .ref k1a2)] (by decide) rfl rfl rfl (Nat.le_of_ble_eq_true rfl) (fun p e s m args below meth c A QQ CX hin hEnd => ?_)
  refine kb_aload CX (show decode prog_3_method_1_code 0 = .ok (.aload_n 0, 1) by decide +kernel) rfl 0 rfl ?_
  refine kb_obj CX (show decode prog_3_method_1_code 1 = .ok (.invokespecial 3, 3) by decide +kernel) (gw_in (List.mem_of_getElem? (i := 351) (by decide +kernel)) (by decide +kernel)) (gw_in (List.mem_of_getElem? (i := 158) (by decide +kernel)) (by decide +kernel)) (gw_in (List.mem_of_getElem? (i := 159) (by decide +kernel)) (by decide +kernel)) (Nat.le_of_ble_eq_true rfl) (Nat.le_of_ble_eq_true rfl) ?_
  refine kb_aload CX (show decode prog_3_method_1_code 4 = .ok (.aload_n 0, 1) by decide +kernel) rfl 0 rfl ?_
  refine kb_bipush CX (v := 6) (show decode prog_3_method_1_code 5 = .ok (.bipush 6, 2) by decide +kernel) (by decide +kernel) ?_
  refine kb_newa CX (n := 6) (N := 6) (a0 := (6, .inl (fun _ => 0))) (at' := .int) (ty := .int) (c0 := cc 2) 0 (gw_in (List.mem_of_getElem? (i := 268) (by decide +kernel)) (by decide +kernel)) rfl rfl a0_int (by decide +kernel) (by decide +kernel) (by decide +kernel) (Nat.le_of_ble_eq_true rfl) (Nat.le_of_ble_eq_true rfl) (show decode prog_3_method_1_code 7 = .ok (.newarray .int, 2) by decide +kernel) (fun k1q1 => ?_)
  refine kb_putF CX hin (f := 0) (kd := 2) 0 (show decode prog_3_method_1_code 9 = .ok (.putfield 9, 3) by decide +kernel) (by decide +kernel) (by decide) rfl rfl rfl rfl (Nat.le_of_ble_eq_true rfl) ?_
  refine kb_aload CX (show decode prog_3_method_1_code 12 = .ok (.aload_n 0, 1) by decide +kernel) rfl 0 rfl ?_
  refine kb_bipush CX (v := 15) (show decode prog_3_method_1_code 13 = .ok (.bipush 15, 2) by decide +kernel) (by decide +kernel) ?_
  refine kb_newa CX (n := 15) (N := 15) (a0 := (15, .inl (fun _ => 0))) (at' := .int) (ty := .int) (c0 := cc 2) 0 (gw_in (List.mem_of_getElem? (i := 268) (by decide +kernel)) (by decide +kernel)) rfl rfl a0_int (by decide +kernel) (by decide +kernel) (by decide +kernel) (Nat.le_of_ble_eq_true rfl) (Nat.le_of_ble_eq_true rfl) (show decode prog_3_method_1_code 15 = .ok (.newarray .int, 2) by decide +kernel) (fun k1q2 => ?_)
  refine kb_putF CX hin (f := 1) (kd := 2) 0 (show decode prog_3_method_1_code 17 = .ok (.putfield 15, 3) by decide +kernel) (by decide +kernel) (by decide) rfl rfl rfl rfl (Nat.le_of_ble_eq_true rfl) ?_
  refine kb_aload CX (show decode prog_3_method_1_code 20 = .ok (.aload_n 0, 1) by decide +kernel) rfl 0 rfl ?_
  refine kb_bipush CX (v := 28) (show decode prog_3_method_1_code 21 = .ok (.bipush 28, 2) by decide +kernel) (by decide +kernel) ?_
  refine kb_newa CX (n := 28) (N := 28) (a0 := (28, .inl (fun _ => 0))) (at' := .int) (ty := .int) (c0 := cc 2) 0 (gw_in (List.mem_of_getElem? (i := 268) (by decide +kernel)) (by decide +kernel)) rfl rfl a0_int (by decide +kernel) (by decide +kernel) (by decide +kernel) (Nat.le_of_ble_eq_true rfl) (Nat.le_of_ble_eq_true rfl) (show decode prog_3_method_1_code 23 = .ok (.newarray .int, 2) by decide +kernel) (fun k1q3 => ?_)
  refine kb_putF CX hin (f := 5) (kd := 2) 0 (show decode prog_3_method_1_code 25 = .ok (.putfield 20, 3) by decide +kernel) (by decide +kernel) (by decide) rfl rfl rfl rfl (Nat.le_of_ble_eq_true rfl) ?_
  refine kb_aload CX (show decode prog_3_method_1_code 28 = .ok (.aload_n 0, 1) by decide +kernel) rfl 0 rfl ?_
  refine kb_bipush CX (v := 92) (show decode prog_3_method_1_code 29 = .ok (.bipush 92, 2) by decide +kernel) (by decide +kernel) ?_
  refine kb_newa CX (n := 92) (N := 92) (a0 := (92, .inl (fun _ => 0))) (at' := .int) (ty := .int) (c0 := cc 2) 0 (gw_in (List.mem_of_getElem? (i := 268) (by decide +kernel)) (by decide +kernel)) rfl rfl a0_int (by decide +kernel) (by decide +kernel) (by decide +kernel) (Nat.le_of_ble_eq_true rfl) (Nat.le_of_ble_eq_true rfl) (show decode prog_3_method_1_code 31 = .ok (.newarray .int, 2) by decide +kernel) (fun k1q4 => ?_)
  refine kb_putF CX hin (f := 6) (kd := 2) 0 (show decode prog_3_method_1_code 33 = .ok (.putfield 25, 3) by decide +kernel) (by decide +kernel) (by decide) rfl rfl rfl rfl (Nat.le_of_ble_eq_true rfl) ?_
  refine kb_aload CX (show decode prog_3_method_1_code 36 = .ok (.aload_n 0, 1) by decide +kernel) rfl 0 rfl ?_
  refine kb_aload CX (show decode prog_3_method_1_code 37 = .ok (.aload_n 1, 1) by decide +kernel) rfl 1 rfl ?_
  refine kb_putF CX hin (f := 3) (kd := 2) 0 (show decode prog_3_method_1_code 38 = .ok (.putfield 28, 3) by decide +kernel) (by decide +kernel) (by decide) rfl rfl rfl rfl (Nat.le_of_ble_eq_true rfl) ?_
  refine kb_aload CX (show decode prog_3_method_1_code 41 = .ok (.aload_n 0, 1) by decide +kernel) rfl 0 rfl ?_
  refine kb_aload CX (show decode prog_3_method_1_code 42 = .ok (.aload_n 2, 1) by decide +kernel) rfl 2 rfl ?_
  refine kb_putF CX hin (f := 4) (kd := 2) 0 (show decode prog_3_method_1_code 43 = .ok (.putfield 32, 3) by decide +kernel) (by decide +kernel) (by decide) rfl rfl rfl rfl (Nat.le_of_ble_eq_true rfl) ?_
  exact hEnd 46 _ (fun k => ([0, k1q1, k1q2, k1q3, k1q4] : List Nat).getD k 0) _ _ (Nat.le_of_ble_eq_true rfl) (Nat.le_of_ble_eq_true rfl) (show decode prog_3_method_1_code 46 = .ok (.return_, 1) by decide +kernel)
abbrev yK5 : MethodName := ⟨"HummingBridges$Planner", "<init>", "(LHummingBridges$Valley;LHummingBridges$Ear;)V"⟩
abbrev rmK5 : Room := { frames := 1, cells := 5, slots := 240, locals := 12 }
abbrev eK5 : va_E := .inr (5, [.null, .null, .null, .null, .null, .null, .null, .int 0])
def WfK5 (cc : Nat → ClassId) (h0 k5a1 k5a2 : Nat) (u : Nat → Nat) : va_W := [(h0, .inr (5, [.ref k5a1, .ref k5a2, .ref (u 1), .ref (u 2), .ref (u 3), .ref (u 4), .ref (u 5), .int 0])), ((u 1), .inl (cc 2, 4, .inl (fun _ => 0))), ((u 2), .inl (cc 2, 4, .inl (fun _ => 0))), ((u 3), .inl (cc 2, 4, .inl (fun _ => 0))), ((u 4), .inl (cc 2, 4, .inl (fun _ => 0))), ((u 5), .inl (cc 2, 224, .inl (fun _ => 0)))]
set_option maxRecDepth 100000 in
set_option maxHeartbeats 4000000 in
theorem kM5 {l : Launch} {D : va_G} {cc : Nat → ClassId} {h0 : Nat} (k5a1 k5a2 : Nat) : ∀ sz, Met l yK5 (Cond.code yK5 prog_7_method_1_code 3 none :: gw) rmK5 (kPc D cc [.ref k5a1, .ref k5a2] h0 eK5 sz) (kQc D h0 eK5 (WfK5 cc h0 k5a1 k5a2) sz) 5 240 (va_A [(h0, eK5)] sz) := by
  refine kMet (o := 5) [(0, .ref h0), (1, .ref k5a1), (2, .ref k5a2)] (by decide) rfl rfl rfl (Nat.le_of_ble_eq_true rfl) (fun p e s m args below meth c A QQ CX hin hEnd => ?_)
  refine kb_aload CX (show decode prog_7_method_1_code 0 = .ok (.aload_n 0, 1) by decide +kernel) rfl 0 rfl ?_
  refine kb_obj CX (show decode prog_7_method_1_code 1 = .ok (.invokespecial 5, 3) by decide +kernel) (gw_in (List.mem_of_getElem? (i := 384) (by decide +kernel)) (by decide +kernel)) (gw_in (List.mem_of_getElem? (i := 158) (by decide +kernel)) (by decide +kernel)) (gw_in (List.mem_of_getElem? (i := 159) (by decide +kernel)) (by decide +kernel)) (Nat.le_of_ble_eq_true rfl) (Nat.le_of_ble_eq_true rfl) ?_
  refine kb_aload CX (show decode prog_7_method_1_code 4 = .ok (.aload_n 0, 1) by decide +kernel) rfl 0 rfl ?_
  refine kb_iconst CX (v := 4) (show decode prog_7_method_1_code 5 = .ok (.iconst 4, 1) by decide +kernel) (by decide +kernel) ?_
  refine kb_newa CX (n := 4) (N := 4) (a0 := (4, .inl (fun _ => 0))) (at' := .int) (ty := .int) (c0 := cc 2) 0 (gw_in (List.mem_of_getElem? (i := 268) (by decide +kernel)) (by decide +kernel)) rfl rfl a0_int (by decide +kernel) (by decide +kernel) (by decide +kernel) (Nat.le_of_ble_eq_true rfl) (Nat.le_of_ble_eq_true rfl) (show decode prog_7_method_1_code 6 = .ok (.newarray .int, 2) by decide +kernel) (fun k5q1 => ?_)
  refine kb_putF CX hin (f := 2) (kd := 2) 0 (show decode prog_7_method_1_code 8 = .ok (.putfield 11, 3) by decide +kernel) (by decide +kernel) (by decide) rfl rfl rfl rfl (Nat.le_of_ble_eq_true rfl) ?_
  refine kb_aload CX (show decode prog_7_method_1_code 11 = .ok (.aload_n 0, 1) by decide +kernel) rfl 0 rfl ?_
  refine kb_iconst CX (v := 4) (show decode prog_7_method_1_code 12 = .ok (.iconst 4, 1) by decide +kernel) (by decide +kernel) ?_
  refine kb_newa CX (n := 4) (N := 4) (a0 := (4, .inl (fun _ => 0))) (at' := .int) (ty := .int) (c0 := cc 2) 0 (gw_in (List.mem_of_getElem? (i := 268) (by decide +kernel)) (by decide +kernel)) rfl rfl a0_int (by decide +kernel) (by decide +kernel) (by decide +kernel) (Nat.le_of_ble_eq_true rfl) (Nat.le_of_ble_eq_true rfl) (show decode prog_7_method_1_code 13 = .ok (.newarray .int, 2) by decide +kernel) (fun k5q2 => ?_)
  refine kb_putF CX hin (f := 3) (kd := 2) 0 (show decode prog_7_method_1_code 15 = .ok (.putfield 15, 3) by decide +kernel) (by decide +kernel) (by decide) rfl rfl rfl rfl (Nat.le_of_ble_eq_true rfl) ?_
  refine kb_aload CX (show decode prog_7_method_1_code 18 = .ok (.aload_n 0, 1) by decide +kernel) rfl 0 rfl ?_
  refine kb_iconst CX (v := 4) (show decode prog_7_method_1_code 19 = .ok (.iconst 4, 1) by decide +kernel) (by decide +kernel) ?_
  refine kb_newa CX (n := 4) (N := 4) (a0 := (4, .inl (fun _ => 0))) (at' := .int) (ty := .int) (c0 := cc 2) 0 (gw_in (List.mem_of_getElem? (i := 268) (by decide +kernel)) (by decide +kernel)) rfl rfl a0_int (by decide +kernel) (by decide +kernel) (by decide +kernel) (Nat.le_of_ble_eq_true rfl) (Nat.le_of_ble_eq_true rfl) (show decode prog_7_method_1_code 20 = .ok (.newarray .int, 2) by decide +kernel) (fun k5q3 => ?_)
  refine kb_putF CX hin (f := 4) (kd := 2) 0 (show decode prog_7_method_1_code 22 = .ok (.putfield 18, 3) by decide +kernel) (by decide +kernel) (by decide) rfl rfl rfl rfl (Nat.le_of_ble_eq_true rfl) ?_
  refine kb_aload CX (show decode prog_7_method_1_code 25 = .ok (.aload_n 0, 1) by decide +kernel) rfl 0 rfl ?_
  refine kb_iconst CX (v := 4) (show decode prog_7_method_1_code 26 = .ok (.iconst 4, 1) by decide +kernel) (by decide +kernel) ?_
  refine kb_newa CX (n := 4) (N := 4) (a0 := (4, .inl (fun _ => 0))) (at' := .int) (ty := .int) (c0 := cc 2) 0 (gw_in (List.mem_of_getElem? (i := 268) (by decide +kernel)) (by decide +kernel)) rfl rfl a0_int (by decide +kernel) (by decide +kernel) (by decide +kernel) (Nat.le_of_ble_eq_true rfl) (Nat.le_of_ble_eq_true rfl) (show decode prog_7_method_1_code 27 = .ok (.newarray .int, 2) by decide +kernel) (fun k5q4 => ?_)
  refine kb_putF CX hin (f := 5) (kd := 2) 0 (show decode prog_7_method_1_code 29 = .ok (.putfield 21, 3) by decide +kernel) (by decide +kernel) (by decide) rfl rfl rfl rfl (Nat.le_of_ble_eq_true rfl) ?_
  refine kb_aload CX (show decode prog_7_method_1_code 32 = .ok (.aload_n 0, 1) by decide +kernel) rfl 0 rfl ?_
  refine kb_sipush CX (v := 224) (show decode prog_7_method_1_code 33 = .ok (.sipush 224, 3) by decide +kernel) (by decide +kernel) ?_
  refine kb_newa CX (n := 224) (N := 224) (a0 := (224, .inl (fun _ => 0))) (at' := .int) (ty := .int) (c0 := cc 2) 0 (gw_in (List.mem_of_getElem? (i := 268) (by decide +kernel)) (by decide +kernel)) rfl rfl a0_int (by decide +kernel) (by decide +kernel) (by decide +kernel) (Nat.le_of_ble_eq_true rfl) (Nat.le_of_ble_eq_true rfl) (show decode prog_7_method_1_code 36 = .ok (.newarray .int, 2) by decide +kernel) (fun k5q5 => ?_)
  refine kb_putF CX hin (f := 6) (kd := 2) 0 (show decode prog_7_method_1_code 38 = .ok (.putfield 24, 3) by decide +kernel) (by decide +kernel) (by decide) rfl rfl rfl rfl (Nat.le_of_ble_eq_true rfl) ?_
  refine kb_aload CX (show decode prog_7_method_1_code 41 = .ok (.aload_n 0, 1) by decide +kernel) rfl 0 rfl ?_
  refine kb_aload CX (show decode prog_7_method_1_code 42 = .ok (.aload_n 1, 1) by decide +kernel) rfl 1 rfl ?_
  refine kb_putF CX hin (f := 0) (kd := 2) 0 (show decode prog_7_method_1_code 43 = .ok (.putfield 27, 3) by decide +kernel) (by decide +kernel) (by decide) rfl rfl rfl rfl (Nat.le_of_ble_eq_true rfl) ?_
  refine kb_aload CX (show decode prog_7_method_1_code 46 = .ok (.aload_n 0, 1) by decide +kernel) rfl 0 rfl ?_
  refine kb_aload CX (show decode prog_7_method_1_code 47 = .ok (.aload_n 2, 1) by decide +kernel) rfl 2 rfl ?_
  refine kb_putF CX hin (f := 1) (kd := 2) 0 (show decode prog_7_method_1_code 48 = .ok (.putfield 31, 3) by decide +kernel) (by decide +kernel) (by decide) rfl rfl rfl rfl (Nat.le_of_ble_eq_true rfl) ?_
  exact hEnd 51 _ (fun k => ([0, k5q1, k5q2, k5q3, k5q4, k5q5] : List Nat).getD k 0) _ _ (Nat.le_of_ble_eq_true rfl) (Nat.le_of_ble_eq_true rfl) (show decode prog_7_method_1_code 51 = .ok (.return_, 1) by decide +kernel)
abbrev yK0 : MethodName := ⟨"HummingBridges$Chooser", "<init>", "(LHummingBridges$Valley;LHummingBridges$Ear;)V"⟩
abbrev rmK0 : Room := { frames := 1, cells := 5, slots := 622, locals := 12 }
abbrev eK0 : va_E := .inr (0, [.null, .null, .null, .null, .null, .null, .null, .int 0, .int 0, .int 0])
def WfK0 (cc : Nat → ClassId) (h0 k0a1 k0a2 : Nat) (u : Nat → Nat) : va_W := [(h0, .inr (0, [.ref k0a1, .ref k0a2, .ref (u 1), .ref (u 2), .ref (u 3), .ref (u 4), .ref (u 5), .int 0, .int 0, .int 0])), ((u 1), .inl (cc 2, 4, .inl (fun _ => 0))), ((u 2), .inl (cc 2, 4, .inl (fun _ => 0))), ((u 3), .inl (cc 2, 244, .inl (fun _ => 0))), ((u 4), .inl (cc 4, 4, .inr (.inl (fun _ => 0)))), ((u 5), .inl (cc 4, 366, .inr (.inl (fun _ => 0))))]
set_option maxRecDepth 100000 in
set_option maxHeartbeats 4000000 in
theorem kM0 {l : Launch} {D : va_G} {cc : Nat → ClassId} {h0 : Nat} (k0a1 k0a2 : Nat) : ∀ sz, Met l yK0 (Cond.code yK0 prog_2_method_1_code 3 none :: gw) rmK0 (kPc D cc [.ref k0a1, .ref k0a2] h0 eK0 sz) (kQc D h0 eK0 (WfK0 cc h0 k0a1 k0a2) sz) 5 622 (va_A [(h0, eK0)] sz) := by
  refine kMet (o := 0) [(0, .ref h0), (1, .ref k0a1), (2, .ref k0a2)] (by decide) rfl rfl rfl (Nat.le_of_ble_eq_true rfl) (fun p e s m args below meth c A QQ CX hin hEnd => ?_)
  refine kb_aload CX (show decode prog_2_method_1_code 0 = .ok (.aload_n 0, 1) by decide +kernel) rfl 0 rfl ?_
  refine kb_obj CX (show decode prog_2_method_1_code 1 = .ok (.invokespecial 3, 3) by decide +kernel) (gw_in (List.mem_of_getElem? (i := 415) (by decide +kernel)) (by decide +kernel)) (gw_in (List.mem_of_getElem? (i := 158) (by decide +kernel)) (by decide +kernel)) (gw_in (List.mem_of_getElem? (i := 159) (by decide +kernel)) (by decide +kernel)) (Nat.le_of_ble_eq_true rfl) (Nat.le_of_ble_eq_true rfl) ?_
  refine kb_aload CX (show decode prog_2_method_1_code 4 = .ok (.aload_n 0, 1) by decide +kernel) rfl 0 rfl ?_
  refine kb_iconst CX (v := 4) (show decode prog_2_method_1_code 5 = .ok (.iconst 4, 1) by decide +kernel) (by decide +kernel) ?_
  refine kb_newa CX (n := 4) (N := 4) (a0 := (4, .inl (fun _ => 0))) (at' := .int) (ty := .int) (c0 := cc 2) 0 (gw_in (List.mem_of_getElem? (i := 268) (by decide +kernel)) (by decide +kernel)) rfl rfl a0_int (by decide +kernel) (by decide +kernel) (by decide +kernel) (Nat.le_of_ble_eq_true rfl) (Nat.le_of_ble_eq_true rfl) (show decode prog_2_method_1_code 6 = .ok (.newarray .int, 2) by decide +kernel) (fun k0q1 => ?_)
  refine kb_putF CX hin (f := 2) (kd := 2) 0 (show decode prog_2_method_1_code 8 = .ok (.putfield 11, 3) by decide +kernel) (by decide +kernel) (by decide) rfl rfl rfl rfl (Nat.le_of_ble_eq_true rfl) ?_
  refine kb_aload CX (show decode prog_2_method_1_code 11 = .ok (.aload_n 0, 1) by decide +kernel) rfl 0 rfl ?_
  refine kb_iconst CX (v := 4) (show decode prog_2_method_1_code 12 = .ok (.iconst 4, 1) by decide +kernel) (by decide +kernel) ?_
  refine kb_newa CX (n := 4) (N := 4) (a0 := (4, .inl (fun _ => 0))) (at' := .int) (ty := .int) (c0 := cc 2) 0 (gw_in (List.mem_of_getElem? (i := 268) (by decide +kernel)) (by decide +kernel)) rfl rfl a0_int (by decide +kernel) (by decide +kernel) (by decide +kernel) (Nat.le_of_ble_eq_true rfl) (Nat.le_of_ble_eq_true rfl) (show decode prog_2_method_1_code 13 = .ok (.newarray .int, 2) by decide +kernel) (fun k0q2 => ?_)
  refine kb_putF CX hin (f := 3) (kd := 2) 0 (show decode prog_2_method_1_code 15 = .ok (.putfield 15, 3) by decide +kernel) (by decide +kernel) (by decide) rfl rfl rfl rfl (Nat.le_of_ble_eq_true rfl) ?_
  refine kb_aload CX (show decode prog_2_method_1_code 18 = .ok (.aload_n 0, 1) by decide +kernel) rfl 0 rfl ?_
  refine kb_sipush CX (v := 244) (show decode prog_2_method_1_code 19 = .ok (.sipush 244, 3) by decide +kernel) (by decide +kernel) ?_
  refine kb_newa CX (n := 244) (N := 244) (a0 := (244, .inl (fun _ => 0))) (at' := .int) (ty := .int) (c0 := cc 2) 0 (gw_in (List.mem_of_getElem? (i := 268) (by decide +kernel)) (by decide +kernel)) rfl rfl a0_int (by decide +kernel) (by decide +kernel) (by decide +kernel) (Nat.le_of_ble_eq_true rfl) (Nat.le_of_ble_eq_true rfl) (show decode prog_2_method_1_code 22 = .ok (.newarray .int, 2) by decide +kernel) (fun k0q3 => ?_)
  refine kb_putF CX hin (f := 4) (kd := 2) 0 (show decode prog_2_method_1_code 24 = .ok (.putfield 18, 3) by decide +kernel) (by decide +kernel) (by decide) rfl rfl rfl rfl (Nat.le_of_ble_eq_true rfl) ?_
  refine kb_aload CX (show decode prog_2_method_1_code 27 = .ok (.aload_n 0, 1) by decide +kernel) rfl 0 rfl ?_
  refine kb_iconst CX (v := 4) (show decode prog_2_method_1_code 28 = .ok (.iconst 4, 1) by decide +kernel) (by decide +kernel) ?_
  refine kb_newa CX (n := 4) (N := 4) (a0 := (4, .inr (.inl (fun _ => 0)))) (at' := .long) (ty := .long) (c0 := cc 4) 2 (gw_in (List.mem_of_getElem? (i := 447) (by decide +kernel)) (by decide +kernel)) rfl rfl a0_long (by decide +kernel) (by decide +kernel) (by decide +kernel) (Nat.le_of_ble_eq_true rfl) (Nat.le_of_ble_eq_true rfl) (show decode prog_2_method_1_code 29 = .ok (.newarray .long, 2) by decide +kernel) (fun k0q4 => ?_)
  refine kb_putF CX hin (f := 5) (kd := 2) 0 (show decode prog_2_method_1_code 31 = .ok (.putfield 21, 3) by decide +kernel) (by decide +kernel) (by decide) rfl rfl rfl rfl (Nat.le_of_ble_eq_true rfl) ?_
  refine kb_aload CX (show decode prog_2_method_1_code 34 = .ok (.aload_n 0, 1) by decide +kernel) rfl 0 rfl ?_
  refine kb_sipush CX (v := 366) (show decode prog_2_method_1_code 35 = .ok (.sipush 366, 3) by decide +kernel) (by decide +kernel) ?_
  refine kb_newa CX (n := 366) (N := 366) (a0 := (366, .inr (.inl (fun _ => 0)))) (at' := .long) (ty := .long) (c0 := cc 4) 2 (gw_in (List.mem_of_getElem? (i := 447) (by decide +kernel)) (by decide +kernel)) rfl rfl a0_long (by decide +kernel) (by decide +kernel) (by decide +kernel) (Nat.le_of_ble_eq_true rfl) (Nat.le_of_ble_eq_true rfl) (show decode prog_2_method_1_code 38 = .ok (.newarray .long, 2) by decide +kernel) (fun k0q5 => ?_)
  refine kb_putF CX hin (f := 6) (kd := 2) 0 (show decode prog_2_method_1_code 40 = .ok (.putfield 25, 3) by decide +kernel) (by decide +kernel) (by decide) rfl rfl rfl rfl (Nat.le_of_ble_eq_true rfl) ?_
  refine kb_aload CX (show decode prog_2_method_1_code 43 = .ok (.aload_n 0, 1) by decide +kernel) rfl 0 rfl ?_
  refine kb_aload CX (show decode prog_2_method_1_code 44 = .ok (.aload_n 1, 1) by decide +kernel) rfl 1 rfl ?_
  refine kb_putF CX hin (f := 0) (kd := 2) 0 (show decode prog_2_method_1_code 45 = .ok (.putfield 28, 3) by decide +kernel) (by decide +kernel) (by decide) rfl rfl rfl rfl (Nat.le_of_ble_eq_true rfl) ?_
  refine kb_aload CX (show decode prog_2_method_1_code 48 = .ok (.aload_n 0, 1) by decide +kernel) rfl 0 rfl ?_
  refine kb_aload CX (show decode prog_2_method_1_code 49 = .ok (.aload_n 2, 1) by decide +kernel) rfl 2 rfl ?_
  refine kb_putF CX hin (f := 1) (kd := 2) 0 (show decode prog_2_method_1_code 50 = .ok (.putfield 32, 3) by decide +kernel) (by decide +kernel) (by decide) rfl rfl rfl rfl (Nat.le_of_ble_eq_true rfl) ?_
  exact hEnd 53 _ (fun k => ([0, k0q1, k0q2, k0q3, k0q4, k0q5] : List Nat).getD k 0) _ _ (Nat.le_of_ble_eq_true rfl) (Nat.le_of_ble_eq_true rfl) (show decode prog_2_method_1_code 53 = .ok (.return_, 1) by decide +kernel)
abbrev yK2 : MethodName := ⟨"HummingBridges$Listener", "<init>", "(LHummingBridges$Valley;LHummingBridges$Ear;)V"⟩
abbrev rmK2 : Room := { frames := 1, cells := 5, slots := 400, locals := 12 }
abbrev eK2 : va_E := .inr (2, [.null, .null, .null, .null, .null, .null, .null, .int 0, .int 0, .int 0])
def WfK2 (cc : Nat → ClassId) (h0 k2a1 k2a2 : Nat) (u : Nat → Nat) : va_W := [(h0, .inr (2, [.ref k2a1, .ref k2a2, .ref (u 1), .ref (u 2), .ref (u 3), .ref (u 4), .ref (u 5), .int 0, .int 0, .int 0])), ((u 1), .inl (cc 2, 5, .inl (fun _ => 0))), ((u 2), .inl (cc 2, 5, .inl (fun _ => 0))), ((u 3), .inl (cc 2, 6, .inl (fun _ => 0))), ((u 4), .inl (cc 2, 192, .inl (fun _ => 0))), ((u 5), .inl (cc 2, 192, .inl (fun _ => 0)))]
set_option maxRecDepth 100000 in
set_option maxHeartbeats 4000000 in
theorem kM2 {l : Launch} {D : va_G} {cc : Nat → ClassId} {h0 : Nat} (k2a1 k2a2 : Nat) : ∀ sz, Met l yK2 (Cond.code yK2 prog_4_method_1_code 3 none :: gw) rmK2 (kPc D cc [.ref k2a1, .ref k2a2] h0 eK2 sz) (kQc D h0 eK2 (WfK2 cc h0 k2a1 k2a2) sz) 5 400 (va_A [(h0, eK2)] sz) := by
  refine kMet (o := 2) [(0, .ref h0), (1, .ref k2a1), (2, .ref k2a2)] (by decide) rfl rfl rfl (Nat.le_of_ble_eq_true rfl) (fun p e s m args below meth c A QQ CX hin hEnd => ?_)
  refine kb_aload CX (show decode prog_4_method_1_code 0 = .ok (.aload_n 0, 1) by decide +kernel) rfl 0 rfl ?_
  refine kb_obj CX (show decode prog_4_method_1_code 1 = .ok (.invokespecial 5, 3) by decide +kernel) (gw_in (List.mem_of_getElem? (i := 453) (by decide +kernel)) (by decide +kernel)) (gw_in (List.mem_of_getElem? (i := 158) (by decide +kernel)) (by decide +kernel)) (gw_in (List.mem_of_getElem? (i := 159) (by decide +kernel)) (by decide +kernel)) (Nat.le_of_ble_eq_true rfl) (Nat.le_of_ble_eq_true rfl) ?_
  refine kb_aload CX (show decode prog_4_method_1_code 4 = .ok (.aload_n 0, 1) by decide +kernel) rfl 0 rfl ?_
  refine kb_iconst CX (v := 5) (show decode prog_4_method_1_code 5 = .ok (.iconst 5, 1) by decide +kernel) (by decide +kernel) ?_
  refine kb_newa CX (n := 5) (N := 5) (a0 := (5, .inl (fun _ => 0))) (at' := .int) (ty := .int) (c0 := cc 2) 0 (gw_in (List.mem_of_getElem? (i := 268) (by decide +kernel)) (by decide +kernel)) rfl rfl a0_int (by decide +kernel) (by decide +kernel) (by decide +kernel) (Nat.le_of_ble_eq_true rfl) (Nat.le_of_ble_eq_true rfl) (show decode prog_4_method_1_code 6 = .ok (.newarray .int, 2) by decide +kernel) (fun k2q1 => ?_)
  refine kb_putF CX hin (f := 2) (kd := 2) 0 (show decode prog_4_method_1_code 8 = .ok (.putfield 11, 3) by decide +kernel) (by decide +kernel) (by decide) rfl rfl rfl rfl (Nat.le_of_ble_eq_true rfl) ?_
  refine kb_aload CX (show decode prog_4_method_1_code 11 = .ok (.aload_n 0, 1) by decide +kernel) rfl 0 rfl ?_
  refine kb_iconst CX (v := 5) (show decode prog_4_method_1_code 12 = .ok (.iconst 5, 1) by decide +kernel) (by decide +kernel) ?_
  refine kb_newa CX (n := 5) (N := 5) (a0 := (5, .inl (fun _ => 0))) (at' := .int) (ty := .int) (c0 := cc 2) 0 (gw_in (List.mem_of_getElem? (i := 268) (by decide +kernel)) (by decide +kernel)) rfl rfl a0_int (by decide +kernel) (by decide +kernel) (by decide +kernel) (Nat.le_of_ble_eq_true rfl) (Nat.le_of_ble_eq_true rfl) (show decode prog_4_method_1_code 13 = .ok (.newarray .int, 2) by decide +kernel) (fun k2q2 => ?_)
  refine kb_putF CX hin (f := 3) (kd := 2) 0 (show decode prog_4_method_1_code 15 = .ok (.putfield 15, 3) by decide +kernel) (by decide +kernel) (by decide) rfl rfl rfl rfl (Nat.le_of_ble_eq_true rfl) ?_
  refine kb_aload CX (show decode prog_4_method_1_code 18 = .ok (.aload_n 0, 1) by decide +kernel) rfl 0 rfl ?_
  refine kb_bipush CX (v := 6) (show decode prog_4_method_1_code 19 = .ok (.bipush 6, 2) by decide +kernel) (by decide +kernel) ?_
  refine kb_newa CX (n := 6) (N := 6) (a0 := (6, .inl (fun _ => 0))) (at' := .int) (ty := .int) (c0 := cc 2) 0 (gw_in (List.mem_of_getElem? (i := 268) (by decide +kernel)) (by decide +kernel)) rfl rfl a0_int (by decide +kernel) (by decide +kernel) (by decide +kernel) (Nat.le_of_ble_eq_true rfl) (Nat.le_of_ble_eq_true rfl) (show decode prog_4_method_1_code 21 = .ok (.newarray .int, 2) by decide +kernel) (fun k2q3 => ?_)
  refine kb_putF CX hin (f := 4) (kd := 2) 0 (show decode prog_4_method_1_code 23 = .ok (.putfield 18, 3) by decide +kernel) (by decide +kernel) (by decide) rfl rfl rfl rfl (Nat.le_of_ble_eq_true rfl) ?_
  refine kb_aload CX (show decode prog_4_method_1_code 26 = .ok (.aload_n 0, 1) by decide +kernel) rfl 0 rfl ?_
  refine kb_sipush CX (v := 192) (show decode prog_4_method_1_code 27 = .ok (.sipush 192, 3) by decide +kernel) (by decide +kernel) ?_
  refine kb_newa CX (n := 192) (N := 192) (a0 := (192, .inl (fun _ => 0))) (at' := .int) (ty := .int) (c0 := cc 2) 0 (gw_in (List.mem_of_getElem? (i := 268) (by decide +kernel)) (by decide +kernel)) rfl rfl a0_int (by decide +kernel) (by decide +kernel) (by decide +kernel) (Nat.le_of_ble_eq_true rfl) (Nat.le_of_ble_eq_true rfl) (show decode prog_4_method_1_code 30 = .ok (.newarray .int, 2) by decide +kernel) (fun k2q4 => ?_)
  refine kb_putF CX hin (f := 5) (kd := 2) 0 (show decode prog_4_method_1_code 32 = .ok (.putfield 21, 3) by decide +kernel) (by decide +kernel) (by decide) rfl rfl rfl rfl (Nat.le_of_ble_eq_true rfl) ?_
  refine kb_aload CX (show decode prog_4_method_1_code 35 = .ok (.aload_n 0, 1) by decide +kernel) rfl 0 rfl ?_
  refine kb_sipush CX (v := 192) (show decode prog_4_method_1_code 36 = .ok (.sipush 192, 3) by decide +kernel) (by decide +kernel) ?_
  refine kb_newa CX (n := 192) (N := 192) (a0 := (192, .inl (fun _ => 0))) (at' := .int) (ty := .int) (c0 := cc 2) 0 (gw_in (List.mem_of_getElem? (i := 268) (by decide +kernel)) (by decide +kernel)) rfl rfl a0_int (by decide +kernel) (by decide +kernel) (by decide +kernel) (Nat.le_of_ble_eq_true rfl) (Nat.le_of_ble_eq_true rfl) (show decode prog_4_method_1_code 39 = .ok (.newarray .int, 2) by decide +kernel) (fun k2q5 => ?_)
  refine kb_putF CX hin (f := 6) (kd := 2) 0 (show decode prog_4_method_1_code 41 = .ok (.putfield 24, 3) by decide +kernel) (by decide +kernel) (by decide) rfl rfl rfl rfl (Nat.le_of_ble_eq_true rfl) ?_
  refine kb_aload CX (show decode prog_4_method_1_code 44 = .ok (.aload_n 0, 1) by decide +kernel) rfl 0 rfl ?_
  refine kb_aload CX (show decode prog_4_method_1_code 45 = .ok (.aload_n 1, 1) by decide +kernel) rfl 1 rfl ?_
  refine kb_putF CX hin (f := 0) (kd := 2) 0 (show decode prog_4_method_1_code 46 = .ok (.putfield 27, 3) by decide +kernel) (by decide +kernel) (by decide) rfl rfl rfl rfl (Nat.le_of_ble_eq_true rfl) ?_
  refine kb_aload CX (show decode prog_4_method_1_code 49 = .ok (.aload_n 0, 1) by decide +kernel) rfl 0 rfl ?_
  refine kb_aload CX (show decode prog_4_method_1_code 50 = .ok (.aload_n 2, 1) by decide +kernel) rfl 2 rfl ?_
  refine kb_putF CX hin (f := 1) (kd := 2) 0 (show decode prog_4_method_1_code 51 = .ok (.putfield 31, 3) by decide +kernel) (by decide +kernel) (by decide) rfl rfl rfl rfl (Nat.le_of_ble_eq_true rfl) ?_
  exact hEnd 54 _ (fun k => ([0, k2q1, k2q2, k2q3, k2q4, k2q5] : List Nat).getD k 0) _ _ (Nat.le_of_ble_eq_true rfl) (Nat.le_of_ble_eq_true rfl) (show decode prog_4_method_1_code 54 = .ok (.return_, 1) by decide +kernel)
abbrev yK3 : MethodName := ⟨"HummingBridges$March", "<init>", "(LHummingBridges$Valley;)V"⟩
abbrev rmK3 : Room := { frames := 1, cells := 2, slots := 12, locals := 12 }
abbrev eK3 : va_E := .inr (3, [.null, .null, .null, .int 0, .int 0, .int 0])
def WfK3 (cc : Nat → ClassId) (h0 k3a1 : Nat) (u : Nat → Nat) : va_W := [(h0, .inr (3, [.ref (u 1), .ref k3a1, .ref (u 2), .int 0, .int 0, .int 0])), ((u 1), .inl (cc 2, 6, .inl (fun _ => 0))), ((u 2), .inl (cc 2, 6, .inl (fun _ => 0)))]
set_option maxRecDepth 100000 in
set_option maxHeartbeats 4000000 in
theorem kM3 {l : Launch} {D : va_G} {cc : Nat → ClassId} {h0 : Nat} (k3a1 : Nat) : ∀ sz, Met l yK3 (Cond.code yK3 prog_5_method_1_code 2 none :: gw) rmK3 (kPc D cc [.ref k3a1] h0 eK3 sz) (kQc D h0 eK3 (WfK3 cc h0 k3a1) sz) 2 12 (va_A [(h0, eK3)] sz) := by
  refine kMet (o := 3) [(0, .ref h0), (1, .ref k3a1)] (by decide) rfl rfl rfl (Nat.le_of_ble_eq_true rfl) (fun p e s m args below meth c A QQ CX hin hEnd => ?_)
  refine kb_aload CX (show decode prog_5_method_1_code 0 = .ok (.aload_n 0, 1) by decide +kernel) rfl 0 rfl ?_
  refine kb_obj CX (show decode prog_5_method_1_code 1 = .ok (.invokespecial 3, 3) by decide +kernel) (gw_in (List.mem_of_getElem? (i := 490) (by decide +kernel)) (by decide +kernel)) (gw_in (List.mem_of_getElem? (i := 158) (by decide +kernel)) (by decide +kernel)) (gw_in (List.mem_of_getElem? (i := 159) (by decide +kernel)) (by decide +kernel)) (Nat.le_of_ble_eq_true rfl) (Nat.le_of_ble_eq_true rfl) ?_
  refine kb_aload CX (show decode prog_5_method_1_code 4 = .ok (.aload_n 0, 1) by decide +kernel) rfl 0 rfl ?_
  refine kb_bipush CX (v := 6) (show decode prog_5_method_1_code 5 = .ok (.bipush 6, 2) by decide +kernel) (by decide +kernel) ?_
  refine kb_newa CX (n := 6) (N := 6) (a0 := (6, .inl (fun _ => 0))) (at' := .int) (ty := .int) (c0 := cc 2) 0 (gw_in (List.mem_of_getElem? (i := 268) (by decide +kernel)) (by decide +kernel)) rfl rfl a0_int (by decide +kernel) (by decide +kernel) (by decide +kernel) (Nat.le_of_ble_eq_true rfl) (Nat.le_of_ble_eq_true rfl) (show decode prog_5_method_1_code 7 = .ok (.newarray .int, 2) by decide +kernel) (fun k3q1 => ?_)
  refine kb_putF CX hin (f := 0) (kd := 2) 0 (show decode prog_5_method_1_code 9 = .ok (.putfield 9, 3) by decide +kernel) (by decide +kernel) (by decide) rfl rfl rfl rfl (Nat.le_of_ble_eq_true rfl) ?_
  refine kb_aload CX (show decode prog_5_method_1_code 12 = .ok (.aload_n 0, 1) by decide +kernel) rfl 0 rfl ?_
  refine kb_bipush CX (v := 6) (show decode prog_5_method_1_code 13 = .ok (.bipush 6, 2) by decide +kernel) (by decide +kernel) ?_
  refine kb_newa CX (n := 6) (N := 6) (a0 := (6, .inl (fun _ => 0))) (at' := .int) (ty := .int) (c0 := cc 2) 0 (gw_in (List.mem_of_getElem? (i := 268) (by decide +kernel)) (by decide +kernel)) rfl rfl a0_int (by decide +kernel) (by decide +kernel) (by decide +kernel) (Nat.le_of_ble_eq_true rfl) (Nat.le_of_ble_eq_true rfl) (show decode prog_5_method_1_code 15 = .ok (.newarray .int, 2) by decide +kernel) (fun k3q2 => ?_)
  refine kb_putF CX hin (f := 2) (kd := 2) 0 (show decode prog_5_method_1_code 17 = .ok (.putfield 15, 3) by decide +kernel) (by decide +kernel) (by decide) rfl rfl rfl rfl (Nat.le_of_ble_eq_true rfl) ?_
  refine kb_aload CX (show decode prog_5_method_1_code 20 = .ok (.aload_n 0, 1) by decide +kernel) rfl 0 rfl ?_
  refine kb_aload CX (show decode prog_5_method_1_code 21 = .ok (.aload_n 1, 1) by decide +kernel) rfl 1 rfl ?_
  refine kb_putF CX hin (f := 1) (kd := 2) 0 (show decode prog_5_method_1_code 22 = .ok (.putfield 18, 3) by decide +kernel) (by decide +kernel) (by decide) rfl rfl rfl rfl (Nat.le_of_ble_eq_true rfl) ?_
  exact hEnd 25 _ (fun k => ([0, k3q1, k3q2] : List Nat).getD k 0) _ _ (Nat.le_of_ble_eq_true rfl) (Nat.le_of_ble_eq_true rfl) (show decode prog_5_method_1_code 25 = .ok (.return_, 1) by decide +kernel)
abbrev yK4 : MethodName := ⟨"HummingBridges$Match", "<init>", "(LHummingBridges$Valley;LHummingBridges$Ear;)V"⟩
abbrev rmK4 : Room := { frames := 1, cells := 4, slots := 12, locals := 12 }
abbrev eK4 : va_E := .inr (4, [.null, .null, .null, .null, .null, .null, .int 0, .int 0])
def WfK4 (cc : Nat → ClassId) (h0 k4a1 k4a2 : Nat) (u : Nat → Nat) : va_W := [(h0, .inr (4, [.ref k4a1, .ref k4a2, .ref (u 1), .ref (u 2), .ref (u 3), .ref (u 4), .int 0, .int 0])), ((u 1), .inl (cc 2, 6, .inl (fun _ => 0))), ((u 2), .inl (cc 2, 2, .inl (fun _ => 0))), ((u 3), .inl (cc 2, 2, .inl (fun _ => 0))), ((u 4), .inl (cc 2, 2, .inl (fun _ => 0)))]
set_option maxRecDepth 100000 in
set_option maxHeartbeats 4000000 in
theorem kM4 {l : Launch} {D : va_G} {cc : Nat → ClassId} {h0 : Nat} (k4a1 k4a2 : Nat) : ∀ sz, Met l yK4 (Cond.code yK4 prog_6_method_1_code 3 none :: gw) rmK4 (kPc D cc [.ref k4a1, .ref k4a2] h0 eK4 sz) (kQc D h0 eK4 (WfK4 cc h0 k4a1 k4a2) sz) 4 12 (va_A [(h0, eK4)] sz) := by
  refine kMet (o := 4) [(0, .ref h0), (1, .ref k4a1), (2, .ref k4a2)] (by decide) rfl rfl rfl (Nat.le_of_ble_eq_true rfl) (fun p e s m args below meth c A QQ CX hin hEnd => ?_)
  refine kb_aload CX (show decode prog_6_method_1_code 0 = .ok (.aload_n 0, 1) by decide +kernel) rfl 0 rfl ?_
  refine kb_obj CX (show decode prog_6_method_1_code 1 = .ok (.invokespecial 3, 3) by decide +kernel) (gw_in (List.mem_of_getElem? (i := 516) (by decide +kernel)) (by decide +kernel)) (gw_in (List.mem_of_getElem? (i := 158) (by decide +kernel)) (by decide +kernel)) (gw_in (List.mem_of_getElem? (i := 159) (by decide +kernel)) (by decide +kernel)) (Nat.le_of_ble_eq_true rfl) (Nat.le_of_ble_eq_true rfl) ?_
  refine kb_aload CX (show decode prog_6_method_1_code 4 = .ok (.aload_n 0, 1) by decide +kernel) rfl 0 rfl ?_
  refine kb_bipush CX (v := 6) (show decode prog_6_method_1_code 5 = .ok (.bipush 6, 2) by decide +kernel) (by decide +kernel) ?_
  refine kb_newa CX (n := 6) (N := 6) (a0 := (6, .inl (fun _ => 0))) (at' := .int) (ty := .int) (c0 := cc 2) 0 (gw_in (List.mem_of_getElem? (i := 268) (by decide +kernel)) (by decide +kernel)) rfl rfl a0_int (by decide +kernel) (by decide +kernel) (by decide +kernel) (Nat.le_of_ble_eq_true rfl) (Nat.le_of_ble_eq_true rfl) (show decode prog_6_method_1_code 7 = .ok (.newarray .int, 2) by decide +kernel) (fun k4q1 => ?_)
  refine kb_putF CX hin (f := 2) (kd := 2) 0 (show decode prog_6_method_1_code 9 = .ok (.putfield 11, 3) by decide +kernel) (by decide +kernel) (by decide) rfl rfl rfl rfl (Nat.le_of_ble_eq_true rfl) ?_
  refine kb_aload CX (show decode prog_6_method_1_code 12 = .ok (.aload_n 0, 1) by decide +kernel) rfl 0 rfl ?_
  refine kb_iconst CX (v := 2) (show decode prog_6_method_1_code 13 = .ok (.iconst 2, 1) by decide +kernel) (by decide +kernel) ?_
  refine kb_newa CX (n := 2) (N := 2) (a0 := (2, .inl (fun _ => 0))) (at' := .int) (ty := .int) (c0 := cc 2) 0 (gw_in (List.mem_of_getElem? (i := 268) (by decide +kernel)) (by decide +kernel)) rfl rfl a0_int (by decide +kernel) (by decide +kernel) (by decide +kernel) (Nat.le_of_ble_eq_true rfl) (Nat.le_of_ble_eq_true rfl) (show decode prog_6_method_1_code 14 = .ok (.newarray .int, 2) by decide +kernel) (fun k4q2 => ?_)
  refine kb_putF CX hin (f := 3) (kd := 2) 0 (show decode prog_6_method_1_code 16 = .ok (.putfield 15, 3) by decide +kernel) (by decide +kernel) (by decide) rfl rfl rfl rfl (Nat.le_of_ble_eq_true rfl) ?_
  refine kb_aload CX (show decode prog_6_method_1_code 19 = .ok (.aload_n 0, 1) by decide +kernel) rfl 0 rfl ?_
  refine kb_iconst CX (v := 2) (show decode prog_6_method_1_code 20 = .ok (.iconst 2, 1) by decide +kernel) (by decide +kernel) ?_
  refine kb_newa CX (n := 2) (N := 2) (a0 := (2, .inl (fun _ => 0))) (at' := .int) (ty := .int) (c0 := cc 2) 0 (gw_in (List.mem_of_getElem? (i := 268) (by decide +kernel)) (by decide +kernel)) rfl rfl a0_int (by decide +kernel) (by decide +kernel) (by decide +kernel) (Nat.le_of_ble_eq_true rfl) (Nat.le_of_ble_eq_true rfl) (show decode prog_6_method_1_code 21 = .ok (.newarray .int, 2) by decide +kernel) (fun k4q3 => ?_)
  refine kb_putF CX hin (f := 4) (kd := 2) 0 (show decode prog_6_method_1_code 23 = .ok (.putfield 18, 3) by decide +kernel) (by decide +kernel) (by decide) rfl rfl rfl rfl (Nat.le_of_ble_eq_true rfl) ?_
  refine kb_aload CX (show decode prog_6_method_1_code 26 = .ok (.aload_n 0, 1) by decide +kernel) rfl 0 rfl ?_
  refine kb_iconst CX (v := 2) (show decode prog_6_method_1_code 27 = .ok (.iconst 2, 1) by decide +kernel) (by decide +kernel) ?_
  refine kb_newa CX (n := 2) (N := 2) (a0 := (2, .inl (fun _ => 0))) (at' := .int) (ty := .int) (c0 := cc 2) 0 (gw_in (List.mem_of_getElem? (i := 268) (by decide +kernel)) (by decide +kernel)) rfl rfl a0_int (by decide +kernel) (by decide +kernel) (by decide +kernel) (Nat.le_of_ble_eq_true rfl) (Nat.le_of_ble_eq_true rfl) (show decode prog_6_method_1_code 28 = .ok (.newarray .int, 2) by decide +kernel) (fun k4q4 => ?_)
  refine kb_putF CX hin (f := 5) (kd := 2) 0 (show decode prog_6_method_1_code 30 = .ok (.putfield 21, 3) by decide +kernel) (by decide +kernel) (by decide) rfl rfl rfl rfl (Nat.le_of_ble_eq_true rfl) ?_
  refine kb_aload CX (show decode prog_6_method_1_code 33 = .ok (.aload_n 0, 1) by decide +kernel) rfl 0 rfl ?_
  refine kb_aload CX (show decode prog_6_method_1_code 34 = .ok (.aload_n 1, 1) by decide +kernel) rfl 1 rfl ?_
  refine kb_putF CX hin (f := 0) (kd := 2) 0 (show decode prog_6_method_1_code 35 = .ok (.putfield 24, 3) by decide +kernel) (by decide +kernel) (by decide) rfl rfl rfl rfl (Nat.le_of_ble_eq_true rfl) ?_
  refine kb_aload CX (show decode prog_6_method_1_code 38 = .ok (.aload_n 0, 1) by decide +kernel) rfl 0 rfl ?_
  refine kb_aload CX (show decode prog_6_method_1_code 39 = .ok (.aload_n 2, 1) by decide +kernel) rfl 2 rfl ?_
  refine kb_putF CX hin (f := 1) (kd := 2) 0 (show decode prog_6_method_1_code 40 = .ok (.putfield 28, 3) by decide +kernel) (by decide +kernel) (by decide) rfl rfl rfl rfl (Nat.le_of_ble_eq_true rfl) ?_
  exact hEnd 43 _ (fun k => ([0, k4q1, k4q2, k4q3, k4q4] : List Nat).getD k 0) _ _ (Nat.le_of_ble_eq_true rfl) (Nat.le_of_ble_eq_true rfl) (show decode prog_6_method_1_code 43 = .ok (.return_, 1) by decide +kernel)
abbrev yK7 : MethodName := ⟨"HummingBridges$Rounds", "<init>", "(LHummingBridges$Valley;LHummingBridges$Ear;)V"⟩
abbrev rmK7 : Room := { frames := 1, cells := 2, slots := 12, locals := 12 }
abbrev eK7 : va_E := .inr (7, [.null, .null, .null, .null, .int 0])
def WfK7 (cc : Nat → ClassId) (h0 k7a1 k7a2 : Nat) (u : Nat → Nat) : va_W := [(h0, .inr (7, [.ref k7a1, .ref k7a2, .ref (u 1), .ref (u 2), .int 0])), ((u 1), .inl (cc 2, 6, .inl (fun _ => 0))), ((u 2), .inl (cc 2, 6, .inl (fun _ => 0)))]
set_option maxRecDepth 100000 in
set_option maxHeartbeats 4000000 in
theorem kM7 {l : Launch} {D : va_G} {cc : Nat → ClassId} {h0 : Nat} (k7a1 k7a2 : Nat) : ∀ sz, Met l yK7 (Cond.code yK7 prog_9_method_1_code 3 none :: gw) rmK7 (kPc D cc [.ref k7a1, .ref k7a2] h0 eK7 sz) (kQc D h0 eK7 (WfK7 cc h0 k7a1 k7a2) sz) 2 12 (va_A [(h0, eK7)] sz) := by
  refine kMet (o := 7) [(0, .ref h0), (1, .ref k7a1), (2, .ref k7a2)] (by decide) rfl rfl rfl (Nat.le_of_ble_eq_true rfl) (fun p e s m args below meth c A QQ CX hin hEnd => ?_)
  refine kb_aload CX (show decode prog_9_method_1_code 0 = .ok (.aload_n 0, 1) by decide +kernel) rfl 0 rfl ?_
  refine kb_obj CX (show decode prog_9_method_1_code 1 = .ok (.invokespecial 3, 3) by decide +kernel) (gw_in (List.mem_of_getElem? (i := 547) (by decide +kernel)) (by decide +kernel)) (gw_in (List.mem_of_getElem? (i := 158) (by decide +kernel)) (by decide +kernel)) (gw_in (List.mem_of_getElem? (i := 159) (by decide +kernel)) (by decide +kernel)) (Nat.le_of_ble_eq_true rfl) (Nat.le_of_ble_eq_true rfl) ?_
  refine kb_aload CX (show decode prog_9_method_1_code 4 = .ok (.aload_n 0, 1) by decide +kernel) rfl 0 rfl ?_
  refine kb_bipush CX (v := 6) (show decode prog_9_method_1_code 5 = .ok (.bipush 6, 2) by decide +kernel) (by decide +kernel) ?_
  refine kb_newa CX (n := 6) (N := 6) (a0 := (6, .inl (fun _ => 0))) (at' := .int) (ty := .int) (c0 := cc 2) 0 (gw_in (List.mem_of_getElem? (i := 268) (by decide +kernel)) (by decide +kernel)) rfl rfl a0_int (by decide +kernel) (by decide +kernel) (by decide +kernel) (Nat.le_of_ble_eq_true rfl) (Nat.le_of_ble_eq_true rfl) (show decode prog_9_method_1_code 7 = .ok (.newarray .int, 2) by decide +kernel) (fun k7q1 => ?_)
  refine kb_putF CX hin (f := 2) (kd := 2) 0 (show decode prog_9_method_1_code 9 = .ok (.putfield 11, 3) by decide +kernel) (by decide +kernel) (by decide) rfl rfl rfl rfl (Nat.le_of_ble_eq_true rfl) ?_
  refine kb_aload CX (show decode prog_9_method_1_code 12 = .ok (.aload_n 0, 1) by decide +kernel) rfl 0 rfl ?_
  refine kb_bipush CX (v := 6) (show decode prog_9_method_1_code 13 = .ok (.bipush 6, 2) by decide +kernel) (by decide +kernel) ?_
  refine kb_newa CX (n := 6) (N := 6) (a0 := (6, .inl (fun _ => 0))) (at' := .int) (ty := .int) (c0 := cc 2) 0 (gw_in (List.mem_of_getElem? (i := 268) (by decide +kernel)) (by decide +kernel)) rfl rfl a0_int (by decide +kernel) (by decide +kernel) (by decide +kernel) (Nat.le_of_ble_eq_true rfl) (Nat.le_of_ble_eq_true rfl) (show decode prog_9_method_1_code 15 = .ok (.newarray .int, 2) by decide +kernel) (fun k7q2 => ?_)
  refine kb_putF CX hin (f := 3) (kd := 2) 0 (show decode prog_9_method_1_code 17 = .ok (.putfield 15, 3) by decide +kernel) (by decide +kernel) (by decide) rfl rfl rfl rfl (Nat.le_of_ble_eq_true rfl) ?_
  refine kb_aload CX (show decode prog_9_method_1_code 20 = .ok (.aload_n 0, 1) by decide +kernel) rfl 0 rfl ?_
  refine kb_aload CX (show decode prog_9_method_1_code 21 = .ok (.aload_n 1, 1) by decide +kernel) rfl 1 rfl ?_
  refine kb_putF CX hin (f := 0) (kd := 2) 0 (show decode prog_9_method_1_code 22 = .ok (.putfield 18, 3) by decide +kernel) (by decide +kernel) (by decide) rfl rfl rfl rfl (Nat.le_of_ble_eq_true rfl) ?_
  refine kb_aload CX (show decode prog_9_method_1_code 25 = .ok (.aload_n 0, 1) by decide +kernel) rfl 0 rfl ?_
  refine kb_aload CX (show decode prog_9_method_1_code 26 = .ok (.aload_n 2, 1) by decide +kernel) rfl 2 rfl ?_
  refine kb_putF CX hin (f := 1) (kd := 2) 0 (show decode prog_9_method_1_code 27 = .ok (.putfield 22, 3) by decide +kernel) (by decide +kernel) (by decide) rfl rfl rfl rfl (Nat.le_of_ble_eq_true rfl) ?_
  exact hEnd 30 _ (fun k => ([0, k7q1, k7q2] : List Nat).getD k 0) _ _ (Nat.le_of_ble_eq_true rfl) (Nat.le_of_ble_eq_true rfl) (show decode prog_9_method_1_code 30 = .ok (.return_, 1) by decide +kernel)
