/-! constructors, walked (made by gen_ctor.py) -/
abbrev yK9 : MethodName := ⟨"HummingBridges$Tape", "<init>", "()V"⟩
abbrev rmK9 : Room := { frames := 1, cells := 1, slots := 300, locals := 12 }
abbrev eK9 : va_E := .inr (9, [.null, .int 0, .int 0, .int 0, .int 0])
def WfK9 (cc : Nat → ClassId) (h0 : Nat) (u : Nat → Nat) : va_W := [(h0, .inr (9, [.ref (u 1), .int 0, .int 0, .int 0, .int 0])), ((u 1), .inl (cc 3, 300, .inl (fun _ => 0)))]
set_option maxRecDepth 100000 in
set_option maxHeartbeats 4000000 in
theorem kM9 {l : Launch} {D : va_G} {cc : Nat → ClassId} {h0 : Nat} : ∀ sz, Met l yK9 (Cond.code yK9 prog_11_method_1_code 1 none :: gw) rmK9 (kPc D cc [] h0 eK9 sz) (kQc D h0 eK9 (WfK9 cc h0) sz) 1 300 (va_A [(h0, eK9)] sz) := by
  refine kMet (o := 9) [(0, .ref h0)] (by decide) rfl rfl rfl (Nat.le_of_ble_eq_true rfl) (fun p e s m args below meth c A QQ CX hin hEnd => ?_)
  refine kb_aload CX (show decode prog_11_method_1_code 0 = .ok (.aload_n 0, 1) by decide +kernel) rfl 0 rfl ?_
  refine kb_obj CX (show decode prog_11_method_1_code 1 = .ok (.invokespecial 1, 3) by decide +kernel) (gw_in (List.mem_of_getElem? (i := 276) (by decide +kernel)) (by decide +kernel)) (gw_in (List.mem_of_getElem? (i := 158) (by decide +kernel)) (by decide +kernel)) (gw_in (List.mem_of_getElem? (i := 159) (by decide +kernel)) (by decide +kernel)) (Nat.le_of_ble_eq_true rfl) (Nat.le_of_ble_eq_true rfl) ?_
  refine kb_aload CX (show decode prog_11_method_1_code 4 = .ok (.aload_n 0, 1) by decide +kernel) rfl 0 rfl ?_
  refine kb_sipush CX (v := 300) (show decode prog_11_method_1_code 5 = .ok (.sipush 300, 3) by decide +kernel) (by decide +kernel) ?_
  refine kb_newa CX (n := 300) (N := 300) (a0 := (300, .inl (fun _ => 0))) (at' := .byte) (ty := .byte) (c0 := cc 3) 1 (gw_in (List.mem_of_getElem? (i := 297) (by decide +kernel)) (by decide +kernel)) rfl rfl a0_byte (by decide +kernel) (by decide +kernel) (by decide +kernel) (Nat.le_of_ble_eq_true rfl) (Nat.le_of_ble_eq_true rfl) (show decode prog_11_method_1_code 8 = .ok (.newarray .byte, 2) by decide +kernel) (fun k9q1 => ?_)
  refine kb_putF CX hin (f := 0) (kd := 2) 0 (show decode prog_11_method_1_code 10 = .ok (.putfield 9, 3) by decide +kernel) (by decide +kernel) (by decide) rfl rfl rfl rfl (Nat.le_of_ble_eq_true rfl) ?_
  exact hEnd 13 _ (fun k => ([0, k9q1] : List Nat).getD k 0) _ _ (Nat.le_of_ble_eq_true rfl) (Nat.le_of_ble_eq_true rfl) (show decode prog_11_method_1_code 13 = .ok (.return_, 1) by decide +kernel)
abbrev yK8 : MethodName := ⟨"HummingBridges$Score", "<init>", "()V"⟩
abbrev rmK8 : Room := { frames := 1, cells := 7, slots := 444, locals := 12 }
abbrev eK8 : va_E := .inr (8, [.null, .null, .null, .int 0, .null, .int 0, .null, .null, .null])
def WfK8 (cc : Nat → ClassId) (h0 : Nat) (u : Nat → Nat) : va_W := [(h0, .inr (8, [.ref (u 1), .ref (u 2), .ref (u 3), .int 0, .ref (u 4), .int 0, .ref (u 5), .ref (u 6), .ref (u 7)])), ((u 1), .inl (cc 2, 24, .inl (fun _ => 0))), ((u 2), .inl (cc 2, 24, .inl (fun _ => 0))), ((u 3), .inl (cc 2, 24, .inl (fun _ => 0))), ((u 4), .inl (cc 2, 300, .inl (fun _ => 0))), ((u 5), .inl (cc 2, 4, .inl (fun _ => 0))), ((u 6), .inl (cc 2, 4, .inl (fun _ => 0))), ((u 7), .inl (cc 2, 64, .inl (fun _ => 0)))]
set_option maxRecDepth 100000 in
set_option maxHeartbeats 4000000 in
theorem kM8 {l : Launch} {D : va_G} {cc : Nat → ClassId} {h0 : Nat} : ∀ sz, Met l yK8 (Cond.code yK8 prog_10_method_1_code 1 none :: gw) rmK8 (kPc D cc [] h0 eK8 sz) (kQc D h0 eK8 (WfK8 cc h0) sz) 7 444 (va_A [(h0, eK8)] sz) := by
  refine kMet (o := 8) [(0, .ref h0)] (by decide) rfl rfl rfl (Nat.le_of_ble_eq_true rfl) (fun p e s m args below meth c A QQ CX hin hEnd => ?_)
  refine kb_aload CX (show decode prog_10_method_1_code 0 = .ok (.aload_n 0, 1) by decide +kernel) rfl 0 rfl ?_
  refine kb_obj CX (show decode prog_10_method_1_code 1 = .ok (.invokespecial 1, 3) by decide +kernel) (gw_in (List.mem_of_getElem? (i := 568) (by decide +kernel)) (by decide +kernel)) (gw_in (List.mem_of_getElem? (i := 158) (by decide +kernel)) (by decide +kernel)) (gw_in (List.mem_of_getElem? (i := 159) (by decide +kernel)) (by decide +kernel)) (Nat.le_of_ble_eq_true rfl) (Nat.le_of_ble_eq_true rfl) ?_
  refine kb_aload CX (show decode prog_10_method_1_code 4 = .ok (.aload_n 0, 1) by decide +kernel) rfl 0 rfl ?_
  refine kb_bipush CX (v := 24) (show decode prog_10_method_1_code 5 = .ok (.bipush 24, 2) by decide +kernel) (by decide +kernel) ?_
  refine kb_newa CX (n := 24) (N := 24) (a0 := (24, .inl (fun _ => 0))) (at' := .int) (ty := .int) (c0 := cc 2) 0 (gw_in (List.mem_of_getElem? (i := 268) (by decide +kernel)) (by decide +kernel)) rfl rfl a0_int (by decide +kernel) (by decide +kernel) (by decide +kernel) (Nat.le_of_ble_eq_true rfl) (Nat.le_of_ble_eq_true rfl) (show decode prog_10_method_1_code 7 = .ok (.newarray .int, 2) by decide +kernel) (fun k8q1 => ?_)
  refine kb_putF CX hin (f := 0) (kd := 2) 0 (show decode prog_10_method_1_code 9 = .ok (.putfield 9, 3) by decide +kernel) (by decide +kernel) (by decide) rfl rfl rfl rfl (Nat.le_of_ble_eq_true rfl) ?_
  refine kb_aload CX (show decode prog_10_method_1_code 12 = .ok (.aload_n 0, 1) by decide +kernel) rfl 0 rfl ?_
  refine kb_bipush CX (v := 24) (show decode prog_10_method_1_code 13 = .ok (.bipush 24, 2) by decide +kernel) (by decide +kernel) ?_
  refine kb_newa CX (n := 24) (N := 24) (a0 := (24, .inl (fun _ => 0))) (at' := .int) (ty := .int) (c0 := cc 2) 0 (gw_in (List.mem_of_getElem? (i := 268) (by decide +kernel)) (by decide +kernel)) rfl rfl a0_int (by decide +kernel) (by decide +kernel) (by decide +kernel) (Nat.le_of_ble_eq_true rfl) (Nat.le_of_ble_eq_true rfl) (show decode prog_10_method_1_code 15 = .ok (.newarray .int, 2) by decide +kernel) (fun k8q2 => ?_)
  refine kb_putF CX hin (f := 1) (kd := 2) 0 (show decode prog_10_method_1_code 17 = .ok (.putfield 13, 3) by decide +kernel) (by decide +kernel) (by decide) rfl rfl rfl rfl (Nat.le_of_ble_eq_true rfl) ?_
  refine kb_aload CX (show decode prog_10_method_1_code 20 = .ok (.aload_n 0, 1) by decide +kernel) rfl 0 rfl ?_
  refine kb_bipush CX (v := 24) (show decode prog_10_method_1_code 21 = .ok (.bipush 24, 2) by decide +kernel) (by decide +kernel) ?_
  refine kb_newa CX (n := 24) (N := 24) (a0 := (24, .inl (fun _ => 0))) (at' := .int) (ty := .int) (c0 := cc 2) 0 (gw_in (List.mem_of_getElem? (i := 268) (by decide +kernel)) (by decide +kernel)) rfl rfl a0_int (by decide +kernel) (by decide +kernel) (by decide +kernel) (Nat.le_of_ble_eq_true rfl) (Nat.le_of_ble_eq_true rfl) (show decode prog_10_method_1_code 23 = .ok (.newarray .int, 2) by decide +kernel) (fun k8q3 => ?_)
  refine kb_putF CX hin (f := 2) (kd := 2) 0 (show decode prog_10_method_1_code 25 = .ok (.putfield 16, 3) by decide +kernel) (by decide +kernel) (by decide) rfl rfl rfl rfl (Nat.le_of_ble_eq_true rfl) ?_
  refine kb_aload CX (show decode prog_10_method_1_code 28 = .ok (.aload_n 0, 1) by decide +kernel) rfl 0 rfl ?_
  refine kb_sipush CX (v := 300) (show decode prog_10_method_1_code 29 = .ok (.sipush 300, 3) by decide +kernel) (by decide +kernel) ?_
  refine kb_newa CX (n := 300) (N := 300) (a0 := (300, .inl (fun _ => 0))) (at' := .int) (ty := .int) (c0 := cc 2) 0 (gw_in (List.mem_of_getElem? (i := 268) (by decide +kernel)) (by decide +kernel)) rfl rfl a0_int (by decide +kernel) (by decide +kernel) (by decide +kernel) (Nat.le_of_ble_eq_true rfl) (Nat.le_of_ble_eq_true rfl) (show decode prog_10_method_1_code 32 = .ok (.newarray .int, 2) by decide +kernel) (fun k8q4 => ?_)
  refine kb_putF CX hin (f := 4) (kd := 2) 0 (show decode prog_10_method_1_code 34 = .ok (.putfield 21, 3) by decide +kernel) (by decide +kernel) (by decide) rfl rfl rfl rfl (Nat.le_of_ble_eq_true rfl) ?_
  refine kb_aload CX (show decode prog_10_method_1_code 37 = .ok (.aload_n 0, 1) by decide +kernel) rfl 0 rfl ?_
  refine kb_iconst CX (v := 4) (show decode prog_10_method_1_code 38 = .ok (.iconst 4, 1) by decide +kernel) (by decide +kernel) ?_
  refine kb_newa CX (n := 4) (N := 4) (a0 := (4, .inl (fun _ => 0))) (at' := .int) (ty := .int) (c0 := cc 2) 0 (gw_in (List.mem_of_getElem? (i := 268) (by decide +kernel)) (by decide +kernel)) rfl rfl a0_int (by decide +kernel) (by decide +kernel) (by decide +kernel) (Nat.le_of_ble_eq_true rfl) (Nat.le_of_ble_eq_true rfl) (show decode prog_10_method_1_code 39 = .ok (.newarray .int, 2) by decide +kernel) (fun k8q5 => ?_)
  refine kb_putF CX hin (f := 6) (kd := 2) 0 (show decode prog_10_method_1_code 41 = .ok (.putfield 24, 3) by decide +kernel) (by decide +kernel) (by decide) rfl rfl rfl rfl (Nat.le_of_ble_eq_true rfl) ?_
  refine kb_aload CX (show decode prog_10_method_1_code 44 = .ok (.aload_n 0, 1) by decide +kernel) rfl 0 rfl ?_
  refine kb_iconst CX (v := 4) (show decode prog_10_method_1_code 45 = .ok (.iconst 4, 1) by decide +kernel) (by decide +kernel) ?_
  refine kb_newa CX (n := 4) (N := 4) (a0 := (4, .inl (fun _ => 0))) (at' := .int) (ty := .int) (c0 := cc 2) 0 (gw_in (List.mem_of_getElem? (i := 268) (by decide +kernel)) (by decide +kernel)) rfl rfl a0_int (by decide +kernel) (by decide +kernel) (by decide +kernel) (Nat.le_of_ble_eq_true rfl) (Nat.le_of_ble_eq_true rfl) (show decode prog_10_method_1_code 46 = .ok (.newarray .int, 2) by decide +kernel) (fun k8q6 => ?_)
  refine kb_putF CX hin (f := 7) (kd := 2) 0 (show decode prog_10_method_1_code 48 = .ok (.putfield 27, 3) by decide +kernel) (by decide +kernel) (by decide) rfl rfl rfl rfl (Nat.le_of_ble_eq_true rfl) ?_
  refine kb_aload CX (show decode prog_10_method_1_code 51 = .ok (.aload_n 0, 1) by decide +kernel) rfl 0 rfl ?_
  refine kb_bipush CX (v := 64) (show decode prog_10_method_1_code 52 = .ok (.bipush 64, 2) by decide +kernel) (by decide +kernel) ?_
  refine kb_newa CX (n := 64) (N := 64) (a0 := (64, .inl (fun _ => 0))) (at' := .int) (ty := .int) (c0 := cc 2) 0 (gw_in (List.mem_of_getElem? (i := 268) (by decide +kernel)) (by decide +kernel)) rfl rfl a0_int (by decide +kernel) (by decide +kernel) (by decide +kernel) (Nat.le_of_ble_eq_true rfl) (Nat.le_of_ble_eq_true rfl) (show decode prog_10_method_1_code 54 = .ok (.newarray .int, 2) by decide +kernel) (fun k8q7 => ?_)
  refine kb_putF CX hin (f := 8) (kd := 2) 0 (show decode prog_10_method_1_code 56 = .ok (.putfield 30, 3) by decide +kernel) (by decide +kernel) (by decide) rfl rfl rfl rfl (Nat.le_of_ble_eq_true rfl) ?_
  exact hEnd 59 _ (fun k => ([0, k8q1, k8q2, k8q3, k8q4, k8q5, k8q6, k8q7] : List Nat).getD k 0) _ _ (Nat.le_of_ble_eq_true rfl) (Nat.le_of_ble_eq_true rfl) (show decode prog_10_method_1_code 59 = .ok (.return_, 1) by decide +kernel)
abbrev yK6 : MethodName := ⟨"HummingBridges$Reader", "<init>", "(LHummingBridges$Tape;)V"⟩
abbrev rmK6 : Room := { frames := 1, cells := 1, slots := 64, locals := 12 }
abbrev eK6 : va_E := .inr (6, [.int 0, .int 0, .null, .null, .int 0, .int 0, .null, .int 0, .int 0, .int 0, .int 0, .int 0, .int 0])
def WfK6 (cc : Nat → ClassId) (h0 k6a1 : Nat) (u : Nat → Nat) : va_W := [(h0, .inr (6, [.int (-1), .int (-1), .ref k6a1, .null, .int 0, .int 0, .ref (u 1), .int 0, .int 0, .int 0, .int 0, .int 0, .int 0])), ((u 1), .inl (cc 2, 64, .inl (fun _ => 0)))]
set_option maxRecDepth 100000 in
set_option maxHeartbeats 4000000 in
theorem kM6 {l : Launch} {D : va_G} {cc : Nat → ClassId} {h0 : Nat} (k6a1 : Nat) : ∀ sz, Met l yK6 (Cond.code yK6 prog_8_method_1_code 2 none :: gw) rmK6 (kPc D cc [.ref k6a1] h0 eK6 sz) (kQc D h0 eK6 (WfK6 cc h0 k6a1) sz) 1 64 (va_A [(h0, eK6)] sz) := by
  refine kMet (o := 6) [(0, .ref h0), (1, .ref k6a1)] (by decide) rfl rfl rfl (Nat.le_of_ble_eq_true rfl) (fun p e s m args below meth c A QQ CX hin hEnd => ?_)
  refine kb_aload CX (show decode prog_8_method_1_code 0 = .ok (.aload_n 0, 1) by decide +kernel) rfl 0 rfl ?_
  refine kb_obj CX (show decode prog_8_method_1_code 1 = .ok (.invokespecial 3, 3) by decide +kernel) (gw_in (List.mem_of_getElem? (i := 303) (by decide +kernel)) (by decide +kernel)) (gw_in (List.mem_of_getElem? (i := 158) (by decide +kernel)) (by decide +kernel)) (gw_in (List.mem_of_getElem? (i := 159) (by decide +kernel)) (by decide +kernel)) (Nat.le_of_ble_eq_true rfl) (Nat.le_of_ble_eq_true rfl) ?_
  refine kb_aload CX (show decode prog_8_method_1_code 4 = .ok (.aload_n 0, 1) by decide +kernel) rfl 0 rfl ?_
  refine kb_iconst CX (v := (-1)) (show decode prog_8_method_1_code 5 = .ok (.iconst (-1), 1) by decide +kernel) (by decide +kernel) ?_
  refine kb_put CX (f := 0) (kd := 0) 0 (show decode prog_8_method_1_code 6 = .ok (.putfield 9, 3) by decide +kernel) (by decide +kernel) (by decide) rfl rfl rfl rfl (Nat.le_of_ble_eq_true rfl) ?_
  refine kb_aload CX (show decode prog_8_method_1_code 9 = .ok (.aload_n 0, 1) by decide +kernel) rfl 0 rfl ?_
  refine kb_iconst CX (v := (-1)) (show decode prog_8_method_1_code 10 = .ok (.iconst (-1), 1) by decide +kernel) (by decide +kernel) ?_
  refine kb_put CX (f := 1) (kd := 0) 0 (show decode prog_8_method_1_code 11 = .ok (.putfield 15, 3) by decide +kernel) (by decide +kernel) (by decide) rfl rfl rfl rfl (Nat.le_of_ble_eq_true rfl) ?_
  refine kb_aload CX (show decode prog_8_method_1_code 14 = .ok (.aload_n 0, 1) by decide +kernel) rfl 0 rfl ?_
  refine kb_bipush CX (v := 64) (show decode prog_8_method_1_code 15 = .ok (.bipush 64, 2) by decide +kernel) (by decide +kernel) ?_
  refine kb_newa CX (n := 64) (N := 64) (a0 := (64, .inl (fun _ => 0))) (at' := .int) (ty := .int) (c0 := cc 2) 0 (gw_in (List.mem_of_getElem? (i := 268) (by decide +kernel)) (by decide +kernel)) rfl rfl a0_int (by decide +kernel) (by decide +kernel) (by decide +kernel) (Nat.le_of_ble_eq_true rfl) (Nat.le_of_ble_eq_true rfl) (show decode prog_8_method_1_code 17 = .ok (.newarray .int, 2) by decide +kernel) (fun k6q1 => ?_)
  refine kb_putF CX hin (f := 6) (kd := 2) 0 (show decode prog_8_method_1_code 19 = .ok (.putfield 18, 3) by decide +kernel) (by decide +kernel) (by decide) rfl rfl rfl rfl (Nat.le_of_ble_eq_true rfl) ?_
  refine kb_aload CX (show decode prog_8_method_1_code 22 = .ok (.aload_n 0, 1) by decide +kernel) rfl 0 rfl ?_
  refine kb_aload CX (show decode prog_8_method_1_code 23 = .ok (.aload_n 1, 1) by decide +kernel) rfl 1 rfl ?_
  refine kb_putF CX hin (f := 2) (kd := 2) 0 (show decode prog_8_method_1_code 24 = .ok (.putfield 22, 3) by decide +kernel) (by decide +kernel) (by decide) rfl rfl rfl rfl (Nat.le_of_ble_eq_true rfl) ?_
  exact hEnd 27 _ (fun k => ([0, k6q1] : List Nat).getD k 0) _ _ (Nat.le_of_ble_eq_true rfl) (Nat.le_of_ble_eq_true rfl) (show decode prog_8_method_1_code 27 = .ok (.return_, 1) by decide +kernel)
