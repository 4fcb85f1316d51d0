/-! ===== the small constructors ===== -/
theorem gwA_int : Cond.arrayClass (newarray.typeOf .int) ∈ gw := gwt1 (List.mem_of_getElem? (i := 134) rfl) (by decide +kernel)
theorem gwA_boolean : Cond.arrayClass (newarray.typeOf .boolean) ∈ gw := gwt1 (List.mem_of_getElem? (i := 135) rfl) (by decide +kernel)
theorem gwA_byte : Cond.arrayClass (newarray.typeOf .byte) ∈ gw := gwt1 (List.mem_of_getElem? (i := 226) rfl) (by decide +kernel)
theorem wd174 : Cond.methodLink RX1 3 Lib.objectInit ∈ gw := gwt1 (List.mem_of_getElem? (i := 154) rfl) (by decide +kernel)
theorem wd196 : Cond.methodLink RX4 3 Lib.objectInit ∈ gw := gwt1 (List.mem_of_getElem? (i := 176) rfl) (by decide +kernel)
theorem nc_X1 (l : Launch) : NC l yX1_init (.code yX1_init cX1_init 1 none) 1 12 1 9 1 [.null] (fun V b w => ∃ q0 : Nat, w = [(b, .inr (1, [.ref q0])), (q0, .inl (V.2.1 0, (9, .inl (fun _ => 0))))]) := by
  refine nc_of (by decide) rfl (by decide) (fun X V A b hxl hC hX hi hr => ?_)
  refine nx_aload_n hC dX1_init_0 rfl 0 rfl ?_
  refine nx_init hC wd174 (by decide) (by decide) dX1_init_1 ?_
  refine nx_aload_n hC dX1_init_4 rfl 0 rfl ?_
  refine nx_bipush (v := 9) hC dX1_init_5 (by decide) ?_
  refine nx_newa (a0 := (9, .inl (fun _ => 0))) (N := 9) hC 0 rfl rfl (fun C h => by cases h) gwA_int (fun _ => rfl) (by decide) (by decide) (by decide) (by decide) (by decide) dX1_init_7 (fun q0 => ?_)
  refine nx_putF (ws := [(b, .inr (1, [.null])), (q0, .inl (V.2.1 0, (9, .inl (fun _ => 0))))]) hC hi inX1 tyX1 tyX1_ok nmX1 0 rfl rfl 0 (by decide) wd175 rfl rfl rfl rfl (Nat.le_of_ble_eq_true rfl) dX1_init_9 ?_
  exact nx_ret (ws := [(b, .inr (1, [.ref q0])), (q0, .inl (V.2.1 0, (9, .inl (fun _ => 0))))]) hC hr ⟨q0, rfl⟩ (by decide) (by decide) dX1_init_12
theorem nc_X4 (l : Launch) : NC l yX4_init (.code yX4_init cX4_init 1 none) 1 12 3 30 4 [.null, .null, .null, .int 0, .int 0] (fun V b w => ∃ q0 q1 q2 : Nat, w = [(b, .inr (4, [.ref q0, .ref q1, .ref q2, .int 0, .int 0])), (q0, .inl (V.2.1 0, (10, .inl (fun _ => 0)))), (q1, .inl (V.2.1 0, (10, .inl (fun _ => 0)))), (q2, .inl (V.2.1 0, (10, .inl (fun _ => 0))))]) := by
  refine nc_of (by decide) rfl (by decide) (fun X V A b hxl hC hX hi hr => ?_)
  refine nx_aload_n hC dX4_init_0 rfl 0 rfl ?_
  refine nx_init hC wd196 (by decide) (by decide) dX4_init_1 ?_
  refine nx_aload_n hC dX4_init_4 rfl 0 rfl ?_
  refine nx_bipush (v := 10) hC dX4_init_5 (by decide) ?_
  refine nx_newa (a0 := (10, .inl (fun _ => 0))) (N := 10) hC 0 rfl rfl (fun C h => by cases h) gwA_int (fun _ => rfl) (by decide) (by decide) (by decide) (by decide) (by decide) dX4_init_7 (fun q0 => ?_)
  refine nx_putF (ws := [(b, .inr (4, [.null, .null, .null, .int 0, .int 0])), (q0, .inl (V.2.1 0, (10, .inl (fun _ => 0))))]) hC hi inX4 tyX4 tyX4_ok nmX4 0 rfl rfl 0 (by decide) wd197 rfl rfl rfl rfl (Nat.le_of_ble_eq_true rfl) dX4_init_9 ?_
  refine nx_aload_n hC dX4_init_12 rfl 0 rfl ?_
  refine nx_bipush (v := 10) hC dX4_init_13 (by decide) ?_
  refine nx_newa (a0 := (10, .inl (fun _ => 0))) (N := 10) hC 0 rfl rfl (fun C h => by cases h) gwA_int (fun _ => rfl) (by decide) (by decide) (by decide) (by decide) (by decide) dX4_init_15 (fun q1 => ?_)
  refine nx_putF (ws := [(b, .inr (4, [.ref q0, .null, .null, .int 0, .int 0])), (q0, .inl (V.2.1 0, (10, .inl (fun _ => 0)))), (q1, .inl (V.2.1 0, (10, .inl (fun _ => 0))))]) hC hi inX4 tyX4 tyX4_ok nmX4 0 rfl rfl 1 (by decide) wd198 rfl rfl rfl rfl (Nat.le_of_ble_eq_true rfl) dX4_init_17 ?_
  refine nx_aload_n hC dX4_init_20 rfl 0 rfl ?_
  refine nx_bipush (v := 10) hC dX4_init_21 (by decide) ?_
  refine nx_newa (a0 := (10, .inl (fun _ => 0))) (N := 10) hC 0 rfl rfl (fun C h => by cases h) gwA_int (fun _ => rfl) (by decide) (by decide) (by decide) (by decide) (by decide) dX4_init_23 (fun q2 => ?_)
  refine nx_putF (ws := [(b, .inr (4, [.ref q0, .ref q1, .null, .int 0, .int 0])), (q0, .inl (V.2.1 0, (10, .inl (fun _ => 0)))), (q1, .inl (V.2.1 0, (10, .inl (fun _ => 0)))), (q2, .inl (V.2.1 0, (10, .inl (fun _ => 0))))]) hC hi inX4 tyX4 tyX4_ok nmX4 0 rfl rfl 2 (by decide) wd199 rfl rfl rfl rfl (Nat.le_of_ble_eq_true rfl) dX4_init_25 ?_
  exact nx_ret (ws := [(b, .inr (4, [.ref q0, .ref q1, .ref q2, .int 0, .int 0])), (q0, .inl (V.2.1 0, (10, .inl (fun _ => 0)))), (q1, .inl (V.2.1 0, (10, .inl (fun _ => 0)))), (q2, .inl (V.2.1 0, (10, .inl (fun _ => 0))))]) hC hr ⟨q0, q1, q2, rfl⟩ (by decide) (by decide) dX4_init_28
