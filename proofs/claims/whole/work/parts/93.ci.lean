/-! ===== the small constructors ===== -/
theorem gwA_int : Cond.arrayClass (newarray.typeOf .int) ∈ gw := gwt1 (List.mem_of_getElem? (i := 136) rfl) (by decide +kernel)
theorem gwA_boolean : Cond.arrayClass (newarray.typeOf .boolean) ∈ gw := gwt1 (List.mem_of_getElem? (i := 137) rfl) (by decide +kernel)
theorem gwA_char : Cond.arrayClass (newarray.typeOf .char) ∈ gw := gwt7 (List.mem_of_getElem? (i := 133) rfl) (by decide +kernel)
theorem gwA_byte : Cond.arrayClass (newarray.typeOf .byte) ∈ gw := gwt1 (List.mem_of_getElem? (i := 228) rfl) (by decide +kernel)
theorem gwA_long : Cond.arrayClass (newarray.typeOf .long) ∈ gw := gwt9 (List.mem_of_getElem? (i := 179) rfl) (by decide +kernel)
theorem gwA_double : Cond.arrayClass (newarray.typeOf .double) ∈ gw := gwt9 (List.mem_of_getElem? (i := 180) rfl) (by decide +kernel)
theorem wd243 : Cond.methodLink RX1 3 Lib.objectInit ∈ gw := gwt1 (List.mem_of_getElem? (i := 156) rfl) (by decide +kernel)
theorem wd265 : Cond.methodLink RX4 3 Lib.objectInit ∈ gw := gwt1 (List.mem_of_getElem? (i := 178) rfl) (by decide +kernel)
theorem wd1604 : Cond.methodLink RX8 1 Lib.objectInit ∈ gw := gwt7 (List.mem_of_getElem? (i := 77) rfl) (by decide +kernel)
theorem nc_X1 (l : Launch) : NC l yX1_init (.code yX1_init cX1_init 1 none) 1 12 1 9 1 [.null] (fun V b w => ∃ q0 : Nat, w = [(b, .inr (1, [.ref q0])), (q0, .inl (V.2.1 0, (9, .inl (fun _ => 0))))]) := by
  refine nc_of (by decide) rfl (by decide) (fun X V A b hxl hC hX hi hr => ?_)
  refine nx_aload_n hC dX1_init_0 rfl 0 rfl ?_
  refine nx_init hC wd243 (by decide) (by decide) dX1_init_1 ?_
  refine nx_aload_n hC dX1_init_4 rfl 0 rfl ?_
  refine nx_bipush (v := 9) hC dX1_init_5 (by decide) ?_
  refine nx_newa (a0 := (9, .inl (fun _ => 0))) (N := 9) hC 0 rfl rfl (fun C h => by cases h) gwA_int (fun _ => rfl) (by decide) (by decide) (by decide) (by decide) (by decide) dX1_init_7 (fun q0 => ?_)
  refine nx_putF (ws := [(b, .inr (1, [.null])), (q0, .inl (V.2.1 0, (9, .inl (fun _ => 0))))]) hC hi inX1 tyX1 tyX1_ok nmX1 0 rfl rfl 0 (by decide) wd244 rfl rfl rfl rfl (Nat.le_of_ble_eq_true rfl) dX1_init_9 ?_
  exact nx_ret (ws := [(b, .inr (1, [.ref q0])), (q0, .inl (V.2.1 0, (9, .inl (fun _ => 0))))]) hC hr ⟨q0, rfl⟩ (by decide) (by decide) dX1_init_12
theorem nc_X4 (l : Launch) : NC l yX4_init (.code yX4_init cX4_init 1 none) 1 12 3 30 4 [.null, .null, .null, .int 0, .int 0] (fun V b w => ∃ q0 q1 q2 : Nat, w = [(b, .inr (4, [.ref q0, .ref q1, .ref q2, .int 0, .int 0])), (q0, .inl (V.2.1 0, (10, .inl (fun _ => 0)))), (q1, .inl (V.2.1 0, (10, .inl (fun _ => 0)))), (q2, .inl (V.2.1 0, (10, .inl (fun _ => 0))))]) := by
  refine nc_of (by decide) rfl (by decide) (fun X V A b hxl hC hX hi hr => ?_)
  refine nx_aload_n hC dX4_init_0 rfl 0 rfl ?_
  refine nx_init hC wd265 (by decide) (by decide) dX4_init_1 ?_
  refine nx_aload_n hC dX4_init_4 rfl 0 rfl ?_
  refine nx_bipush (v := 10) hC dX4_init_5 (by decide) ?_
  refine nx_newa (a0 := (10, .inl (fun _ => 0))) (N := 10) hC 0 rfl rfl (fun C h => by cases h) gwA_int (fun _ => rfl) (by decide) (by decide) (by decide) (by decide) (by decide) dX4_init_7 (fun q0 => ?_)
  refine nx_putF (ws := [(b, .inr (4, [.null, .null, .null, .int 0, .int 0])), (q0, .inl (V.2.1 0, (10, .inl (fun _ => 0))))]) hC hi inX4 tyX4 tyX4_ok nmX4 0 rfl rfl 0 (by decide) wd266 rfl rfl rfl rfl (Nat.le_of_ble_eq_true rfl) dX4_init_9 ?_
  refine nx_aload_n hC dX4_init_12 rfl 0 rfl ?_
  refine nx_bipush (v := 10) hC dX4_init_13 (by decide) ?_
  refine nx_newa (a0 := (10, .inl (fun _ => 0))) (N := 10) hC 0 rfl rfl (fun C h => by cases h) gwA_int (fun _ => rfl) (by decide) (by decide) (by decide) (by decide) (by decide) dX4_init_15 (fun q1 => ?_)
  refine nx_putF (ws := [(b, .inr (4, [.ref q0, .null, .null, .int 0, .int 0])), (q0, .inl (V.2.1 0, (10, .inl (fun _ => 0)))), (q1, .inl (V.2.1 0, (10, .inl (fun _ => 0))))]) hC hi inX4 tyX4 tyX4_ok nmX4 0 rfl rfl 1 (by decide) wd267 rfl rfl rfl rfl (Nat.le_of_ble_eq_true rfl) dX4_init_17 ?_
  refine nx_aload_n hC dX4_init_20 rfl 0 rfl ?_
  refine nx_bipush (v := 10) hC dX4_init_21 (by decide) ?_
  refine nx_newa (a0 := (10, .inl (fun _ => 0))) (N := 10) hC 0 rfl rfl (fun C h => by cases h) gwA_int (fun _ => rfl) (by decide) (by decide) (by decide) (by decide) (by decide) dX4_init_23 (fun q2 => ?_)
  refine nx_putF (ws := [(b, .inr (4, [.ref q0, .ref q1, .null, .int 0, .int 0])), (q0, .inl (V.2.1 0, (10, .inl (fun _ => 0)))), (q1, .inl (V.2.1 0, (10, .inl (fun _ => 0)))), (q2, .inl (V.2.1 0, (10, .inl (fun _ => 0))))]) hC hi inX4 tyX4 tyX4_ok nmX4 0 rfl rfl 2 (by decide) wd268 rfl rfl rfl rfl (Nat.le_of_ble_eq_true rfl) dX4_init_25 ?_
  exact nx_ret (ws := [(b, .inr (4, [.ref q0, .ref q1, .ref q2, .int 0, .int 0])), (q0, .inl (V.2.1 0, (10, .inl (fun _ => 0)))), (q1, .inl (V.2.1 0, (10, .inl (fun _ => 0)))), (q2, .inl (V.2.1 0, (10, .inl (fun _ => 0))))]) hC hr ⟨q0, q1, q2, rfl⟩ (by decide) (by decide) dX4_init_28
theorem nc_X8 (l : Launch) : NC l yX8_init (.code yX8_init cX8_init 1 none) 1 12 7 1907 7 [.int 0, .null, .null, .null, .null, .int 0, .int 0, .int 0, .null, .int 0, .null, .int 0, .int 0, .int 0, .int 0, .null, .int 0, .int 0] (fun V b w => ∃ q0 q1 q2 q3 q4 q5 q6 : Nat, w = [(b, .inr (7, [.int 0, .ref q0, .ref q1, .ref q2, .ref q3, .int 0, .int 0, .int 0, .ref q4, .int 0, .ref q5, .int 0, .int 0, .int (-1), .int (-1), .ref q6, .int 0, .int 0])), (q0, .inl (V.2.1 0, (135, .inl (fun _ => 0)))), (q1, .inl (V.2.1 0, (1080, .inl (fun _ => 0)))), (q2, .inl (V.2.1 0, (135, .inl (fun _ => 0)))), (q3, .inl (V.2.1 0, (135, .inl (fun _ => 0)))), (q4, .inl (V.2.1 2, (360, .inl (fun _ => 0)))), (q5, .inl (V.2.1 2, (60, .inl (fun _ => 0)))), (q6, .inl (V.2.1 0, (2, .inl (fun _ => 0))))]) := by
  refine nc_of (by decide) rfl (by decide) (fun X V A b hxl hC hX hi hr => ?_)
  refine nx_aload_n hC dX8_init_0 rfl 0 rfl ?_
  refine nx_init hC wd1604 (by decide) (by decide) dX8_init_1 ?_
  refine nx_aload_n hC dX8_init_4 rfl 0 rfl ?_
  refine nx_sipush (v := 135) hC dX8_init_5 (by decide) ?_
  refine nx_newa (a0 := (135, .inl (fun _ => 0))) (N := 135) hC 0 rfl rfl (fun C h => by cases h) gwA_int (fun _ => rfl) (by decide) (by decide) (by decide) (by decide) (by decide) dX8_init_8 (fun q0 => ?_)
  refine nx_putF (ws := [(b, .inr (7, [.int 0, .null, .null, .null, .null, .int 0, .int 0, .int 0, .null, .int 0, .null, .int 0, .int 0, .int 0, .int 0, .null, .int 0, .int 0])), (q0, .inl (V.2.1 0, (135, .inl (fun _ => 0))))]) hC hi inX8 tyX8 tyX8_ok nmX8 0 rfl rfl 1 (by decide) wd1606 rfl rfl rfl rfl (Nat.le_of_ble_eq_true rfl) dX8_init_10 ?_
  refine nx_aload_n hC dX8_init_13 rfl 0 rfl ?_
  refine nx_sipush (v := 1080) hC dX8_init_14 (by decide) ?_
  refine nx_newa (a0 := (1080, .inl (fun _ => 0))) (N := 1080) hC 0 rfl rfl (fun C h => by cases h) gwA_int (fun _ => rfl) (by decide) (by decide) (by decide) (by decide) (by decide) dX8_init_17 (fun q1 => ?_)
  refine nx_putF (ws := [(b, .inr (7, [.int 0, .ref q0, .null, .null, .null, .int 0, .int 0, .int 0, .null, .int 0, .null, .int 0, .int 0, .int 0, .int 0, .null, .int 0, .int 0])), (q0, .inl (V.2.1 0, (135, .inl (fun _ => 0)))), (q1, .inl (V.2.1 0, (1080, .inl (fun _ => 0))))]) hC hi inX8 tyX8 tyX8_ok nmX8 0 rfl rfl 2 (by decide) wd1607 rfl rfl rfl rfl (Nat.le_of_ble_eq_true rfl) dX8_init_19 ?_
  refine nx_aload_n hC dX8_init_22 rfl 0 rfl ?_
  refine nx_sipush (v := 135) hC dX8_init_23 (by decide) ?_
  refine nx_newa (a0 := (135, .inl (fun _ => 0))) (N := 135) hC 0 rfl rfl (fun C h => by cases h) gwA_int (fun _ => rfl) (by decide) (by decide) (by decide) (by decide) (by decide) dX8_init_26 (fun q2 => ?_)
  refine nx_putF (ws := [(b, .inr (7, [.int 0, .ref q0, .ref q1, .null, .null, .int 0, .int 0, .int 0, .null, .int 0, .null, .int 0, .int 0, .int 0, .int 0, .null, .int 0, .int 0])), (q0, .inl (V.2.1 0, (135, .inl (fun _ => 0)))), (q1, .inl (V.2.1 0, (1080, .inl (fun _ => 0)))), (q2, .inl (V.2.1 0, (135, .inl (fun _ => 0))))]) hC hi inX8 tyX8 tyX8_ok nmX8 0 rfl rfl 3 (by decide) wd1608 rfl rfl rfl rfl (Nat.le_of_ble_eq_true rfl) dX8_init_28 ?_
  refine nx_aload_n hC dX8_init_31 rfl 0 rfl ?_
  refine nx_sipush (v := 135) hC dX8_init_32 (by decide) ?_
  refine nx_newa (a0 := (135, .inl (fun _ => 0))) (N := 135) hC 0 rfl rfl (fun C h => by cases h) gwA_int (fun _ => rfl) (by decide) (by decide) (by decide) (by decide) (by decide) dX8_init_35 (fun q3 => ?_)
  refine nx_putF (ws := [(b, .inr (7, [.int 0, .ref q0, .ref q1, .ref q2, .null, .int 0, .int 0, .int 0, .null, .int 0, .null, .int 0, .int 0, .int 0, .int 0, .null, .int 0, .int 0])), (q0, .inl (V.2.1 0, (135, .inl (fun _ => 0)))), (q1, .inl (V.2.1 0, (1080, .inl (fun _ => 0)))), (q2, .inl (V.2.1 0, (135, .inl (fun _ => 0)))), (q3, .inl (V.2.1 0, (135, .inl (fun _ => 0))))]) hC hi inX8 tyX8 tyX8_ok nmX8 0 rfl rfl 4 (by decide) wd1609 rfl rfl rfl rfl (Nat.le_of_ble_eq_true rfl) dX8_init_37 ?_
  refine nx_aload_n hC dX8_init_40 rfl 0 rfl ?_
  refine nx_sipush (v := 360) hC dX8_init_41 (by decide) ?_
  refine nx_newa (a0 := (360, .inl (fun _ => 0))) (N := 360) hC 2 rfl rfl (fun C h => by cases h) gwA_char (fun _ => rfl) (by decide) (by decide) (by decide) (by decide) (by decide) dX8_init_44 (fun q4 => ?_)
  refine nx_putF (ws := [(b, .inr (7, [.int 0, .ref q0, .ref q1, .ref q2, .ref q3, .int 0, .int 0, .int 0, .null, .int 0, .null, .int 0, .int 0, .int 0, .int 0, .null, .int 0, .int 0])), (q0, .inl (V.2.1 0, (135, .inl (fun _ => 0)))), (q1, .inl (V.2.1 0, (1080, .inl (fun _ => 0)))), (q2, .inl (V.2.1 0, (135, .inl (fun _ => 0)))), (q3, .inl (V.2.1 0, (135, .inl (fun _ => 0)))), (q4, .inl (V.2.1 2, (360, .inl (fun _ => 0))))]) hC hi inX8 tyX8 tyX8_ok nmX8 0 rfl rfl 8 (by decide) wd1613 rfl rfl rfl rfl (Nat.le_of_ble_eq_true rfl) dX8_init_46 ?_
  refine nx_aload_n hC dX8_init_49 rfl 0 rfl ?_
  refine nx_bipush (v := 60) hC dX8_init_50 (by decide) ?_
  refine nx_newa (a0 := (60, .inl (fun _ => 0))) (N := 60) hC 2 rfl rfl (fun C h => by cases h) gwA_char (fun _ => rfl) (by decide) (by decide) (by decide) (by decide) (by decide) dX8_init_52 (fun q5 => ?_)
  refine nx_putF (ws := [(b, .inr (7, [.int 0, .ref q0, .ref q1, .ref q2, .ref q3, .int 0, .int 0, .int 0, .ref q4, .int 0, .null, .int 0, .int 0, .int 0, .int 0, .null, .int 0, .int 0])), (q0, .inl (V.2.1 0, (135, .inl (fun _ => 0)))), (q1, .inl (V.2.1 0, (1080, .inl (fun _ => 0)))), (q2, .inl (V.2.1 0, (135, .inl (fun _ => 0)))), (q3, .inl (V.2.1 0, (135, .inl (fun _ => 0)))), (q4, .inl (V.2.1 2, (360, .inl (fun _ => 0)))), (q5, .inl (V.2.1 2, (60, .inl (fun _ => 0))))]) hC hi inX8 tyX8 tyX8_ok nmX8 0 rfl rfl 10 (by decide) wd1615 rfl rfl rfl rfl (Nat.le_of_ble_eq_true rfl) dX8_init_54 ?_
  refine nx_aload_n hC dX8_init_57 rfl 0 rfl ?_
  refine nx_iconst (v := -1) hC dX8_init_58 (by decide) ?_
  refine nx_put (ws := [(b, .inr (7, [.int 0, .ref q0, .ref q1, .ref q2, .ref q3, .int 0, .int 0, .int 0, .ref q4, .int 0, .ref q5, .int 0, .int 0, .int 0, .int 0, .null, .int 0, .int 0])), (q0, .inl (V.2.1 0, (135, .inl (fun _ => 0)))), (q1, .inl (V.2.1 0, (1080, .inl (fun _ => 0)))), (q2, .inl (V.2.1 0, (135, .inl (fun _ => 0)))), (q3, .inl (V.2.1 0, (135, .inl (fun _ => 0)))), (q4, .inl (V.2.1 2, (360, .inl (fun _ => 0)))), (q5, .inl (V.2.1 2, (60, .inl (fun _ => 0))))]) hC inX8 tyX8 tyX8_ok nmX8 0 rfl rfl 13 (by decide) wd1618 rfl rfl rfl (Nat.le_of_ble_eq_true rfl) dX8_init_59 ?_
  refine nx_aload_n hC dX8_init_62 rfl 0 rfl ?_
  refine nx_iconst (v := -1) hC dX8_init_63 (by decide) ?_
  refine nx_put (ws := [(b, .inr (7, [.int 0, .ref q0, .ref q1, .ref q2, .ref q3, .int 0, .int 0, .int 0, .ref q4, .int 0, .ref q5, .int 0, .int 0, .int (-1), .int 0, .null, .int 0, .int 0])), (q0, .inl (V.2.1 0, (135, .inl (fun _ => 0)))), (q1, .inl (V.2.1 0, (1080, .inl (fun _ => 0)))), (q2, .inl (V.2.1 0, (135, .inl (fun _ => 0)))), (q3, .inl (V.2.1 0, (135, .inl (fun _ => 0)))), (q4, .inl (V.2.1 2, (360, .inl (fun _ => 0)))), (q5, .inl (V.2.1 2, (60, .inl (fun _ => 0))))]) hC inX8 tyX8 tyX8_ok nmX8 0 rfl rfl 14 (by decide) wd1619 rfl rfl rfl (Nat.le_of_ble_eq_true rfl) dX8_init_64 ?_
  refine nx_aload_n hC dX8_init_67 rfl 0 rfl ?_
  refine nx_iconst (v := 2) hC dX8_init_68 (by decide) ?_
  refine nx_newa (a0 := (2, .inl (fun _ => 0))) (N := 2) hC 0 rfl rfl (fun C h => by cases h) gwA_int (fun _ => rfl) (by decide) (by decide) (by decide) (by decide) (by decide) dX8_init_69 (fun q6 => ?_)
  refine nx_putF (ws := [(b, .inr (7, [.int 0, .ref q0, .ref q1, .ref q2, .ref q3, .int 0, .int 0, .int 0, .ref q4, .int 0, .ref q5, .int 0, .int 0, .int (-1), .int (-1), .null, .int 0, .int 0])), (q0, .inl (V.2.1 0, (135, .inl (fun _ => 0)))), (q1, .inl (V.2.1 0, (1080, .inl (fun _ => 0)))), (q2, .inl (V.2.1 0, (135, .inl (fun _ => 0)))), (q3, .inl (V.2.1 0, (135, .inl (fun _ => 0)))), (q4, .inl (V.2.1 2, (360, .inl (fun _ => 0)))), (q5, .inl (V.2.1 2, (60, .inl (fun _ => 0)))), (q6, .inl (V.2.1 0, (2, .inl (fun _ => 0))))]) hC hi inX8 tyX8 tyX8_ok nmX8 0 rfl rfl 15 (by decide) wd1620 rfl rfl rfl rfl (Nat.le_of_ble_eq_true rfl) dX8_init_71 ?_
  exact nx_ret (ws := [(b, .inr (7, [.int 0, .ref q0, .ref q1, .ref q2, .ref q3, .int 0, .int 0, .int 0, .ref q4, .int 0, .ref q5, .int 0, .int 0, .int (-1), .int (-1), .ref q6, .int 0, .int 0])), (q0, .inl (V.2.1 0, (135, .inl (fun _ => 0)))), (q1, .inl (V.2.1 0, (1080, .inl (fun _ => 0)))), (q2, .inl (V.2.1 0, (135, .inl (fun _ => 0)))), (q3, .inl (V.2.1 0, (135, .inl (fun _ => 0)))), (q4, .inl (V.2.1 2, (360, .inl (fun _ => 0)))), (q5, .inl (V.2.1 2, (60, .inl (fun _ => 0)))), (q6, .inl (V.2.1 0, (2, .inl (fun _ => 0))))]) hC hr ⟨q0, q1, q2, q3, q4, q5, q6, rfl⟩ (by decide) (by decide) dX8_init_74
