set_option maxRecDepth 100000 in
set_option maxHeartbeats 2000000 in
theorem n_X8_run (s : Mem) : Mn s (m_X8_run s) := by
  unfold m_X8_run
  refine mn_put (fun s1 => ?_)
  refine mn_bind (n_X8_readsAll s1) (fun v2 s3 => ?_)
  refine mn_if ?_ ?_
  · skip
    refine mn_bind (n_X8_copies s3) (fun v4 s5 => ?_)
    refine mn_bind (n_X8_doesAll s5) (fun v6 s7 => ?_)
    refine mn_put (fun s8 => ?_)
    refine mn_if ?_ ?_
    · skip
      refine mn_bind (n_X8_goesBack s8) (fun v9 s10 => ?_)
      refine mn_put (fun s11 => ?_)
      refine mn_bind (n_X8_fails 2 s11) (fun v12 s13 => ?_)
      exact mn_some
    · skip
      refine mn_bind (n_X8_keeps s8) (fun v14 s15 => ?_)
      exact mn_some
  · skip
    refine mn_put (fun s16 => ?_)
    refine mn_put (fun s17 => ?_)
    refine mn_bind (n_X8_fails 1 s17) (fun v18 s19 => ?_)
    exact mn_some
set_option maxRecDepth 100000 in
set_option maxHeartbeats 2000000 in
theorem sat_X8_run (l : Launch) (hl : l.stackTraces = false) (s : Mem) : Sat l yX8_run (.code yX8_run cX8_run 2 (some .int)) 37 646 (fun x => some (.int x)) [.ref 8] s (m_X8_run s) := by
  refine sat_of hl (by decide) (Nat.le_of_ble_eq_true rfl) (fun X V A adV hxl hC hE hx hr => ?_) (n_X8_run s)
  subst hxl
  show LX X V A 37 646 (nC s) (nS s) _ 0 [(0, .ref 8)] [] s _
  unfold m_X8_run
  refine lx_aload_n hC dX8_run_0 rfl 0 rfl ?_
  refine lx_iconstv (v := 0) hC dX8_run_1 rfl ?_
  refine lx_putI hC ly8 rfl 0 (by decide) rfl tyX8 tyX8_ok nmX8 rfl rfl rfl inX8 wd1605 dX8_run_2 (fun s1 => ?_)
  refine lx_aload_n hC dX8_run_5 rfl 0 rfl ?_
  refine lx_callX hC hx (sat_X8_readsAll (xl X) hl s1) (run_V (as := []) (rest := []) hC hE ly8 rfl cw_X8_readsAll ci_X8_readsAll wd2094 cs_X8_readsAll ce_X8_readsAll cd_X8_readsAll (by decide) (by decide) (Nat.le_of_ble_eq_true rfl) dX8_run_6 rfl) (fun v2 s3 _ => ?_)
  refine lx_if_ne hC 31 dX8_run_9 (by decide) ?_ ?_
  · skip
    refine lx_aload_n hC dX8_run_31 rfl 0 rfl ?_
    refine lx_callX hC hx (sat_X8_copies (xl X) hl s3) (run_V (as := []) (rest := []) hC hE ly8 rfl cw_X8_copies ci_X8_copies wd1684 cs_X8_copies ce_X8_copies cd_X8_copies (by decide) (by decide) (Nat.le_of_ble_eq_true rfl) dX8_run_32 rfl) (fun v4 s5 _ => ?_)
    refine lx_aload_n hC dX8_run_35 rfl 0 rfl ?_
    refine lx_callX hC hx (sat_X8_doesAll (xl X) hl s5) (run_V (as := []) (rest := []) hC hE ly8 rfl cw_X8_doesAll ci_X8_doesAll wd2146 cs_X8_doesAll ce_X8_doesAll cd_X8_doesAll (by decide) (by decide) (Nat.le_of_ble_eq_true rfl) dX8_run_36 rfl) (fun v6 s7 _ => ?_)
    refine lx_istore_n hC dX8_run_39 rfl (by decide) ?_
    refine lx_aload_n hC dX8_run_40 rfl 1 rfl ?_
    refine lx_iconstv (v := 0) hC dX8_run_41 rfl ?_
    refine lx_putI hC ly8 rfl 11 (by decide) rfl tyX8 tyX8_ok nmX8 rfl rfl rfl inX8 wd1616 dX8_run_42 (fun s8 => ?_)
    refine lx_iload_n hC dX8_run_45 rfl 0 rfl ?_
    refine lx_if_eq hC 58 dX8_run_46 (by decide) ?_ ?_
    · skip
      refine lx_aload_n hC dX8_run_58 rfl 1 rfl ?_
      refine lx_callX hC hx (sat_X8_goesBack (xl X) hl s8) (run_V (as := []) (rest := []) hC hE ly8 rfl cw_X8_goesBack ci_X8_goesBack wd2158 cs_X8_goesBack ce_X8_goesBack cd_X8_goesBack (by decide) (by decide) (Nat.le_of_ble_eq_true rfl) dX8_run_59 rfl) (fun v9 s10 _ => ?_)
      refine lx_aload_n hC dX8_run_62 rfl 1 rfl ?_
      refine lx_aload_n hC dX8_run_63 rfl 1 rfl ?_
      refine lx_getI hC ly8 rfl 17 (by decide) rfl inX8 wd1622 dX8_run_64 ?_
      refine lx_putI hC ly8 rfl 14 (by decide) rfl tyX8 tyX8_ok nmX8 rfl rfl rfl inX8 wd1619 dX8_run_67 (fun s11 => ?_)
      refine lx_aload_n hC dX8_run_70 rfl 1 rfl ?_
      refine lx_iconstv (v := 2) hC dX8_run_71 rfl ?_
      refine lx_callX hC hx (sat_X8_fails (xl X) hl 2 s11) (run_V (as := [.int 2]) (rest := []) hC hE ly8 rfl cw_X8_fails ci_X8_fails wd1676 cs_X8_fails ce_X8_fails cd_X8_fails (by decide) (by decide) (Nat.le_of_ble_eq_true rfl) dX8_run_72 rfl) (fun v12 s13 _ => ?_)
      exact lx_iret hC rfl hr dX8_run_75
    · skip
      refine lx_aload_n hC dX8_run_49 rfl 1 rfl ?_
      refine lx_callX hC hx (sat_X8_keeps (xl X) hl s8) (run_V (as := []) (rest := []) hC hE ly8 rfl cw_X8_keeps ci_X8_keeps wd1688 cs_X8_keeps ce_X8_keeps cd_X8_keeps (by decide) (by decide) (Nat.le_of_ble_eq_true rfl) dX8_run_50 rfl) (fun v14 s15 _ => ?_)
      refine lx_aload_n hC dX8_run_53 rfl 1 rfl ?_
      refine lx_getI hC ly8 rfl 17 (by decide) rfl inX8 wd1622 dX8_run_54 ?_
      exact lx_iret hC rfl hr dX8_run_57
  · skip
    refine lx_aload_n hC dX8_run_12 rfl 0 rfl ?_
    refine lx_aload_n hC dX8_run_13 rfl 0 rfl ?_
    refine lx_getI hC ly8 rfl 12 (by decide) rfl inX8 wd1617 dX8_run_14 ?_
    refine lx_putI hC ly8 rfl 13 (by decide) rfl tyX8 tyX8_ok nmX8 rfl rfl rfl inX8 wd1618 dX8_run_17 (fun s16 => ?_)
    refine lx_aload_n hC dX8_run_20 rfl 0 rfl ?_
    refine lx_iconstv (v := 0) hC dX8_run_21 rfl ?_
    refine lx_putI hC ly8 rfl 11 (by decide) rfl tyX8 tyX8_ok nmX8 rfl rfl rfl inX8 wd1616 dX8_run_22 (fun s17 => ?_)
    refine lx_aload_n hC dX8_run_25 rfl 0 rfl ?_
    refine lx_iconstv (v := 1) hC dX8_run_26 rfl ?_
    refine lx_callX hC hx (sat_X8_fails (xl X) hl 1 s17) (run_V (as := [.int 1]) (rest := []) hC hE ly8 rfl cw_X8_fails ci_X8_fails wd1676 cs_X8_fails ce_X8_fails cd_X8_fails (by decide) (by decide) (Nat.le_of_ble_eq_true rfl) dX8_run_27 rfl) (fun v18 s19 _ => ?_)
    exact lx_iret hC rfl hr dX8_run_30
set_option maxRecDepth 100000 in
set_option maxHeartbeats 2000000 in
theorem n_X8_errorPosition (s : Mem) : Mn s (m_X8_errorPosition s) := by
  unfold m_X8_errorPosition
  refine mn_put (fun s1 => ?_)
  refine mn_if ?_ ?_
  · skip
    exact mn_some
  · skip
    refine mn_bind (n_X8_fails 1 s1) (fun v2 s3 => ?_)
    exact mn_some
set_option maxRecDepth 100000 in
set_option maxHeartbeats 2000000 in
theorem sat_X8_errorPosition (l : Launch) (hl : l.stackTraces = false) (s : Mem) : Sat l yX8_errorPosition (.code yX8_errorPosition cX8_errorPosition 1 (some .int)) 31 521 (fun x => some (.int x)) [.ref 8] s (m_X8_errorPosition s) := by
  refine sat_of hl (by decide) (Nat.le_of_ble_eq_true rfl) (fun X V A adV hxl hC hE hx hr => ?_) (n_X8_errorPosition s)
  subst hxl
  show LX X V A 31 521 (nC s) (nS s) _ 0 [(0, .ref 8)] [] s _
  unfold m_X8_errorPosition
  refine lx_aload_n hC dX8_errorPosition_0 rfl 0 rfl ?_
  refine lx_iconstv (v := 0) hC dX8_errorPosition_1 rfl ?_
  refine lx_putI hC ly8 rfl 0 (by decide) rfl tyX8 tyX8_ok nmX8 rfl rfl rfl inX8 wd1605 dX8_errorPosition_2 (fun s1 => ?_)
  refine lx_aload_n hC dX8_errorPosition_5 rfl 0 rfl ?_
  refine lx_getI hC ly8 rfl 13 (by decide) rfl inX8 wd1618 dX8_errorPosition_6 ?_
  refine lx_if_ge hC 20 dX8_errorPosition_9 (by decide) ?_ ?_
  · skip
    refine lx_aload_n hC dX8_errorPosition_20 rfl 0 rfl ?_
    refine lx_getI hC ly8 rfl 13 (by decide) rfl inX8 wd1618 dX8_errorPosition_21 ?_
    exact lx_iret hC rfl hr dX8_errorPosition_24
  · skip
    refine lx_aload_n hC dX8_errorPosition_12 rfl 0 rfl ?_
    refine lx_iconstv (v := 1) hC dX8_errorPosition_13 rfl ?_
    refine lx_callX hC hx (sat_X8_fails (xl X) hl 1 s1) (run_V (as := [.int 1]) (rest := []) hC hE ly8 rfl cw_X8_fails ci_X8_fails wd1676 cs_X8_fails ce_X8_fails cd_X8_fails (by decide) (by decide) (Nat.le_of_ble_eq_true rfl) dX8_errorPosition_14 rfl) (fun v2 s3 _ => ?_)
    refine lx_goto hC 24 dX8_errorPosition_17 (by decide) ?_
    exact lx_iret hC rfl hr dX8_errorPosition_24
set_option maxRecDepth 100000 in
set_option maxHeartbeats 2000000 in
theorem n_X8_failedCommand (s : Mem) : Mn s (m_X8_failedCommand s) := by
  unfold m_X8_failedCommand
  refine mn_put (fun s1 => ?_)
  refine mn_if ?_ ?_
  · skip
    exact mn_some
  · skip
    refine mn_bind (n_X8_fails 1 s1) (fun v2 s3 => ?_)
    exact mn_some
set_option maxRecDepth 100000 in
set_option maxHeartbeats 2000000 in
theorem sat_X8_failedCommand (l : Launch) (hl : l.stackTraces = false) (s : Mem) : Sat l yX8_failedCommand (.code yX8_failedCommand cX8_failedCommand 1 (some .int)) 31 521 (fun x => some (.int x)) [.ref 8] s (m_X8_failedCommand s) := by
  refine sat_of hl (by decide) (Nat.le_of_ble_eq_true rfl) (fun X V A adV hxl hC hE hx hr => ?_) (n_X8_failedCommand s)
  subst hxl
  show LX X V A 31 521 (nC s) (nS s) _ 0 [(0, .ref 8)] [] s _
  unfold m_X8_failedCommand
  refine lx_aload_n hC dX8_failedCommand_0 rfl 0 rfl ?_
  refine lx_iconstv (v := 0) hC dX8_failedCommand_1 rfl ?_
  refine lx_putI hC ly8 rfl 0 (by decide) rfl tyX8 tyX8_ok nmX8 rfl rfl rfl inX8 wd1605 dX8_failedCommand_2 (fun s1 => ?_)
  refine lx_aload_n hC dX8_failedCommand_5 rfl 0 rfl ?_
  refine lx_getI hC ly8 rfl 14 (by decide) rfl inX8 wd1619 dX8_failedCommand_6 ?_
  refine lx_if_ge hC 20 dX8_failedCommand_9 (by decide) ?_ ?_
  · skip
    refine lx_aload_n hC dX8_failedCommand_20 rfl 0 rfl ?_
    refine lx_getI hC ly8 rfl 14 (by decide) rfl inX8 wd1619 dX8_failedCommand_21 ?_
    exact lx_iret hC rfl hr dX8_failedCommand_24
  · skip
    refine lx_aload_n hC dX8_failedCommand_12 rfl 0 rfl ?_
    refine lx_iconstv (v := 1) hC dX8_failedCommand_13 rfl ?_
    refine lx_callX hC hx (sat_X8_fails (xl X) hl 1 s1) (run_V (as := [.int 1]) (rest := []) hC hE ly8 rfl cw_X8_fails ci_X8_fails wd1676 cs_X8_fails ce_X8_fails cd_X8_fails (by decide) (by decide) (Nat.le_of_ble_eq_true rfl) dX8_failedCommand_14 rfl) (fun v2 s3 _ => ?_)
    refine lx_goto hC 24 dX8_failedCommand_17 (by decide) ?_
    exact lx_iret hC rfl hr dX8_failedCommand_24
set_option maxRecDepth 100000 in
set_option maxHeartbeats 2000000 in
theorem n_X8_undoableCount (s : Mem) : Mn s (m_X8_undoableCount s) := by
  unfold m_X8_undoableCount
  refine mn_put (fun s1 => ?_)
  exact mn_some
set_option maxRecDepth 100000 in
set_option maxHeartbeats 2000000 in
theorem sat_X8_undoableCount (l : Launch) (hl : l.stackTraces = false) (s : Mem) : Sat l yX8_undoableCount (.code yX8_undoableCount cX8_undoableCount 1 (some .int)) 30 500 (fun x => some (.int x)) [.ref 8] s (m_X8_undoableCount s) := by
  refine sat_of hl (by decide) (Nat.le_of_ble_eq_true rfl) (fun X V A adV hxl hC hE hx hr => ?_) (n_X8_undoableCount s)
  subst hxl
  show LX X V A 30 500 (nC s) (nS s) _ 0 [(0, .ref 8)] [] s _
  unfold m_X8_undoableCount
  refine lx_aload_n hC dX8_undoableCount_0 rfl 0 rfl ?_
  refine lx_iconstv (v := 0) hC dX8_undoableCount_1 rfl ?_
  refine lx_putI hC ly8 rfl 0 (by decide) rfl tyX8 tyX8_ok nmX8 rfl rfl rfl inX8 wd1605 dX8_undoableCount_2 (fun s1 => ?_)
  refine lx_aload_n hC dX8_undoableCount_5 rfl 0 rfl ?_
  refine lx_getI hC ly8 rfl 5 (by decide) rfl inX8 wd1610 dX8_undoableCount_6 ?_
  exact lx_iret hC rfl hr dX8_undoableCount_9
set_option maxRecDepth 100000 in
set_option maxHeartbeats 2000000 in
theorem l_X8_undo_b43 {X : Cx} {V : Vx} {A : Nat → Prop} {adV : Nat → Nat} {c0 s0 : Nat} (hC : Cok X V A yX8_undo.cls cX8_undo 3) (hE : Env0 V adV A (xs X) (xs X).heap) (hl : (xl X).stackTraces = false) (hx : ∀ x ∈ (xc X).exceptionTable.toList, False) (hr : (xh X).sig.returnType = some .int) (x4 : Int32) (s : Mem) (kf43 : (Int32 × Mem) → Res Int32) (hk43 : ∀ a, LX X V A 31 521 c0 s0 (FM X V A (fun x => some (.int x))) 43 [(0, .ref 8), (1, .int x4), (2, .int a.1)] [] a.2 (kf43 a)) (w2 : Int32) : LX X V A 31 521 c0 s0 (FM X V A (fun x => some (.int x))) 43 [(0, .ref 8), (1, .int x4), (2, .int w2)] [] s (m_X8_undo_b43 x4 s kf43 w2 ) := by
  unfold m_X8_undo_b43
  refine lx_iload_n hC dX8_undo_43 rfl 2 rfl ?_
  refine lx_sipush (v := 135) hC dX8_undo_44 (by decide) ?_
  refine lx_icmp_ge hC 74 dX8_undo_47 (by decide) ?_ ?_
  · skip
    refine lx_aload_n hC dX8_undo_74 rfl 0 rfl ?_
    refine lx_getI hC ly8 rfl 5 (by decide) rfl inX8 wd1610 dX8_undo_75 ?_
    exact lx_iret hC rfl hr dX8_undo_78
  · skip
    refine lx_aload_n hC dX8_undo_50 rfl 0 rfl ?_
    refine lx_getR (q := 136) hC ly8 rfl 1 (by decide) rfl rfl inX8 wd1606 dX8_undo_51 ?_
    refine lx_iload_n hC dX8_undo_54 rfl 2 rfl ?_
    refine lx_aload_n hC dX8_undo_55 rfl 0 rfl ?_
    refine lx_getR (q := 200) hC ly8 rfl 2 (by decide) rfl rfl inX8 wd1607 dX8_undo_56 ?_
    refine lx_sipush (v := 135) hC dX8_undo_59 (by decide) ?_
    refine lx_iload_n hC dX8_undo_62 rfl 1 rfl ?_
    refine lx_imul hC dX8_undo_63 ?_
    refine lx_iload_n hC dX8_undo_64 rfl 2 rfl ?_
    refine lx_iadd hC dX8_undo_65 ?_
    refine lx_iaload hC ly200 dX8_undo_66 ?_
    refine lx_iastore hC ly136 dX8_undo_67 (fun s5 => ?_)
    refine lx_iincN (v := 1) hC dX8_undo_68 2 rfl (by decide) rfl (fun y6 => ?_)
    refine lx_goto hC 43 dX8_undo_71 (by decide) ?_
    exact lx_sub [1, 2, 0] rfl (hk43 (y6, s5))
set_option maxRecDepth 100000 in
set_option maxHeartbeats 2000000 in
theorem n_X8_undo_b43 (x4 : Int32) (s : Mem) (kf43 : (Int32 × Mem) → Res Int32) (hm43 : ∀ a, Mn a.2 (kf43 a)) (w2 : Int32) : Mn s (m_X8_undo_b43 x4 s kf43 w2 ) := by
  unfold m_X8_undo_b43
  refine mn_if ?_ ?_
  · skip
    exact mn_some
  · skip
    refine mn_if ?_ mn_none
    refine mn_if ?_ mn_none
    refine mn_put (fun s5 => ?_)
    refine mn_vl (fun y6 => ?_)
    exact hm43 (y6, s5)
set_option maxRecDepth 100000 in
set_option maxHeartbeats 2000000 in
theorem n_X8_undo (s : Mem) : Mn s (m_X8_undo s) := by
  unfold m_X8_undo
  refine mn_put (fun s1 => ?_)
  refine mn_if ?_ ?_
  · skip
    refine mn_put (fun s2 => ?_)
    refine mn_vl (fun y3 => ?_)
    exact mn_lp (sg := fun a => a.2) (fun kf hq a => n_X8_undo_b43 y3 a.2 kf hq a.1) FUEL (0, s2)
  · skip
    refine mn_bind (n_X8_fails 1 s1) (fun v7 s8 => ?_)
    exact mn_some
set_option maxRecDepth 100000 in
set_option maxHeartbeats 2000000 in
theorem sat_X8_undo (l : Launch) (hl : l.stackTraces = false) (s : Mem) : Sat l yX8_undo (.code yX8_undo cX8_undo 3 (some .int)) 31 521 (fun x => some (.int x)) [.ref 8] s (m_X8_undo s) := by
  refine sat_of hl (by decide) (Nat.le_of_ble_eq_true rfl) (fun X V A adV hxl hC hE hx hr => ?_) (n_X8_undo s)
  subst hxl
  show LX X V A 31 521 (nC s) (nS s) _ 0 [(0, .ref 8)] [] s _
  unfold m_X8_undo
  refine lx_aload_n hC dX8_undo_0 rfl 0 rfl ?_
  refine lx_iconstv (v := 0) hC dX8_undo_1 rfl ?_
  refine lx_putI hC ly8 rfl 0 (by decide) rfl tyX8 tyX8_ok nmX8 rfl rfl rfl inX8 wd1605 dX8_undo_2 (fun s1 => ?_)
  refine lx_aload_n hC dX8_undo_5 rfl 0 rfl ?_
  refine lx_getI hC ly8 rfl 5 (by decide) rfl inX8 wd1610 dX8_undo_6 ?_
  refine lx_if_ne hC 18 dX8_undo_9 (by decide) ?_ ?_
  · skip
    refine lx_aload_n hC dX8_undo_18 rfl 0 rfl ?_
    refine lx_dup_ref hC dX8_undo_19 ?_
    refine lx_getI hC ly8 rfl 5 (by decide) rfl inX8 wd1610 dX8_undo_20 ?_
    refine lx_iconstv (v := 1) hC dX8_undo_23 rfl ?_
    refine lx_isub hC dX8_undo_24 ?_
    refine lx_putI hC ly8 rfl 5 (by decide) rfl tyX8 tyX8_ok nmX8 rfl rfl rfl inX8 wd1610 dX8_undo_25 (fun s2 => ?_)
    refine lx_aload_n hC dX8_undo_28 rfl 0 rfl ?_
    refine lx_getI hC ly8 rfl 6 (by decide) rfl inX8 wd1611 dX8_undo_29 ?_
    refine lx_aload_n hC dX8_undo_32 rfl 0 rfl ?_
    refine lx_getI hC ly8 rfl 5 (by decide) rfl inX8 wd1610 dX8_undo_33 ?_
    refine lx_iadd hC dX8_undo_36 ?_
    refine lx_bipush (v := 8) hC dX8_undo_37 (by decide) ?_
    refine lx_irem hC dX8_undo_39 (by decide) ?_
    refine lx_istore_nN hC dX8_undo_40 rfl (by decide) (fun y3 => ?_)
    refine lx_iconstv (v := 0) hC dX8_undo_41 rfl ?_
    refine lx_istore_n hC dX8_undo_42 rfl (by decide) ?_
    refine lx_sub [2, 1, 0] rfl ?_
    exact lx_lp (lv := fun a => [(0, .ref 8), (1, .int y3), (2, .int a.1)]) (st := fun _ => []) (sg := fun a => a.2) (fun kf hq a => l_X8_undo_b43 hC hE hl hx hr y3 a.2 kf hq a.1) FUEL (0, s2)
  · skip
    refine lx_aload_n hC dX8_undo_12 rfl 0 rfl ?_
    refine lx_iconstv (v := 1) hC dX8_undo_13 rfl ?_
    refine lx_callX hC hx (sat_X8_fails (xl X) hl 1 s1) (run_V (as := [.int 1]) (rest := []) hC hE ly8 rfl cw_X8_fails ci_X8_fails wd1676 cs_X8_fails ce_X8_fails cd_X8_fails (by decide) (by decide) (Nat.le_of_ble_eq_true rfl) dX8_undo_14 rfl) (fun v7 s8 _ => ?_)
    exact lx_iret hC rfl hr dX8_undo_17
set_option maxRecDepth 100000 in
set_option maxHeartbeats 2000000 in
theorem l_X8_save_b7 {X : Cx} {V : Vx} {A : Nat → Prop} {adV : Nat → Nat} {c0 s0 : Nat} (hC : Cok X V A yX8_save.cls cX8_save 2) (hE : Env0 V adV A (xs X) (xs X).heap) (hl : (xl X).stackTraces = false) (hx : ∀ x ∈ (xc X).exceptionTable.toList, False) (hr : (xh X).sig.returnType = some .int) (s : Mem) (kf7 : (Int32 × Mem) → Res Int32) (hk7 : ∀ a, LX X V A 30 500 c0 s0 (FM X V A (fun x => some (.int x))) 7 [(0, .ref 8), (1, .int a.1)] [] a.2 (kf7 a)) (w1 : Int32) : LX X V A 30 500 c0 s0 (FM X V A (fun x => some (.int x))) 7 [(0, .ref 8), (1, .int w1)] [] s (m_X8_save_b7 s kf7 w1 ) := by
  unfold m_X8_save_b7
  refine lx_iload_n hC dX8_save_7 rfl 1 rfl ?_
  refine lx_sipush (v := 135) hC dX8_save_8 (by decide) ?_
  refine lx_icmp_ge hC 32 dX8_save_11 (by decide) ?_ ?_
  · skip
    refine lx_aload_n hC dX8_save_32 rfl 0 rfl ?_
    refine lx_iconstv (v := 1) hC dX8_save_33 rfl ?_
    refine lx_putI hC ly8 rfl 7 (by decide) rfl tyX8 tyX8_ok nmX8 rfl rfl rfl inX8 wd1612 dX8_save_34 (fun s2 => ?_)
    refine lx_aload_n hC dX8_save_37 rfl 0 rfl ?_
    refine lx_getR (q := 136) hC ly8 rfl 1 (by decide) rfl rfl inX8 wd1606 dX8_save_38 ?_
    refine lx_iconstv (v := 1) hC dX8_save_41 rfl ?_
    refine lx_iaload hC ly136 dX8_save_42 ?_
    exact lx_iret hC rfl hr dX8_save_43
  · skip
    refine lx_aload_n hC dX8_save_14 rfl 0 rfl ?_
    refine lx_getR (q := 264) hC ly8 rfl 3 (by decide) rfl rfl inX8 wd1608 dX8_save_15 ?_
    refine lx_iload_n hC dX8_save_18 rfl 1 rfl ?_
    refine lx_aload_n hC dX8_save_19 rfl 0 rfl ?_
    refine lx_getR (q := 136) hC ly8 rfl 1 (by decide) rfl rfl inX8 wd1606 dX8_save_20 ?_
    refine lx_iload_n hC dX8_save_23 rfl 1 rfl ?_
    refine lx_iaload hC ly136 dX8_save_24 ?_
    refine lx_iastore hC ly264 dX8_save_25 (fun s3 => ?_)
    refine lx_iincN (v := 1) hC dX8_save_26 1 rfl (by decide) rfl (fun y4 => ?_)
    refine lx_goto hC 7 dX8_save_29 (by decide) ?_
    exact lx_sub [1, 0] rfl (hk7 (y4, s3))
set_option maxRecDepth 100000 in
set_option maxHeartbeats 2000000 in
theorem n_X8_save_b7 (s : Mem) (kf7 : (Int32 × Mem) → Res Int32) (hm7 : ∀ a, Mn a.2 (kf7 a)) (w1 : Int32) : Mn s (m_X8_save_b7 s kf7 w1 ) := by
  unfold m_X8_save_b7
  refine mn_if ?_ ?_
  · skip
    refine mn_put (fun s2 => ?_)
    refine mn_if ?_ mn_none
    exact mn_some
  · skip
    refine mn_if ?_ mn_none
    refine mn_if ?_ mn_none
    refine mn_put (fun s3 => ?_)
    refine mn_vl (fun y4 => ?_)
    exact hm7 (y4, s3)
set_option maxRecDepth 100000 in
set_option maxHeartbeats 2000000 in
theorem n_X8_save (s : Mem) : Mn s (m_X8_save s) := by
  unfold m_X8_save
  refine mn_put (fun s1 => ?_)
  exact mn_lp (sg := fun a => a.2) (fun kf hq a => n_X8_save_b7 a.2 kf hq a.1) FUEL (0, s1)
set_option maxRecDepth 100000 in
set_option maxHeartbeats 2000000 in
theorem sat_X8_save (l : Launch) (hl : l.stackTraces = false) (s : Mem) : Sat l yX8_save (.code yX8_save cX8_save 2 (some .int)) 30 500 (fun x => some (.int x)) [.ref 8] s (m_X8_save s) := by
  refine sat_of hl (by decide) (Nat.le_of_ble_eq_true rfl) (fun X V A adV hxl hC hE hx hr => ?_) (n_X8_save s)
  subst hxl
  show LX X V A 30 500 (nC s) (nS s) _ 0 [(0, .ref 8)] [] s _
  unfold m_X8_save
  refine lx_aload_n hC dX8_save_0 rfl 0 rfl ?_
  refine lx_iconstv (v := 0) hC dX8_save_1 rfl ?_
  refine lx_putI hC ly8 rfl 0 (by decide) rfl tyX8 tyX8_ok nmX8 rfl rfl rfl inX8 wd1605 dX8_save_2 (fun s1 => ?_)
  refine lx_iconstv (v := 0) hC dX8_save_5 rfl ?_
  refine lx_istore_n hC dX8_save_6 rfl (by decide) ?_
  refine lx_sub [1, 0] rfl ?_
  exact lx_lp (lv := fun a => [(0, .ref 8), (1, .int a.1)]) (st := fun _ => []) (sg := fun a => a.2) (fun kf hq a => l_X8_save_b7 hC hE hl hx hr a.2 kf hq a.1) FUEL (0, s1)
set_option maxRecDepth 100000 in
set_option maxHeartbeats 2000000 in
theorem l_X8_restore_b20 {X : Cx} {V : Vx} {A : Nat → Prop} {adV : Nat → Nat} {c0 s0 : Nat} (hC : Cok X V A yX8_restore.cls cX8_restore 2) (hE : Env0 V adV A (xs X) (xs X).heap) (hl : (xl X).stackTraces = false) (hx : ∀ x ∈ (xc X).exceptionTable.toList, False) (hr : (xh X).sig.returnType = some .int) (s : Mem) (kf20 : (Int32 × Mem) → Res Int32) (hk20 : ∀ a, LX X V A 31 521 c0 s0 (FM X V A (fun x => some (.int x))) 20 [(0, .ref 8), (1, .int a.1)] [] a.2 (kf20 a)) (w1 : Int32) : LX X V A 31 521 c0 s0 (FM X V A (fun x => some (.int x))) 20 [(0, .ref 8), (1, .int w1)] [] s (m_X8_restore_b20 s kf20 w1 ) := by
  unfold m_X8_restore_b20
  refine lx_iload_n hC dX8_restore_20 rfl 1 rfl ?_
  refine lx_sipush (v := 135) hC dX8_restore_21 (by decide) ?_
  refine lx_icmp_ge hC 45 dX8_restore_24 (by decide) ?_ ?_
  · skip
    refine lx_aload_n hC dX8_restore_45 rfl 0 rfl ?_
    refine lx_iconstv (v := 0) hC dX8_restore_46 rfl ?_
    refine lx_putI hC ly8 rfl 5 (by decide) rfl tyX8 tyX8_ok nmX8 rfl rfl rfl inX8 wd1610 dX8_restore_47 (fun s2 => ?_)
    refine lx_aload_n hC dX8_restore_50 rfl 0 rfl ?_
    refine lx_iconstv (v := 0) hC dX8_restore_51 rfl ?_
    refine lx_putI hC ly8 rfl 6 (by decide) rfl tyX8 tyX8_ok nmX8 rfl rfl rfl inX8 wd1611 dX8_restore_52 (fun s3 => ?_)
    refine lx_aload_n hC dX8_restore_55 rfl 0 rfl ?_
    refine lx_getR (q := 136) hC ly8 rfl 1 (by decide) rfl rfl inX8 wd1606 dX8_restore_56 ?_
    refine lx_iconstv (v := 1) hC dX8_restore_59 rfl ?_
    refine lx_iaload hC ly136 dX8_restore_60 ?_
    exact lx_iret hC rfl hr dX8_restore_61
  · skip
    refine lx_aload_n hC dX8_restore_27 rfl 0 rfl ?_
    refine lx_getR (q := 136) hC ly8 rfl 1 (by decide) rfl rfl inX8 wd1606 dX8_restore_28 ?_
    refine lx_iload_n hC dX8_restore_31 rfl 1 rfl ?_
    refine lx_aload_n hC dX8_restore_32 rfl 0 rfl ?_
    refine lx_getR (q := 264) hC ly8 rfl 3 (by decide) rfl rfl inX8 wd1608 dX8_restore_33 ?_
    refine lx_iload_n hC dX8_restore_36 rfl 1 rfl ?_
    refine lx_iaload hC ly264 dX8_restore_37 ?_
    refine lx_iastore hC ly136 dX8_restore_38 (fun s4 => ?_)
    refine lx_iincN (v := 1) hC dX8_restore_39 1 rfl (by decide) rfl (fun y5 => ?_)
    refine lx_goto hC 20 dX8_restore_42 (by decide) ?_
    exact lx_sub [1, 0] rfl (hk20 (y5, s4))
set_option maxRecDepth 100000 in
set_option maxHeartbeats 2000000 in
theorem n_X8_restore_b20 (s : Mem) (kf20 : (Int32 × Mem) → Res Int32) (hm20 : ∀ a, Mn a.2 (kf20 a)) (w1 : Int32) : Mn s (m_X8_restore_b20 s kf20 w1 ) := by
  unfold m_X8_restore_b20
  refine mn_if ?_ ?_
  · skip
    refine mn_put (fun s2 => ?_)
    refine mn_put (fun s3 => ?_)
    refine mn_if ?_ mn_none
    exact mn_some
  · skip
    refine mn_if ?_ mn_none
    refine mn_if ?_ mn_none
    refine mn_put (fun s4 => ?_)
    refine mn_vl (fun y5 => ?_)
    exact hm20 (y5, s4)
set_option maxRecDepth 100000 in
set_option maxHeartbeats 2000000 in
theorem n_X8_restore (s : Mem) : Mn s (m_X8_restore s) := by
  unfold m_X8_restore
  refine mn_put (fun s1 => ?_)
  refine mn_if ?_ ?_
  · skip
    exact mn_lp (sg := fun a => a.2) (fun kf hq a => n_X8_restore_b20 a.2 kf hq a.1) FUEL (0, s1)
  · skip
    refine mn_bind (n_X8_fails 1 s1) (fun v6 s7 => ?_)
    exact mn_some
set_option maxRecDepth 100000 in
set_option maxHeartbeats 2000000 in
theorem sat_X8_restore (l : Launch) (hl : l.stackTraces = false) (s : Mem) : Sat l yX8_restore (.code yX8_restore cX8_restore 2 (some .int)) 31 521 (fun x => some (.int x)) [.ref 8] s (m_X8_restore s) := by
  refine sat_of hl (by decide) (Nat.le_of_ble_eq_true rfl) (fun X V A adV hxl hC hE hx hr => ?_) (n_X8_restore s)
  subst hxl
  show LX X V A 31 521 (nC s) (nS s) _ 0 [(0, .ref 8)] [] s _
  unfold m_X8_restore
  refine lx_aload_n hC dX8_restore_0 rfl 0 rfl ?_
  refine lx_iconstv (v := 0) hC dX8_restore_1 rfl ?_
  refine lx_putI hC ly8 rfl 0 (by decide) rfl tyX8 tyX8_ok nmX8 rfl rfl rfl inX8 wd1605 dX8_restore_2 (fun s1 => ?_)
  refine lx_aload_n hC dX8_restore_5 rfl 0 rfl ?_
  refine lx_getI hC ly8 rfl 7 (by decide) rfl inX8 wd1612 dX8_restore_6 ?_
  refine lx_if_ne hC 18 dX8_restore_9 (by decide) ?_ ?_
  · skip
    refine lx_iconstv (v := 0) hC dX8_restore_18 rfl ?_
    refine lx_istore_n hC dX8_restore_19 rfl (by decide) ?_
    refine lx_sub [1, 0] rfl ?_
    exact lx_lp (lv := fun a => [(0, .ref 8), (1, .int a.1)]) (st := fun _ => []) (sg := fun a => a.2) (fun kf hq a => l_X8_restore_b20 hC hE hl hx hr a.2 kf hq a.1) FUEL (0, s1)
  · skip
    refine lx_aload_n hC dX8_restore_12 rfl 0 rfl ?_
    refine lx_iconstv (v := 1) hC dX8_restore_13 rfl ?_
    refine lx_callX hC hx (sat_X8_fails (xl X) hl 1 s1) (run_V (as := [.int 1]) (rest := []) hC hE ly8 rfl cw_X8_fails ci_X8_fails wd1676 cs_X8_fails ce_X8_fails cd_X8_fails (by decide) (by decide) (Nat.le_of_ble_eq_true rfl) dX8_restore_14 rfl) (fun v6 s7 _ => ?_)
    exact lx_iret hC rfl hr dX8_restore_17
