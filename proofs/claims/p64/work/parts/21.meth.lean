set_option maxRecDepth 100000 in
set_option maxHeartbeats 2000000 in
theorem n_X7_move (p0 : Int32) (p1 : Int32) (s : Mem) : Mn s (m_X7_move p0 p1 s) := by
  unfold m_X7_move
  refine mn_bind (n_X7_change 4 p0 p1 s) (fun v1 s2 => ?_)
  exact mn_some
set_option maxRecDepth 100000 in
set_option maxHeartbeats 2000000 in
theorem sat_X7_move (l : Launch) (hl : l.stackTraces = false) (p0 : Int32) (p1 : Int32) (s : Mem) : Sat l yX7_move (.code yX7_move cX7_move 3 (some .int)) 36 639 (fun x => some (.int x)) [.ref 0, .int p0, .int p1] s (m_X7_move p0 p1 s) := by
  refine sat_of hl (by decide) (Nat.le_of_ble_eq_true rfl) (fun X V A adV hxl hC hE hx hr => ?_) (n_X7_move p0 p1 s)
  subst hxl
  show LX X V A 36 639 (nC s) (nS s) _ 0 [(0, .ref 0), (1, .int p0), (2, .int p1)] [] s _
  unfold m_X7_move
  refine lx_aload_n hC dX7_move_0 rfl 0 rfl ?_
  refine lx_iconstv (v := 4) hC dX7_move_1 rfl ?_
  refine lx_iload_n hC dX7_move_2 rfl 1 rfl ?_
  refine lx_iload_n hC dX7_move_3 rfl 2 rfl ?_
  refine lx_callX hC hx (sat_X7_change (xl X) hl 4 p0 p1 s) (run_V (as := [.int 4, .int p0, .int p1]) (rest := []) hC hE ly0 rfl cw_X7_change ci_X7_change wd311 cs_X7_change ce_X7_change cd_X7_change (by decide) (by decide) (Nat.le_of_ble_eq_true rfl) dX7_move_4 rfl) (fun v1 s2 _ => ?_)
  exact lx_iret hC rfl hr dX7_move_7
set_option maxRecDepth 100000 in
set_option maxHeartbeats 2000000 in
theorem n_X7_remove (p0 : Int32) (s : Mem) : Mn s (m_X7_remove p0 s) := by
  unfold m_X7_remove
  refine mn_bind (n_X7_change 5 p0 0 s) (fun v1 s2 => ?_)
  exact mn_some
set_option maxRecDepth 100000 in
set_option maxHeartbeats 2000000 in
theorem sat_X7_remove (l : Launch) (hl : l.stackTraces = false) (p0 : Int32) (s : Mem) : Sat l yX7_remove (.code yX7_remove cX7_remove 2 (some .int)) 36 639 (fun x => some (.int x)) [.ref 0, .int p0] s (m_X7_remove p0 s) := by
  refine sat_of hl (by decide) (Nat.le_of_ble_eq_true rfl) (fun X V A adV hxl hC hE hx hr => ?_) (n_X7_remove p0 s)
  subst hxl
  show LX X V A 36 639 (nC s) (nS s) _ 0 [(0, .ref 0), (1, .int p0)] [] s _
  unfold m_X7_remove
  refine lx_aload_n hC dX7_remove_0 rfl 0 rfl ?_
  refine lx_iconstv (v := 5) hC dX7_remove_1 rfl ?_
  refine lx_iload_n hC dX7_remove_2 rfl 1 rfl ?_
  refine lx_iconstv (v := 0) hC dX7_remove_3 rfl ?_
  refine lx_callX hC hx (sat_X7_change (xl X) hl 5 p0 0 s) (run_V (as := [.int 5, .int p0, .int 0]) (rest := []) hC hE ly0 rfl cw_X7_change ci_X7_change wd311 cs_X7_change ce_X7_change cd_X7_change (by decide) (by decide) (Nat.le_of_ble_eq_true rfl) dX7_remove_4 rfl) (fun v1 s2 _ => ?_)
  exact lx_iret hC rfl hr dX7_remove_7
set_option maxRecDepth 100000 in
set_option maxHeartbeats 2000000 in
theorem n_X7_setHeir (p0 : Int32) (p1 : Int32) (s : Mem) : Mn s (m_X7_setHeir p0 p1 s) := by
  unfold m_X7_setHeir
  refine mn_bind (n_X7_change 6 p0 p1 s) (fun v1 s2 => ?_)
  exact mn_some
set_option maxRecDepth 100000 in
set_option maxHeartbeats 2000000 in
theorem sat_X7_setHeir (l : Launch) (hl : l.stackTraces = false) (p0 : Int32) (p1 : Int32) (s : Mem) : Sat l yX7_setHeir (.code yX7_setHeir cX7_setHeir 3 (some .int)) 36 639 (fun x => some (.int x)) [.ref 0, .int p0, .int p1] s (m_X7_setHeir p0 p1 s) := by
  refine sat_of hl (by decide) (Nat.le_of_ble_eq_true rfl) (fun X V A adV hxl hC hE hx hr => ?_) (n_X7_setHeir p0 p1 s)
  subst hxl
  show LX X V A 36 639 (nC s) (nS s) _ 0 [(0, .ref 0), (1, .int p0), (2, .int p1)] [] s _
  unfold m_X7_setHeir
  refine lx_aload_n hC dX7_setHeir_0 rfl 0 rfl ?_
  refine lx_bipush (v := 6) hC dX7_setHeir_1 (by decide) ?_
  refine lx_iload_n hC dX7_setHeir_3 rfl 1 rfl ?_
  refine lx_iload_n hC dX7_setHeir_4 rfl 2 rfl ?_
  refine lx_callX hC hx (sat_X7_change (xl X) hl 6 p0 p1 s) (run_V (as := [.int 6, .int p0, .int p1]) (rest := []) hC hE ly0 rfl cw_X7_change ci_X7_change wd311 cs_X7_change ce_X7_change cd_X7_change (by decide) (by decide) (Nat.le_of_ble_eq_true rfl) dX7_setHeir_5 rfl) (fun v1 s2 _ => ?_)
  exact lx_iret hC rfl hr dX7_setHeir_8
set_option maxRecDepth 100000 in
set_option maxHeartbeats 2000000 in
theorem n_X7_clearHeir (p0 : Int32) (s : Mem) : Mn s (m_X7_clearHeir p0 s) := by
  unfold m_X7_clearHeir
  refine mn_bind (n_X7_change 7 p0 0 s) (fun v1 s2 => ?_)
  exact mn_some
set_option maxRecDepth 100000 in
set_option maxHeartbeats 2000000 in
theorem sat_X7_clearHeir (l : Launch) (hl : l.stackTraces = false) (p0 : Int32) (s : Mem) : Sat l yX7_clearHeir (.code yX7_clearHeir cX7_clearHeir 2 (some .int)) 36 639 (fun x => some (.int x)) [.ref 0, .int p0] s (m_X7_clearHeir p0 s) := by
  refine sat_of hl (by decide) (Nat.le_of_ble_eq_true rfl) (fun X V A adV hxl hC hE hx hr => ?_) (n_X7_clearHeir p0 s)
  subst hxl
  show LX X V A 36 639 (nC s) (nS s) _ 0 [(0, .ref 0), (1, .int p0)] [] s _
  unfold m_X7_clearHeir
  refine lx_aload_n hC dX7_clearHeir_0 rfl 0 rfl ?_
  refine lx_bipush (v := 7) hC dX7_clearHeir_1 (by decide) ?_
  refine lx_iload_n hC dX7_clearHeir_3 rfl 1 rfl ?_
  refine lx_iconstv (v := 0) hC dX7_clearHeir_4 rfl ?_
  refine lx_callX hC hx (sat_X7_change (xl X) hl 7 p0 0 s) (run_V (as := [.int 7, .int p0, .int 0]) (rest := []) hC hE ly0 rfl cw_X7_change ci_X7_change wd311 cs_X7_change ce_X7_change cd_X7_change (by decide) (by decide) (Nat.le_of_ble_eq_true rfl) dX7_clearHeir_5 rfl) (fun v1 s2 _ => ?_)
  exact lx_iret hC rfl hr dX7_clearHeir_8
set_option maxRecDepth 100000 in
set_option maxHeartbeats 2000000 in
theorem n_X7_lock (p0 : Int32) (s : Mem) : Mn s (m_X7_lock p0 s) := by
  unfold m_X7_lock
  refine mn_bind (n_X7_change 8 p0 0 s) (fun v1 s2 => ?_)
  exact mn_some
set_option maxRecDepth 100000 in
set_option maxHeartbeats 2000000 in
theorem sat_X7_lock (l : Launch) (hl : l.stackTraces = false) (p0 : Int32) (s : Mem) : Sat l yX7_lock (.code yX7_lock cX7_lock 2 (some .int)) 36 639 (fun x => some (.int x)) [.ref 0, .int p0] s (m_X7_lock p0 s) := by
  refine sat_of hl (by decide) (Nat.le_of_ble_eq_true rfl) (fun X V A adV hxl hC hE hx hr => ?_) (n_X7_lock p0 s)
  subst hxl
  show LX X V A 36 639 (nC s) (nS s) _ 0 [(0, .ref 0), (1, .int p0)] [] s _
  unfold m_X7_lock
  refine lx_aload_n hC dX7_lock_0 rfl 0 rfl ?_
  refine lx_bipush (v := 8) hC dX7_lock_1 (by decide) ?_
  refine lx_iload_n hC dX7_lock_3 rfl 1 rfl ?_
  refine lx_iconstv (v := 0) hC dX7_lock_4 rfl ?_
  refine lx_callX hC hx (sat_X7_change (xl X) hl 8 p0 0 s) (run_V (as := [.int 8, .int p0, .int 0]) (rest := []) hC hE ly0 rfl cw_X7_change ci_X7_change wd311 cs_X7_change ce_X7_change cd_X7_change (by decide) (by decide) (Nat.le_of_ble_eq_true rfl) dX7_lock_5 rfl) (fun v1 s2 _ => ?_)
  exact lx_iret hC rfl hr dX7_lock_8
set_option maxRecDepth 100000 in
set_option maxHeartbeats 2000000 in
theorem n_X7_unlock (p0 : Int32) (s : Mem) : Mn s (m_X7_unlock p0 s) := by
  unfold m_X7_unlock
  refine mn_bind (n_X7_change 9 p0 0 s) (fun v1 s2 => ?_)
  exact mn_some
set_option maxRecDepth 100000 in
set_option maxHeartbeats 2000000 in
theorem sat_X7_unlock (l : Launch) (hl : l.stackTraces = false) (p0 : Int32) (s : Mem) : Sat l yX7_unlock (.code yX7_unlock cX7_unlock 2 (some .int)) 36 639 (fun x => some (.int x)) [.ref 0, .int p0] s (m_X7_unlock p0 s) := by
  refine sat_of hl (by decide) (Nat.le_of_ble_eq_true rfl) (fun X V A adV hxl hC hE hx hr => ?_) (n_X7_unlock p0 s)
  subst hxl
  show LX X V A 36 639 (nC s) (nS s) _ 0 [(0, .ref 0), (1, .int p0)] [] s _
  unfold m_X7_unlock
  refine lx_aload_n hC dX7_unlock_0 rfl 0 rfl ?_
  refine lx_bipush (v := 9) hC dX7_unlock_1 (by decide) ?_
  refine lx_iload_n hC dX7_unlock_3 rfl 1 rfl ?_
  refine lx_iconstv (v := 0) hC dX7_unlock_4 rfl ?_
  refine lx_callX hC hx (sat_X7_change (xl X) hl 9 p0 0 s) (run_V (as := [.int 9, .int p0, .int 0]) (rest := []) hC hE ly0 rfl cw_X7_change ci_X7_change wd311 cs_X7_change ce_X7_change cd_X7_change (by decide) (by decide) (Nat.le_of_ble_eq_true rfl) dX7_unlock_5 rfl) (fun v1 s2 _ => ?_)
  exact lx_iret hC rfl hr dX7_unlock_8
set_option maxRecDepth 100000 in
set_option maxHeartbeats 2000000 in
theorem n_X7_nameRow (p0 : Int32) (p1 : Int32) (s : Mem) : Mn s (m_X7_nameRow p0 p1 s) := by
  unfold m_X7_nameRow
  refine mn_bind (n_X7_change 10 p0 p1 s) (fun v1 s2 => ?_)
  exact mn_some
set_option maxRecDepth 100000 in
set_option maxHeartbeats 2000000 in
theorem sat_X7_nameRow (l : Launch) (hl : l.stackTraces = false) (p0 : Int32) (p1 : Int32) (s : Mem) : Sat l yX7_nameRow (.code yX7_nameRow cX7_nameRow 3 (some .int)) 36 639 (fun x => some (.int x)) [.ref 0, .int p0, .int p1] s (m_X7_nameRow p0 p1 s) := by
  refine sat_of hl (by decide) (Nat.le_of_ble_eq_true rfl) (fun X V A adV hxl hC hE hx hr => ?_) (n_X7_nameRow p0 p1 s)
  subst hxl
  show LX X V A 36 639 (nC s) (nS s) _ 0 [(0, .ref 0), (1, .int p0), (2, .int p1)] [] s _
  unfold m_X7_nameRow
  refine lx_aload_n hC dX7_nameRow_0 rfl 0 rfl ?_
  refine lx_bipush (v := 10) hC dX7_nameRow_1 (by decide) ?_
  refine lx_iload_n hC dX7_nameRow_3 rfl 1 rfl ?_
  refine lx_iload_n hC dX7_nameRow_4 rfl 2 rfl ?_
  refine lx_callX hC hx (sat_X7_change (xl X) hl 10 p0 p1 s) (run_V (as := [.int 10, .int p0, .int p1]) (rest := []) hC hE ly0 rfl cw_X7_change ci_X7_change wd311 cs_X7_change ce_X7_change cd_X7_change (by decide) (by decide) (Nat.le_of_ble_eq_true rfl) dX7_nameRow_5 rfl) (fun v1 s2 _ => ?_)
  exact lx_iret hC rfl hr dX7_nameRow_8
set_option maxRecDepth 100000 in
set_option maxHeartbeats 2000000 in
theorem n_X7_spread (p0 : Int32) (s : Mem) : Mn s (m_X7_spread p0 s) := by
  unfold m_X7_spread
  refine mn_bind (n_X7_change 11 p0 0 s) (fun v1 s2 => ?_)
  exact mn_some
set_option maxRecDepth 100000 in
set_option maxHeartbeats 2000000 in
theorem sat_X7_spread (l : Launch) (hl : l.stackTraces = false) (p0 : Int32) (s : Mem) : Sat l yX7_spread (.code yX7_spread cX7_spread 2 (some .int)) 36 639 (fun x => some (.int x)) [.ref 0, .int p0] s (m_X7_spread p0 s) := by
  refine sat_of hl (by decide) (Nat.le_of_ble_eq_true rfl) (fun X V A adV hxl hC hE hx hr => ?_) (n_X7_spread p0 s)
  subst hxl
  show LX X V A 36 639 (nC s) (nS s) _ 0 [(0, .ref 0), (1, .int p0)] [] s _
  unfold m_X7_spread
  refine lx_aload_n hC dX7_spread_0 rfl 0 rfl ?_
  refine lx_bipush (v := 11) hC dX7_spread_1 (by decide) ?_
  refine lx_iload_n hC dX7_spread_3 rfl 1 rfl ?_
  refine lx_iconstv (v := 0) hC dX7_spread_4 rfl ?_
  refine lx_callX hC hx (sat_X7_change (xl X) hl 11 p0 0 s) (run_V (as := [.int 11, .int p0, .int 0]) (rest := []) hC hE ly0 rfl cw_X7_change ci_X7_change wd311 cs_X7_change ce_X7_change cd_X7_change (by decide) (by decide) (Nat.le_of_ble_eq_true rfl) dX7_spread_5 rfl) (fun v1 s2 _ => ?_)
  exact lx_iret hC rfl hr dX7_spread_8
set_option maxRecDepth 100000 in
set_option maxHeartbeats 2000000 in
theorem sat_X3_present (l : Launch) (hl : l.stackTraces = false) (s : Mem) : Sat l yX3_present (.code yX3_present cX3_present 1 (some (.object "EchoCensus$Theatre"))) 30 500 (fun x => some (.ref x)) [.ref 1] s (pur s (m_X3_present s)) := by
  refine sat_of hl (by decide) (Nat.le_of_ble_eq_true rfl) (fun X V A adV hxl hC hE hx hr => ?_) pur_mono
  subst hxl
  show LX X V A 30 500 (nC s) (nS s) _ 0 [(0, .ref 1)] [] s _
  unfold m_X3_present
  refine lx_aload_n hC dX3_present_0 rfl 0 rfl ?_
  refine lx_getR (q := 65) hC ly1 rfl 0 (by decide) rfl rfl inX3 wd156 dX3_present_1 ?_
  refine lx_aload_n hC dX3_present_4 rfl 0 rfl ?_
  refine lx_getI hC ly1 rfl 1 (by decide) rfl inX3 wd157 dX3_present_5 ?_
  refine lq_aaload hC ly65 rfl rfl dX3_present_8 (fun h1 => ?_)
  exact lx_aret hC rfl hr (Or.inl ⟨_, rfl⟩) dX3_present_9
set_option maxRecDepth 100000 in
set_option maxHeartbeats 2000000 in
theorem sat_X7_rowCount (l : Launch) (hl : l.stackTraces = false) (s : Mem) : Sat l yX7_rowCount (.code yX7_rowCount cX7_rowCount 1 (some .int)) 31 520 (fun x => some (.int x)) [.ref 0] s (pur s (m_X7_rowCount s)) := by
  refine sat_of hl (by decide) (Nat.le_of_ble_eq_true rfl) (fun X V A adV hxl hC hE hx hr => ?_) pur_mono
  subst hxl
  show LX X V A 31 520 (nC s) (nS s) _ 0 [(0, .ref 0)] [] s _
  unfold m_X7_rowCount
  refine lx_aload_n hC dX7_rowCount_0 rfl 0 rfl ?_
  refine lx_getR (q := 1) hC ly0 rfl 0 (by decide) rfl rfl inX7 wd247 dX7_rowCount_1 ?_
  refine lq_call hC hx (sat_X3_present (xl X) hl s) (run_V (as := []) (rest := []) hC hE ly1 rfl cw_X3_present ci_X3_present wd282 cs_X3_present ce_X3_present cd_X3_present (by decide) (by decide) (Nat.le_of_ble_eq_true rfl) dX7_rowCount_4 rfl) (fun v1 _ => ?_)
  refine lq_g fun h2 => ?_
  refine lx_getI hC (th_o h2) rfl 4 (by decide) rfl inX6 wd89 dX7_rowCount_7 ?_
  exact lx_iret hC rfl hr dX7_rowCount_10
set_option maxRecDepth 100000 in
set_option maxHeartbeats 2000000 in
theorem n_X7_theatreWithRow (p0 : Int32) (s : Mem) : Mn s (m_X7_theatreWithRow p0 s) := by
  unfold m_X7_theatreWithRow
  refine mn_bindP (fun v1 => ?_)
  refine mn_if ?_ mn_none
  refine mn_bindP (fun v3 => ?_)
  refine mn_if ?_ ?_
  · skip
    exact mn_some
  · skip
    exact mn_thr
set_option maxRecDepth 100000 in
set_option maxHeartbeats 2000000 in
theorem sat_X7_theatreWithRow (l : Launch) (hl : l.stackTraces = false) (p0 : Int32) (s : Mem) : Sat l yX7_theatreWithRow (.code yX7_theatreWithRow cX7_theatreWithRow 3 (some (.object "EchoCensus$Theatre"))) 31 521 (fun x => some (.ref x)) [.ref 0, .int p0] s (m_X7_theatreWithRow p0 s) := by
  refine sat_of hl (by decide) (Nat.le_of_ble_eq_true rfl) (fun X V A adV hxl hC hE hx hr => ?_) (n_X7_theatreWithRow p0 s)
  subst hxl
  show LX X V A 31 521 (nC s) (nS s) _ 0 [(0, .ref 0), (1, .int p0)] [] s _
  unfold m_X7_theatreWithRow
  refine lx_aload_n hC dX7_theatreWithRow_0 rfl 0 rfl ?_
  refine lx_getR (q := 1) hC ly0 rfl 0 (by decide) rfl rfl inX7 wd247 dX7_theatreWithRow_1 ?_
  refine lx_callP hC hx (sat_X3_present (xl X) hl s) (run_V (as := []) (rest := []) hC hE ly1 rfl cw_X3_present ci_X3_present wd282 cs_X3_present ce_X3_present cd_X3_present (by decide) (by decide) (Nat.le_of_ble_eq_true rfl) dX7_theatreWithRow_4 rfl) (fun v1 _ => ?_)
  refine lx_if fun h2 => ?_
  refine lx_astore_n hC dX7_theatreWithRow_7 rfl (by decide) ?_
  refine lx_aload_n hC dX7_theatreWithRow_8 rfl 0 rfl ?_
  refine lx_iload_n hC dX7_theatreWithRow_9 rfl 2 rfl ?_
  refine lx_callP hC hx (sat_X6_hasRow (xl X) hl v1 p0 h2 s) (run_V (as := [.int p0]) (rest := []) hC hE (th_o h2) rfl cw_X6_hasRow ci_X6_hasRow wd685 cs_X6_hasRow ce_X6_hasRow cd_X6_hasRow (by decide) (by decide) (Nat.le_of_ble_eq_true rfl) dX7_theatreWithRow_10 rfl) (fun v3 _ => ?_)
  refine lx_if_ne hC 26 dX7_theatreWithRow_13 (by decide) ?_ ?_
  · skip
    refine lx_aload_n hC dX7_theatreWithRow_26 rfl 0 rfl ?_
    exact lx_aret hC rfl hr (Or.inl ⟨_, rfl⟩) dX7_theatreWithRow_27
  · skip
    exact lx_throw hC hE hl hx (i := 1) (text := "there is no such row") rfl wd463 wd36 rfl thg_X7_IndexOutOfBoundsException_102 thn_X7_IndexOutOfBoundsException_102 tho_X7_IndexOutOfBoundsException_102 dX7_theatreWithRow_16 dX7_theatreWithRow_19 dX7_theatreWithRow_20 dX7_theatreWithRow_22 dX7_theatreWithRow_25 (by decide) (Nat.le_of_ble_eq_true rfl)
set_option maxRecDepth 100000 in
set_option maxHeartbeats 2000000 in
theorem n_X7_capacity (p0 : Int32) (s : Mem) : Mn s (m_X7_capacity p0 s) := by
  unfold m_X7_capacity
  refine mn_bind (n_X7_theatreWithRow p0 s) (fun v1 s2 => ?_)
  refine mn_if ?_ mn_none
  refine mn_if ?_ mn_none
  exact mn_some
set_option maxRecDepth 100000 in
set_option maxHeartbeats 2000000 in
theorem sat_X7_capacity (l : Launch) (hl : l.stackTraces = false) (p0 : Int32) (s : Mem) : Sat l yX7_capacity (.code yX7_capacity cX7_capacity 2 (some .int)) 32 543 (fun x => some (.int x)) [.ref 0, .int p0] s (m_X7_capacity p0 s) := by
  refine sat_of hl (by decide) (Nat.le_of_ble_eq_true rfl) (fun X V A adV hxl hC hE hx hr => ?_) (n_X7_capacity p0 s)
  subst hxl
  show LX X V A 32 543 (nC s) (nS s) _ 0 [(0, .ref 0), (1, .int p0)] [] s _
  unfold m_X7_capacity
  refine lx_aload_n hC dX7_capacity_0 rfl 0 rfl ?_
  refine lx_iload_n hC dX7_capacity_1 rfl 1 rfl ?_
  refine lx_callX hC hx (sat_X7_theatreWithRow (xl X) hl p0 s) (run_V (as := [.int p0]) (rest := []) hC hE ly0 rfl cw_X7_theatreWithRow ci_X7_theatreWithRow wd681 cs_X7_theatreWithRow ce_X7_theatreWithRow cd_X7_theatreWithRow (by decide) (by decide) (Nat.le_of_ble_eq_true rfl) dX7_capacity_2 rfl) (fun v1 s2 _ => ?_)
  refine lx_if fun h3 => ?_
  refine lx_getR (q := v1 + 64) hC (th_o h3) rfl 0 (by decide) rfl rfl inX6 wd73 dX7_capacity_5 ?_
  refine lx_iload_n hC dX7_capacity_8 rfl 1 rfl ?_
  refine lx_iaload hC (th_a0 h3) dX7_capacity_9 ?_
  exact lx_iret hC rfl hr dX7_capacity_10
set_option maxRecDepth 100000 in
set_option maxHeartbeats 2000000 in
theorem n_X7_occupancy (p0 : Int32) (s : Mem) : Mn s (m_X7_occupancy p0 s) := by
  unfold m_X7_occupancy
  refine mn_bind (n_X7_theatreWithRow p0 s) (fun v1 s2 => ?_)
  refine mn_if ?_ mn_none
  refine mn_bindP (fun v4 => ?_)
  exact mn_some
set_option maxRecDepth 100000 in
set_option maxHeartbeats 2000000 in
theorem sat_X7_occupancy (l : Launch) (hl : l.stackTraces = false) (p0 : Int32) (s : Mem) : Sat l yX7_occupancy (.code yX7_occupancy cX7_occupancy 2 (some .int)) 32 543 (fun x => some (.int x)) [.ref 0, .int p0] s (m_X7_occupancy p0 s) := by
  refine sat_of hl (by decide) (Nat.le_of_ble_eq_true rfl) (fun X V A adV hxl hC hE hx hr => ?_) (n_X7_occupancy p0 s)
  subst hxl
  show LX X V A 32 543 (nC s) (nS s) _ 0 [(0, .ref 0), (1, .int p0)] [] s _
  unfold m_X7_occupancy
  refine lx_aload_n hC dX7_occupancy_0 rfl 0 rfl ?_
  refine lx_iload_n hC dX7_occupancy_1 rfl 1 rfl ?_
  refine lx_callX hC hx (sat_X7_theatreWithRow (xl X) hl p0 s) (run_V (as := [.int p0]) (rest := []) hC hE ly0 rfl cw_X7_theatreWithRow ci_X7_theatreWithRow wd681 cs_X7_theatreWithRow ce_X7_theatreWithRow cd_X7_theatreWithRow (by decide) (by decide) (Nat.le_of_ble_eq_true rfl) dX7_occupancy_2 rfl) (fun v1 s2 _ => ?_)
  refine lx_if fun h3 => ?_
  refine lx_iload_n hC dX7_occupancy_5 rfl 1 rfl ?_
  refine lx_callP hC hx (sat_X6_echoesIn (xl X) hl v1 p0 h3 s2) (run_V (as := [.int p0]) (rest := []) hC hE (th_o h3) rfl cw_X6_echoesIn ci_X6_echoesIn wd964 cs_X6_echoesIn ce_X6_echoesIn cd_X6_echoesIn (by decide) (by decide) (Nat.le_of_ble_eq_true rfl) dX7_occupancy_6 rfl) (fun v4 _ => ?_)
  exact lx_iret hC rfl hr dX7_occupancy_9
set_option maxRecDepth 100000 in
set_option maxHeartbeats 2000000 in
theorem n_X7_isLocked (p0 : Int32) (s : Mem) : Mn s (m_X7_isLocked p0 s) := by
  unfold m_X7_isLocked
  refine mn_bind (n_X7_theatreWithRow p0 s) (fun v1 s2 => ?_)
  refine mn_if ?_ mn_none
  refine mn_if ?_ mn_none
  exact mn_if mn_some mn_none
set_option maxRecDepth 100000 in
set_option maxHeartbeats 2000000 in
theorem sat_X7_isLocked (l : Launch) (hl : l.stackTraces = false) (p0 : Int32) (s : Mem) : Sat l yX7_isLocked (.code yX7_isLocked cX7_isLocked 2 (some .boolean)) 32 543 (fun x => some (.int x)) [.ref 0, .int p0] s (m_X7_isLocked p0 s) := by
  refine sat_of hl (by decide) (Nat.le_of_ble_eq_true rfl) (fun X V A adV hxl hC hE hx hr => ?_) (n_X7_isLocked p0 s)
  subst hxl
  show LX X V A 32 543 (nC s) (nS s) _ 0 [(0, .ref 0), (1, .int p0)] [] s _
  unfold m_X7_isLocked
  refine lx_aload_n hC dX7_isLocked_0 rfl 0 rfl ?_
  refine lx_iload_n hC dX7_isLocked_1 rfl 1 rfl ?_
  refine lx_callX hC hx (sat_X7_theatreWithRow (xl X) hl p0 s) (run_V (as := [.int p0]) (rest := []) hC hE ly0 rfl cw_X7_theatreWithRow ci_X7_theatreWithRow wd681 cs_X7_theatreWithRow ce_X7_theatreWithRow cd_X7_theatreWithRow (by decide) (by decide) (Nat.le_of_ble_eq_true rfl) dX7_isLocked_2 rfl) (fun v1 s2 _ => ?_)
  refine lx_if fun h3 => ?_
  refine lx_getR (q := v1 + 192) hC (th_o h3) rfl 2 (by decide) rfl rfl inX6 wd81 dX7_isLocked_5 ?_
  refine lx_iload_n hC dX7_isLocked_8 rfl 1 rfl ?_
  refine lx_zaload hC (th_a2 h3) dX7_isLocked_9 ?_
  exact lx_zretn hC rfl hr (by simp) dX7_isLocked_10
set_option maxRecDepth 100000 in
set_option maxHeartbeats 2000000 in
theorem n_X7_isCrowded (p0 : Int32) (s : Mem) : Mn s (m_X7_isCrowded p0 s) := by
  unfold m_X7_isCrowded
  refine mn_bind (n_X7_theatreWithRow p0 s) (fun v1 s2 => ?_)
  refine mn_if ?_ mn_none
  refine mn_bindP (fun v4 => ?_)
  exact mn_if mn_some mn_none
set_option maxRecDepth 100000 in
set_option maxHeartbeats 2000000 in
theorem sat_X7_isCrowded (l : Launch) (hl : l.stackTraces = false) (p0 : Int32) (s : Mem) : Sat l yX7_isCrowded (.code yX7_isCrowded cX7_isCrowded 2 (some .boolean)) 32 544 (fun x => some (.int x)) [.ref 0, .int p0] s (m_X7_isCrowded p0 s) := by
  refine sat_of hl (by decide) (Nat.le_of_ble_eq_true rfl) (fun X V A adV hxl hC hE hx hr => ?_) (n_X7_isCrowded p0 s)
  subst hxl
  show LX X V A 32 544 (nC s) (nS s) _ 0 [(0, .ref 0), (1, .int p0)] [] s _
  unfold m_X7_isCrowded
  refine lx_aload_n hC dX7_isCrowded_0 rfl 0 rfl ?_
  refine lx_iload_n hC dX7_isCrowded_1 rfl 1 rfl ?_
  refine lx_callX hC hx (sat_X7_theatreWithRow (xl X) hl p0 s) (run_V (as := [.int p0]) (rest := []) hC hE ly0 rfl cw_X7_theatreWithRow ci_X7_theatreWithRow wd681 cs_X7_theatreWithRow ce_X7_theatreWithRow cd_X7_theatreWithRow (by decide) (by decide) (Nat.le_of_ble_eq_true rfl) dX7_isCrowded_2 rfl) (fun v1 s2 _ => ?_)
  refine lx_if fun h3 => ?_
  refine lx_iload_n hC dX7_isCrowded_5 rfl 1 rfl ?_
  refine lx_callP hC hx (sat_X6_overfull (xl X) hl v1 p0 h3 s2) (run_V (as := [.int p0]) (rest := []) hC hE (th_o h3) rfl cw_X6_overfull ci_X6_overfull wd1332 cs_X6_overfull ce_X6_overfull cd_X6_overfull (by decide) (by decide) (Nat.le_of_ble_eq_true rfl) dX7_isCrowded_6 rfl) (fun v4 _ => ?_)
  exact lx_zretn hC rfl hr (by simp) dX7_isCrowded_9
set_option maxRecDepth 100000 in
set_option maxHeartbeats 2000000 in
theorem l_X6_idAt_b5 {X : Cx} {V : Vx} {A : Nat → Prop} {adV : Nat → Nat} {c0 s0 : Nat} (hC : Cok X V A yX6_idAt.cls cX6_idAt 5) (hE : Env0 V adV A (xs X) (xs X).heap) (hl : (xl X).stackTraces = false) (hx : ∀ x ∈ (xc X).exceptionTable.toList, False) (hr : (xh X).sig.returnType = some .int) (q1 : Nat) (x2 : Int32) (x3 : Int32) (hq1 : isTh q1) (s : Mem) (kf5 : (Int32 × Int32) → Option Int32) (hk5 : ∀ a, LX X V A 30 500 c0 s0 (FM X V A (fun x => some (.int x))) 5 [(0, .ref q1), (1, .int x2), (2, .int x3), (3, .int a.1), (4, .int a.2)] [] s (pur s (kf5 a))) (w3 : Int32) (w4 : Int32) : LX X V A 30 500 c0 s0 (FM X V A (fun x => some (.int x))) 5 [(0, .ref q1), (1, .int x2), (2, .int x3), (3, .int w3), (4, .int w4)] [] s (pur s (m_X6_idAt_b5 q1 x2 x3 s kf5 w3 w4 )) := by
  unfold m_X6_idAt_b5
  refine lx_iload hC dX6_idAt_5 4 rfl ?_
  refine lx_aload_n hC dX6_idAt_7 rfl 0 rfl ?_
  refine lx_getI hC (th_o hq1) rfl 9 (by decide) rfl inX6 wd105 dX6_idAt_8 ?_
  refine lq_icmp_ge hC 47 dX6_idAt_11 (by decide) ?_ ?_
  · skip
    refine lx_iconstv (v := (-1)) hC dX6_idAt_47 rfl ?_
    exact lx_iret hC rfl hr dX6_idAt_48
  · skip
    refine lx_aload_n hC dX6_idAt_14 rfl 0 rfl ?_
    refine lx_getR (q := q1 + 448) hC (th_o hq1) rfl 6 (by decide) rfl rfl inX6 wd93 dX6_idAt_15 ?_
    refine lx_iload hC dX6_idAt_18 4 rfl ?_
    refine lq_iaload hC (th_a6 hq1) dX6_idAt_20 ?_
    refine lx_iload_n hC dX6_idAt_21 rfl 1 rfl ?_
    refine lq_icmp_ne hC 41 dX6_idAt_22 (by decide) ?_ ?_
    · skip
      refine lq_iincN (v := 1) hC dX6_idAt_41 4 rfl (by decide) rfl (fun y4 => ?_)
      refine lx_goto hC 5 dX6_idAt_44 (by decide) ?_
      exact lx_sub [1, 2, 3, 4, 0] rfl (hk5 (w3, y4))
    · skip
      refine lx_iload_n hC dX6_idAt_25 rfl 3 rfl ?_
      refine lx_iload_n hC dX6_idAt_26 rfl 2 rfl ?_
      refine lq_icmp_ne hC 38 dX6_idAt_27 (by decide) ?_ ?_
      · skip
        refine lq_iincN (v := 1) hC dX6_idAt_38 3 rfl (by decide) rfl (fun y5 => ?_)
        refine lq_iincN (v := 1) hC dX6_idAt_41 4 rfl (by decide) rfl (fun y6 => ?_)
        refine lx_goto hC 5 dX6_idAt_44 (by decide) ?_
        exact lx_sub [2, 3, 4, 1, 0] rfl (hk5 (y5, y6))
      · skip
        refine lx_aload_n hC dX6_idAt_30 rfl 0 rfl ?_
        refine lx_getR (q := q1 + 384) hC (th_o hq1) rfl 5 (by decide) rfl rfl inX6 wd90 dX6_idAt_31 ?_
        refine lx_iload hC dX6_idAt_34 4 rfl ?_
        refine lq_iaload hC (th_a5 hq1) dX6_idAt_36 ?_
        exact lx_iret hC rfl hr dX6_idAt_37
set_option maxRecDepth 100000 in
set_option maxHeartbeats 2000000 in
theorem sat_X6_idAt (l : Launch) (hl : l.stackTraces = false) (t : Nat) (p0 : Int32) (p1 : Int32) (ht : isTh t) (s : Mem) : Sat l yX6_idAt (.code yX6_idAt cX6_idAt 5 (some .int)) 30 500 (fun x => some (.int x)) [.ref t, .int p0, .int p1] s (pur s (m_X6_idAt t p0 p1 s)) := by
  refine sat_of hl (by decide) (Nat.le_of_ble_eq_true rfl) (fun X V A adV hxl hC hE hx hr => ?_) pur_mono
  subst hxl
  show LX X V A 30 500 (nC s) (nS s) _ 0 [(0, .ref t), (1, .int p0), (2, .int p1)] [] s _
  unfold m_X6_idAt
  refine lx_iconstv (v := 0) hC dX6_idAt_0 rfl ?_
  refine lx_istore_n hC dX6_idAt_1 rfl (by decide) ?_
  refine lx_iconstv (v := 0) hC dX6_idAt_2 rfl ?_
  refine lx_istore hC dX6_idAt_3 (by decide) ?_
  refine lx_sub [2, 3, 4, 1, 0] rfl ?_
  exact lq_lp (lv := fun a => [(0, .ref t), (1, .int p0), (2, .int p1), (3, .int a.1), (4, .int a.2)]) (st := fun _ => []) (fun kf hq a => l_X6_idAt_b5 hC hE hl hx hr t p0 p1 ht s kf hq a.1 a.2) FUEL (0, 0)
set_option maxRecDepth 100000 in
set_option maxHeartbeats 2000000 in
theorem n_X7_idInRow (p0 : Int32) (p1 : Int32) (s : Mem) : Mn s (m_X7_idInRow p0 p1 s) := by
  unfold m_X7_idInRow
  refine mn_bind (n_X7_theatreWithRow p0 s) (fun v1 s2 => ?_)
  refine mn_if ?_ mn_none
  refine mn_bindP (fun v4 => ?_)
  refine mn_if ?_ ?_
  · skip
    exact mn_some
  · skip
    exact mn_thr
set_option maxRecDepth 100000 in
set_option maxHeartbeats 2000000 in
theorem sat_X7_idInRow (l : Launch) (hl : l.stackTraces = false) (p0 : Int32) (p1 : Int32) (s : Mem) : Sat l yX7_idInRow (.code yX7_idInRow cX7_idInRow 4 (some .int)) 32 543 (fun x => some (.int x)) [.ref 0, .int p0, .int p1] s (m_X7_idInRow p0 p1 s) := by
  refine sat_of hl (by decide) (Nat.le_of_ble_eq_true rfl) (fun X V A adV hxl hC hE hx hr => ?_) (n_X7_idInRow p0 p1 s)
  subst hxl
  show LX X V A 32 543 (nC s) (nS s) _ 0 [(0, .ref 0), (1, .int p0), (2, .int p1)] [] s _
  unfold m_X7_idInRow
  refine lx_aload_n hC dX7_idInRow_0 rfl 0 rfl ?_
  refine lx_iload_n hC dX7_idInRow_1 rfl 1 rfl ?_
  refine lx_callX hC hx (sat_X7_theatreWithRow (xl X) hl p0 s) (run_V (as := [.int p0]) (rest := []) hC hE ly0 rfl cw_X7_theatreWithRow ci_X7_theatreWithRow wd681 cs_X7_theatreWithRow ce_X7_theatreWithRow cd_X7_theatreWithRow (by decide) (by decide) (Nat.le_of_ble_eq_true rfl) dX7_idInRow_2 rfl) (fun v1 s2 _ => ?_)
  refine lx_if fun h3 => ?_
  refine lx_iload_n hC dX7_idInRow_5 rfl 1 rfl ?_
  refine lx_iload_n hC dX7_idInRow_6 rfl 2 rfl ?_
  refine lx_callP hC hx (sat_X6_idAt (xl X) hl v1 p0 p1 h3 s2) (run_V (as := [.int p0, .int p1]) (rest := []) hC hE (th_o h3) rfl cw_X6_idAt ci_X6_idAt wd1278 cs_X6_idAt ce_X6_idAt cd_X6_idAt (by decide) (by decide) (Nat.le_of_ble_eq_true rfl) dX7_idInRow_7 rfl) (fun v4 _ => ?_)
  refine lx_istore_n hC dX7_idInRow_10 rfl (by decide) ?_
  refine lx_iload_n hC dX7_idInRow_11 rfl 0 rfl ?_
  refine lx_iconstv (v := (-1)) hC dX7_idInRow_12 rfl ?_
  refine lx_icmp_ne hC 26 dX7_idInRow_13 (by decide) ?_ ?_
  · skip
    refine lx_iload_n hC dX7_idInRow_26 rfl 0 rfl ?_
    exact lx_iret hC rfl hr dX7_idInRow_27
  · skip
    exact lx_throwN hC hE hl hx (i := 4) (text := "the row has no such position") rfl wd393 wd35 rfl thg_X7_NoSuchElementException_95 thn_X7_NoSuchElementException_95 tho_X7_NoSuchElementException_95 dX7_idInRow_16 dX7_idInRow_19 dX7_idInRow_20 dX7_idInRow_22 dX7_idInRow_25 (by decide) (Nat.le_of_ble_eq_true rfl)
set_option maxRecDepth 100000 in
set_option maxHeartbeats 2000000 in
theorem sat_X7_echoCount (l : Launch) (hl : l.stackTraces = false) (s : Mem) : Sat l yX7_echoCount (.code yX7_echoCount cX7_echoCount 1 (some .int)) 31 520 (fun x => some (.int x)) [.ref 0] s (pur s (m_X7_echoCount s)) := by
  refine sat_of hl (by decide) (Nat.le_of_ble_eq_true rfl) (fun X V A adV hxl hC hE hx hr => ?_) pur_mono
  subst hxl
  show LX X V A 31 520 (nC s) (nS s) _ 0 [(0, .ref 0)] [] s _
  unfold m_X7_echoCount
  refine lx_aload_n hC dX7_echoCount_0 rfl 0 rfl ?_
  refine lx_getR (q := 1) hC ly0 rfl 0 (by decide) rfl rfl inX7 wd247 dX7_echoCount_1 ?_
  refine lq_call hC hx (sat_X3_present (xl X) hl s) (run_V (as := []) (rest := []) hC hE ly1 rfl cw_X3_present ci_X3_present wd282 cs_X3_present ce_X3_present cd_X3_present (by decide) (by decide) (Nat.le_of_ble_eq_true rfl) dX7_echoCount_4 rfl) (fun v1 _ => ?_)
  refine lq_g fun h2 => ?_
  refine lx_getI hC (th_o h2) rfl 9 (by decide) rfl inX6 wd108 dX7_echoCount_7 ?_
  exact lx_iret hC rfl hr dX7_echoCount_10
set_option maxRecDepth 100000 in
set_option maxHeartbeats 2000000 in
theorem sat_X7_isActive (l : Launch) (hl : l.stackTraces = false) (p0 : Int32) (s : Mem) : Sat l yX7_isActive (.code yX7_isActive cX7_isActive 2 (some .boolean)) 31 522 (fun x => some (.int x)) [.ref 0, .int p0] s (pur s (m_X7_isActive p0 s)) := by
  refine sat_of hl (by decide) (Nat.le_of_ble_eq_true rfl) (fun X V A adV hxl hC hE hx hr => ?_) pur_mono
  subst hxl
  show LX X V A 31 522 (nC s) (nS s) _ 0 [(0, .ref 0), (1, .int p0)] [] s _
  unfold m_X7_isActive
  refine lx_aload_n hC dX7_isActive_0 rfl 0 rfl ?_
  refine lx_getR (q := 1) hC ly0 rfl 0 (by decide) rfl rfl inX7 wd247 dX7_isActive_1 ?_
  refine lq_call hC hx (sat_X3_present (xl X) hl s) (run_V (as := []) (rest := []) hC hE ly1 rfl cw_X3_present ci_X3_present wd282 cs_X3_present ce_X3_present cd_X3_present (by decide) (by decide) (Nat.le_of_ble_eq_true rfl) dX7_isActive_4 rfl) (fun v1 _ => ?_)
  refine lq_g fun h2 => ?_
  refine lx_iload_n hC dX7_isActive_7 rfl 1 rfl ?_
  refine lq_call hC hx (sat_X6_slotOf (xl X) hl v1 p0 h2 s) (run_V (as := [.int p0]) (rest := []) hC hE (th_o h2) rfl cw_X6_slotOf ci_X6_slotOf wd1032 cs_X6_slotOf ce_X6_slotOf cd_X6_slotOf (by decide) (by decide) (Nat.le_of_ble_eq_true rfl) dX7_isActive_8 rfl) (fun v3 _ => ?_)
  refine lx_iconstv (v := (-1)) hC dX7_isActive_11 rfl ?_
  refine lq_icmp_eq hC 19 dX7_isActive_12 (by decide) ?_ ?_
  · skip
    refine lx_iconstv (v := 0) hC dX7_isActive_19 rfl ?_
    exact lx_zret hC rfl hr rfl dX7_isActive_20
  · skip
    refine lx_iconstv (v := 1) hC dX7_isActive_15 rfl ?_
    refine lx_goto hC 20 dX7_isActive_16 (by decide) ?_
    exact lx_zret hC rfl hr rfl dX7_isActive_20
set_option maxRecDepth 100000 in
set_option maxHeartbeats 2000000 in
theorem n_X7_slotOfActive (p0 : Int32) (s : Mem) : Mn s (m_X7_slotOfActive p0 s) := by
  unfold m_X7_slotOfActive
  refine mn_bindP (fun v1 => ?_)
  refine mn_if ?_ mn_none
  refine mn_bindP (fun v3 => ?_)
  refine mn_if ?_ ?_
  · skip
    exact mn_some
  · skip
    exact mn_thr
set_option maxRecDepth 100000 in
set_option maxHeartbeats 2000000 in
theorem sat_X7_slotOfActive (l : Launch) (hl : l.stackTraces = false) (p0 : Int32) (s : Mem) : Sat l yX7_slotOfActive (.code yX7_slotOfActive cX7_slotOfActive 3 (some .int)) 31 522 (fun x => some (.int x)) [.ref 0, .int p0] s (m_X7_slotOfActive p0 s) := by
  refine sat_of hl (by decide) (Nat.le_of_ble_eq_true rfl) (fun X V A adV hxl hC hE hx hr => ?_) (n_X7_slotOfActive p0 s)
  subst hxl
  show LX X V A 31 522 (nC s) (nS s) _ 0 [(0, .ref 0), (1, .int p0)] [] s _
  unfold m_X7_slotOfActive
  refine lx_aload_n hC dX7_slotOfActive_0 rfl 0 rfl ?_
  refine lx_getR (q := 1) hC ly0 rfl 0 (by decide) rfl rfl inX7 wd247 dX7_slotOfActive_1 ?_
  refine lx_callP hC hx (sat_X3_present (xl X) hl s) (run_V (as := []) (rest := []) hC hE ly1 rfl cw_X3_present ci_X3_present wd282 cs_X3_present ce_X3_present cd_X3_present (by decide) (by decide) (Nat.le_of_ble_eq_true rfl) dX7_slotOfActive_4 rfl) (fun v1 _ => ?_)
  refine lx_if fun h2 => ?_
  refine lx_iload_n hC dX7_slotOfActive_7 rfl 1 rfl ?_
  refine lx_callP hC hx (sat_X6_slotOf (xl X) hl v1 p0 h2 s) (run_V (as := [.int p0]) (rest := []) hC hE (th_o h2) rfl cw_X6_slotOf ci_X6_slotOf wd1032 cs_X6_slotOf ce_X6_slotOf cd_X6_slotOf (by decide) (by decide) (Nat.le_of_ble_eq_true rfl) dX7_slotOfActive_8 rfl) (fun v3 _ => ?_)
  refine lx_istore_n hC dX7_slotOfActive_11 rfl (by decide) ?_
  refine lx_iload_n hC dX7_slotOfActive_12 rfl 0 rfl ?_
  refine lx_iconstv (v := (-1)) hC dX7_slotOfActive_13 rfl ?_
  refine lx_icmp_ne hC 27 dX7_slotOfActive_14 (by decide) ?_ ?_
  · skip
    refine lx_iload_n hC dX7_slotOfActive_27 rfl 0 rfl ?_
    exact lx_iret hC rfl hr dX7_slotOfActive_28
  · skip
    exact lx_throwN hC hE hl hx (i := 0) (text := "no active echo has this id") rfl wd393 wd35 rfl thg_X7_NoSuchElementException_95 thn_X7_NoSuchElementException_95 tho_X7_NoSuchElementException_95 dX7_slotOfActive_17 dX7_slotOfActive_20 dX7_slotOfActive_21 dX7_slotOfActive_23 dX7_slotOfActive_26 (by decide) (Nat.le_of_ble_eq_true rfl)
set_option maxRecDepth 100000 in
set_option maxHeartbeats 2000000 in
theorem n_X7_rowOf (p0 : Int32) (s : Mem) : Mn s (m_X7_rowOf p0 s) := by
  unfold m_X7_rowOf
  refine mn_bindP (fun v1 => ?_)
  refine mn_if ?_ mn_none
  refine mn_bind (n_X7_slotOfActive p0 s) (fun v3 s4 => ?_)
  refine mn_if ?_ mn_none
  exact mn_some
set_option maxRecDepth 100000 in
set_option maxHeartbeats 2000000 in
theorem sat_X7_rowOf (l : Launch) (hl : l.stackTraces = false) (p0 : Int32) (s : Mem) : Sat l yX7_rowOf (.code yX7_rowOf cX7_rowOf 2 (some .int)) 32 544 (fun x => some (.int x)) [.ref 0, .int p0] s (m_X7_rowOf p0 s) := by
  refine sat_of hl (by decide) (Nat.le_of_ble_eq_true rfl) (fun X V A adV hxl hC hE hx hr => ?_) (n_X7_rowOf p0 s)
  subst hxl
  show LX X V A 32 544 (nC s) (nS s) _ 0 [(0, .ref 0), (1, .int p0)] [] s _
  unfold m_X7_rowOf
  refine lx_aload_n hC dX7_rowOf_0 rfl 0 rfl ?_
  refine lx_getR (q := 1) hC ly0 rfl 0 (by decide) rfl rfl inX7 wd247 dX7_rowOf_1 ?_
  refine lx_callP hC hx (sat_X3_present (xl X) hl s) (run_V (as := []) (rest := []) hC hE ly1 rfl cw_X3_present ci_X3_present wd282 cs_X3_present ce_X3_present cd_X3_present (by decide) (by decide) (Nat.le_of_ble_eq_true rfl) dX7_rowOf_4 rfl) (fun v1 _ => ?_)
  refine lx_if fun h2 => ?_
  refine lx_getR (q := v1 + 448) hC (th_o h2) rfl 6 (by decide) rfl rfl inX6 wd96 dX7_rowOf_7 ?_
  refine lx_aload_n hC dX7_rowOf_10 rfl 0 rfl ?_
  refine lx_iload_n hC dX7_rowOf_11 rfl 1 rfl ?_
  refine lx_callX hC hx (sat_X7_slotOfActive (xl X) hl p0 s) (run_V (as := [.int p0]) (rest := [.ref (v1 + 448)]) hC hE ly0 rfl cw_X7_slotOfActive ci_X7_slotOfActive wd1028 cs_X7_slotOfActive ce_X7_slotOfActive cd_X7_slotOfActive (by decide) (by decide) (Nat.le_of_ble_eq_true rfl) dX7_rowOf_12 rfl) (fun v3 s4 _ => ?_)
  refine lx_iaload hC (th_a6 h2) dX7_rowOf_15 ?_
  exact lx_iret hC rfl hr dX7_rowOf_16
set_option maxRecDepth 100000 in
set_option maxHeartbeats 2000000 in
theorem n_X7_loudness (p0 : Int32) (s : Mem) : Mn s (m_X7_loudness p0 s) := by
  unfold m_X7_loudness
  refine mn_bindP (fun v1 => ?_)
  refine mn_if ?_ mn_none
  refine mn_bind (n_X7_slotOfActive p0 s) (fun v3 s4 => ?_)
  refine mn_if ?_ mn_none
  exact mn_some
set_option maxRecDepth 100000 in
set_option maxHeartbeats 2000000 in
theorem sat_X7_loudness (l : Launch) (hl : l.stackTraces = false) (p0 : Int32) (s : Mem) : Sat l yX7_loudness (.code yX7_loudness cX7_loudness 2 (some .int)) 32 544 (fun x => some (.int x)) [.ref 0, .int p0] s (m_X7_loudness p0 s) := by
  refine sat_of hl (by decide) (Nat.le_of_ble_eq_true rfl) (fun X V A adV hxl hC hE hx hr => ?_) (n_X7_loudness p0 s)
  subst hxl
  show LX X V A 32 544 (nC s) (nS s) _ 0 [(0, .ref 0), (1, .int p0)] [] s _
  unfold m_X7_loudness
  refine lx_aload_n hC dX7_loudness_0 rfl 0 rfl ?_
  refine lx_getR (q := 1) hC ly0 rfl 0 (by decide) rfl rfl inX7 wd247 dX7_loudness_1 ?_
  refine lx_callP hC hx (sat_X3_present (xl X) hl s) (run_V (as := []) (rest := []) hC hE ly1 rfl cw_X3_present ci_X3_present wd282 cs_X3_present ce_X3_present cd_X3_present (by decide) (by decide) (Nat.le_of_ble_eq_true rfl) dX7_loudness_4 rfl) (fun v1 _ => ?_)
  refine lx_if fun h2 => ?_
  refine lx_getR (q := v1 + 512) hC (th_o h2) rfl 7 (by decide) rfl rfl inX6 wd99 dX7_loudness_7 ?_
  refine lx_aload_n hC dX7_loudness_10 rfl 0 rfl ?_
  refine lx_iload_n hC dX7_loudness_11 rfl 1 rfl ?_
  refine lx_callX hC hx (sat_X7_slotOfActive (xl X) hl p0 s) (run_V (as := [.int p0]) (rest := [.ref (v1 + 512)]) hC hE ly0 rfl cw_X7_slotOfActive ci_X7_slotOfActive wd1028 cs_X7_slotOfActive ce_X7_slotOfActive cd_X7_slotOfActive (by decide) (by decide) (Nat.le_of_ble_eq_true rfl) dX7_loudness_12 rfl) (fun v3 s4 _ => ?_)
  refine lx_iaload hC (th_a7 h2) dX7_loudness_15 ?_
  exact lx_iret hC rfl hr dX7_loudness_16
set_option maxRecDepth 100000 in
set_option maxHeartbeats 2000000 in
theorem l_X6_positionOf_b4 {X : Cx} {V : Vx} {A : Nat → Prop} {adV : Nat → Nat} {c0 s0 : Nat} (hC : Cok X V A yX6_positionOf.cls cX6_positionOf 4) (hE : Env0 V adV A (xs X) (xs X).heap) (hl : (xl X).stackTraces = false) (hx : ∀ x ∈ (xc X).exceptionTable.toList, False) (hr : (xh X).sig.returnType = some .int) (q1 : Nat) (x2 : Int32) (hq1 : isTh q1) (s : Mem) (kf4 : (Int32 × Int32) → Option Int32) (hk4 : ∀ a, LX X V A 30 500 c0 s0 (FM X V A (fun x => some (.int x))) 4 [(0, .ref q1), (1, .int x2), (2, .int a.1), (3, .int a.2)] [] s (pur s (kf4 a))) (w2 : Int32) (w3 : Int32) : LX X V A 30 500 c0 s0 (FM X V A (fun x => some (.int x))) 4 [(0, .ref q1), (1, .int x2), (2, .int w2), (3, .int w3)] [] s (pur s (m_X6_positionOf_b4 q1 x2 s kf4 w2 w3 )) := by
  unfold m_X6_positionOf_b4
  refine lx_iload_n hC dX6_positionOf_4 rfl 3 rfl ?_
  refine lx_iload_n hC dX6_positionOf_5 rfl 1 rfl ?_
  refine lq_icmp_ge hC 33 dX6_positionOf_6 (by decide) ?_ ?_
  · skip
    refine lx_iload_n hC dX6_positionOf_33 rfl 2 rfl ?_
    exact lx_iret hC rfl hr dX6_positionOf_34
  · skip
    refine lx_aload_n hC dX6_positionOf_9 rfl 0 rfl ?_
    refine lx_getR (q := q1 + 448) hC (th_o hq1) rfl 6 (by decide) rfl rfl inX6 wd93 dX6_positionOf_10 ?_
    refine lx_iload_n hC dX6_positionOf_13 rfl 3 rfl ?_
    refine lq_iaload hC (th_a6 hq1) dX6_positionOf_14 ?_
    refine lx_aload_n hC dX6_positionOf_15 rfl 0 rfl ?_
    refine lx_getR (q := q1 + 448) hC (th_o hq1) rfl 6 (by decide) rfl rfl inX6 wd93 dX6_positionOf_16 ?_
    refine lx_iload_n hC dX6_positionOf_19 rfl 1 rfl ?_
    refine lq_iaload hC (th_a6 hq1) dX6_positionOf_20 ?_
    refine lq_icmp_ne hC 27 dX6_positionOf_21 (by decide) ?_ ?_
    · skip
      refine lq_iincN (v := 1) hC dX6_positionOf_27 3 rfl (by decide) rfl (fun y3 => ?_)
      refine lx_goto hC 4 dX6_positionOf_30 (by decide) ?_
      exact lx_sub [1, 2, 3, 0] rfl (hk4 (w2, y3))
    · skip
      refine lq_iincN (v := 1) hC dX6_positionOf_24 2 rfl (by decide) rfl (fun y4 => ?_)
      refine lq_iincN (v := 1) hC dX6_positionOf_27 3 rfl (by decide) rfl (fun y5 => ?_)
      refine lx_goto hC 4 dX6_positionOf_30 (by decide) ?_
      exact lx_sub [2, 3, 1, 0] rfl (hk4 (y4, y5))
set_option maxRecDepth 100000 in
set_option maxHeartbeats 2000000 in
theorem sat_X6_positionOf (l : Launch) (hl : l.stackTraces = false) (t : Nat) (p0 : Int32) (ht : isTh t) (s : Mem) : Sat l yX6_positionOf (.code yX6_positionOf cX6_positionOf 4 (some .int)) 30 500 (fun x => some (.int x)) [.ref t, .int p0] s (pur s (m_X6_positionOf t p0 s)) := by
  refine sat_of hl (by decide) (Nat.le_of_ble_eq_true rfl) (fun X V A adV hxl hC hE hx hr => ?_) pur_mono
  subst hxl
  show LX X V A 30 500 (nC s) (nS s) _ 0 [(0, .ref t), (1, .int p0)] [] s _
  unfold m_X6_positionOf
  refine lx_iconstv (v := 0) hC dX6_positionOf_0 rfl ?_
  refine lx_istore_n hC dX6_positionOf_1 rfl (by decide) ?_
  refine lx_iconstv (v := 0) hC dX6_positionOf_2 rfl ?_
  refine lx_istore_n hC dX6_positionOf_3 rfl (by decide) ?_
  refine lx_sub [2, 3, 1, 0] rfl ?_
  exact lq_lp (lv := fun a => [(0, .ref t), (1, .int p0), (2, .int a.1), (3, .int a.2)]) (st := fun _ => []) (fun kf hq a => l_X6_positionOf_b4 hC hE hl hx hr t p0 ht s kf hq a.1 a.2) FUEL (0, 0)
set_option maxRecDepth 100000 in
set_option maxHeartbeats 2000000 in
theorem n_X7_positionInRow (p0 : Int32) (s : Mem) : Mn s (m_X7_positionInRow p0 s) := by
  unfold m_X7_positionInRow
  refine mn_bindP (fun v1 => ?_)
  refine mn_if ?_ mn_none
  refine mn_bind (n_X7_slotOfActive p0 s) (fun v3 s4 => ?_)
  refine mn_bindP (fun v5 => ?_)
  exact mn_some
set_option maxRecDepth 100000 in
set_option maxHeartbeats 2000000 in
theorem sat_X7_positionInRow (l : Launch) (hl : l.stackTraces = false) (p0 : Int32) (s : Mem) : Sat l yX7_positionInRow (.code yX7_positionInRow cX7_positionInRow 2 (some .int)) 32 544 (fun x => some (.int x)) [.ref 0, .int p0] s (m_X7_positionInRow p0 s) := by
  refine sat_of hl (by decide) (Nat.le_of_ble_eq_true rfl) (fun X V A adV hxl hC hE hx hr => ?_) (n_X7_positionInRow p0 s)
  subst hxl
  show LX X V A 32 544 (nC s) (nS s) _ 0 [(0, .ref 0), (1, .int p0)] [] s _
  unfold m_X7_positionInRow
  refine lx_aload_n hC dX7_positionInRow_0 rfl 0 rfl ?_
  refine lx_getR (q := 1) hC ly0 rfl 0 (by decide) rfl rfl inX7 wd247 dX7_positionInRow_1 ?_
  refine lx_callP hC hx (sat_X3_present (xl X) hl s) (run_V (as := []) (rest := []) hC hE ly1 rfl cw_X3_present ci_X3_present wd282 cs_X3_present ce_X3_present cd_X3_present (by decide) (by decide) (Nat.le_of_ble_eq_true rfl) dX7_positionInRow_4 rfl) (fun v1 _ => ?_)
  refine lx_if fun h2 => ?_
  refine lx_aload_n hC dX7_positionInRow_7 rfl 0 rfl ?_
  refine lx_iload_n hC dX7_positionInRow_8 rfl 1 rfl ?_
  refine lx_callX hC hx (sat_X7_slotOfActive (xl X) hl p0 s) (run_V (as := [.int p0]) (rest := [.ref v1]) hC hE ly0 rfl cw_X7_slotOfActive ci_X7_slotOfActive wd1028 cs_X7_slotOfActive ce_X7_slotOfActive cd_X7_slotOfActive (by decide) (by decide) (Nat.le_of_ble_eq_true rfl) dX7_positionInRow_9 rfl) (fun v3 s4 _ => ?_)
  refine lx_callP hC hx (sat_X6_positionOf (xl X) hl v1 v3 h2 s4) (run_V (as := [.int v3]) (rest := []) hC hE (th_o h2) rfl cw_X6_positionOf ci_X6_positionOf wd1370 cs_X6_positionOf ce_X6_positionOf cd_X6_positionOf (by decide) (by decide) (Nat.le_of_ble_eq_true rfl) dX7_positionInRow_12 rfl) (fun v5 _ => ?_)
  exact lx_iret hC rfl hr dX7_positionInRow_15
set_option maxRecDepth 100000 in
set_option maxHeartbeats 2000000 in
theorem n_X7_heir (p0 : Int32) (s : Mem) : Mn s (m_X7_heir p0 s) := by
  unfold m_X7_heir
  refine mn_bindP (fun v1 => ?_)
  refine mn_if ?_ mn_none
  refine mn_bind (n_X7_slotOfActive p0 s) (fun v3 s4 => ?_)
  refine mn_if ?_ mn_none
  refine mn_vl (fun y5 => ?_)
  refine mn_if ?_ ?_
  · skip
    exact mn_some
  · skip
    exact mn_thr
set_option maxRecDepth 100000 in
set_option maxHeartbeats 2000000 in
theorem sat_X7_heir (l : Launch) (hl : l.stackTraces = false) (p0 : Int32) (s : Mem) : Sat l yX7_heir (.code yX7_heir cX7_heir 3 (some .int)) 32 544 (fun x => some (.int x)) [.ref 0, .int p0] s (m_X7_heir p0 s) := by
  refine sat_of hl (by decide) (Nat.le_of_ble_eq_true rfl) (fun X V A adV hxl hC hE hx hr => ?_) (n_X7_heir p0 s)
  subst hxl
  show LX X V A 32 544 (nC s) (nS s) _ 0 [(0, .ref 0), (1, .int p0)] [] s _
  unfold m_X7_heir
  refine lx_aload_n hC dX7_heir_0 rfl 0 rfl ?_
  refine lx_getR (q := 1) hC ly0 rfl 0 (by decide) rfl rfl inX7 wd247 dX7_heir_1 ?_
  refine lx_callP hC hx (sat_X3_present (xl X) hl s) (run_V (as := []) (rest := []) hC hE ly1 rfl cw_X3_present ci_X3_present wd282 cs_X3_present ce_X3_present cd_X3_present (by decide) (by decide) (Nat.le_of_ble_eq_true rfl) dX7_heir_4 rfl) (fun v1 _ => ?_)
  refine lx_if fun h2 => ?_
  refine lx_getR (q := v1 + 576) hC (th_o h2) rfl 8 (by decide) rfl rfl inX6 wd103 dX7_heir_7 ?_
  refine lx_aload_n hC dX7_heir_10 rfl 0 rfl ?_
  refine lx_iload_n hC dX7_heir_11 rfl 1 rfl ?_
  refine lx_callX hC hx (sat_X7_slotOfActive (xl X) hl p0 s) (run_V (as := [.int p0]) (rest := [.ref (v1 + 576)]) hC hE ly0 rfl cw_X7_slotOfActive ci_X7_slotOfActive wd1028 cs_X7_slotOfActive ce_X7_slotOfActive cd_X7_slotOfActive (by decide) (by decide) (Nat.le_of_ble_eq_true rfl) dX7_heir_12 rfl) (fun v3 s4 _ => ?_)
  refine lx_iaload hC (th_a8 h2) dX7_heir_15 ?_
  refine lx_istore_nN hC dX7_heir_16 rfl (by decide) (fun y5 => ?_)
  refine lx_iload_n hC dX7_heir_17 rfl 0 rfl ?_
  refine lx_iconstv (v := (-1)) hC dX7_heir_18 rfl ?_
  refine lx_icmp_ne hC 32 dX7_heir_19 (by decide) ?_ ?_
  · skip
    refine lx_iload_n hC dX7_heir_32 rfl 0 rfl ?_
    exact lx_iret hC rfl hr dX7_heir_33
  · skip
    exact lx_throw hC hE hl hx (i := 5) (text := "the echo has no heir") rfl wd495 wd38 rfl thg_X7_IllegalStateException_112 thn_X7_IllegalStateException_112 tho_X7_IllegalStateException_112 dX7_heir_22 dX7_heir_25 dX7_heir_26 dX7_heir_28 dX7_heir_31 (by decide) (Nat.le_of_ble_eq_true rfl)
set_option maxRecDepth 100000 in
set_option maxHeartbeats 2000000 in
theorem l_X6_lastSlotFrom_b11 {X : Cx} {V : Vx} {A : Nat → Prop} {adV : Nat → Nat} {c0 s0 : Nat} (hC : Cok X V A yX6_lastSlotFrom.cls cX6_lastSlotFrom 5) (hE : Env0 V adV A (xs X) (xs X).heap) (hl : (xl X).stackTraces = false) (hx : ∀ x ∈ (xc X).exceptionTable.toList, False) (hr : (xh X).sig.returnType = some .int) (q2 : Nat) (hq2 : isTh q2) (s : Mem) (kf11 : (Int32 × Int32 × Int32) → Option Int32) (hk11 : ∀ a, LX X V A 32 543 c0 s0 (FM X V A (fun x => some (.int x))) 11 [(0, .ref q2), (2, .int a.1), (3, .int a.2.1), (4, .int a.2.2)] [] s (pur s (kf11 a))) (w2 : Int32) (w3 : Int32) (w4 : Int32) : LX X V A 32 543 c0 s0 (FM X V A (fun x => some (.int x))) 11 [(0, .ref q2), (2, .int w2), (3, .int w3), (4, .int w4)] [] s (pur s (m_X6_lastSlotFrom_b11 q2 s kf11 w2 w3 w4 )) := by
  unfold m_X6_lastSlotFrom_b11
  refine lx_iload hC dX6_lastSlotFrom_11 3 rfl ?_
  refine lx_bipush (v := 24) hC dX6_lastSlotFrom_13 (by decide) ?_
  refine lq_icmp_ge hC 37 dX6_lastSlotFrom_15 (by decide) ?_ ?_
  · skip
    refine lx_iload_n hC dX6_lastSlotFrom_37 rfl 1 rfl ?_
    exact lx_iret hC rfl hr dX6_lastSlotFrom_38
  · skip
    refine lx_iload_n hC dX6_lastSlotFrom_18 rfl 2 rfl ?_
    refine lx_iconstv (v := (-1)) hC dX6_lastSlotFrom_19 rfl ?_
    refine lq_icmp_eq hC 37 dX6_lastSlotFrom_20 (by decide) ?_ ?_
    · skip
      refine lx_iload_n hC dX6_lastSlotFrom_37 rfl 1 rfl ?_
      exact lx_iret hC rfl hr dX6_lastSlotFrom_38
    · skip
      refine lx_iload_n hC dX6_lastSlotFrom_23 rfl 2 rfl ?_
      refine lx_istore_n hC dX6_lastSlotFrom_24 rfl (by decide) ?_
      refine lx_aload_n hC dX6_lastSlotFrom_25 rfl 1 rfl ?_
      refine lx_iload_n hC dX6_lastSlotFrom_26 rfl 0 rfl ?_
      refine lq_call hC hx (sat_X6_heirSlotOf (xl X) hl q2 w3 hq2 s) (run_V (as := [.int w3]) (rest := []) hC hE (th_o hq2) rfl cw_X6_heirSlotOf ci_X6_heirSlotOf wd373 cs_X6_heirSlotOf ce_X6_heirSlotOf cd_X6_heirSlotOf (by decide) (by decide) (Nat.le_of_ble_eq_true rfl) dX6_lastSlotFrom_27 rfl) (fun v3 _ => ?_)
      refine lx_istore_n hC dX6_lastSlotFrom_30 rfl (by decide) ?_
      refine lq_iincN (v := 1) hC dX6_lastSlotFrom_31 3 rfl (by decide) rfl (fun y4 => ?_)
      refine lx_goto hC 11 dX6_lastSlotFrom_34 (by decide) ?_
      exact lx_sub [3, 2, 1, 0] rfl (hk11 (w3, v3, y4))
set_option maxRecDepth 100000 in
set_option maxHeartbeats 2000000 in
theorem sat_X6_lastSlotFrom (l : Launch) (hl : l.stackTraces = false) (t : Nat) (p0 : Int32) (ht : isTh t) (s : Mem) : Sat l yX6_lastSlotFrom (.code yX6_lastSlotFrom cX6_lastSlotFrom 5 (some .int)) 32 543 (fun x => some (.int x)) [.ref t, .int p0] s (pur s (m_X6_lastSlotFrom t p0 s)) := by
  refine sat_of hl (by decide) (Nat.le_of_ble_eq_true rfl) (fun X V A adV hxl hC hE hx hr => ?_) pur_mono
  subst hxl
  show LX X V A 32 543 (nC s) (nS s) _ 0 [(0, .ref t), (1, .int p0)] [] s _
  unfold m_X6_lastSlotFrom
  refine lx_iload_n hC dX6_lastSlotFrom_0 rfl 1 rfl ?_
  refine lx_istore_n hC dX6_lastSlotFrom_1 rfl (by decide) ?_
  refine lx_aload_n hC dX6_lastSlotFrom_2 rfl 1 rfl ?_
  refine lx_iload_n hC dX6_lastSlotFrom_3 rfl 2 rfl ?_
  refine lq_call hC hx (sat_X6_heirSlotOf (xl X) hl t p0 ht s) (run_V (as := [.int p0]) (rest := []) hC hE (th_o ht) rfl cw_X6_heirSlotOf ci_X6_heirSlotOf wd373 cs_X6_heirSlotOf ce_X6_heirSlotOf cd_X6_heirSlotOf (by decide) (by decide) (Nat.le_of_ble_eq_true rfl) dX6_lastSlotFrom_4 rfl) (fun v1 _ => ?_)
  refine lx_istore_n hC dX6_lastSlotFrom_7 rfl (by decide) ?_
  refine lx_iconstv (v := 0) hC dX6_lastSlotFrom_8 rfl ?_
  refine lx_istore hC dX6_lastSlotFrom_9 (by decide) ?_
  refine lx_sub [3, 2, 1, 0] rfl ?_
  exact lq_lp (lv := fun a => [(0, .ref t), (2, .int a.1), (3, .int a.2.1), (4, .int a.2.2)]) (st := fun _ => []) (fun kf hq a => l_X6_lastSlotFrom_b11 hC hE hl hx hr t ht s kf hq a.1 a.2.1 a.2.2) FUEL (p0, v1, 0)
set_option maxRecDepth 100000 in
set_option maxHeartbeats 2000000 in
theorem n_X7_lastHeir (p0 : Int32) (s : Mem) : Mn s (m_X7_lastHeir p0 s) := by
  unfold m_X7_lastHeir
  refine mn_bindP (fun v1 => ?_)
  refine mn_if ?_ mn_none
  refine mn_bind (n_X7_slotOfActive p0 s) (fun v3 s4 => ?_)
  refine mn_bindP (fun v5 => ?_)
  refine mn_if ?_ mn_none
  exact mn_some
set_option maxRecDepth 100000 in
set_option maxHeartbeats 2000000 in
theorem sat_X7_lastHeir (l : Launch) (hl : l.stackTraces = false) (p0 : Int32) (s : Mem) : Sat l yX7_lastHeir (.code yX7_lastHeir cX7_lastHeir 3 (some .int)) 33 567 (fun x => some (.int x)) [.ref 0, .int p0] s (m_X7_lastHeir p0 s) := by
  refine sat_of hl (by decide) (Nat.le_of_ble_eq_true rfl) (fun X V A adV hxl hC hE hx hr => ?_) (n_X7_lastHeir p0 s)
  subst hxl
  show LX X V A 33 567 (nC s) (nS s) _ 0 [(0, .ref 0), (1, .int p0)] [] s _
  unfold m_X7_lastHeir
  refine lx_aload_n hC dX7_lastHeir_0 rfl 0 rfl ?_
  refine lx_getR (q := 1) hC ly0 rfl 0 (by decide) rfl rfl inX7 wd247 dX7_lastHeir_1 ?_
  refine lx_callP hC hx (sat_X3_present (xl X) hl s) (run_V (as := []) (rest := []) hC hE ly1 rfl cw_X3_present ci_X3_present wd282 cs_X3_present ce_X3_present cd_X3_present (by decide) (by decide) (Nat.le_of_ble_eq_true rfl) dX7_lastHeir_4 rfl) (fun v1 _ => ?_)
  refine lx_if fun h2 => ?_
  refine lx_astore_n hC dX7_lastHeir_7 rfl (by decide) ?_
  refine lx_aload_n hC dX7_lastHeir_8 rfl 0 rfl ?_
  refine lx_getR (q := v1 + 384) hC (th_o h2) rfl 5 (by decide) rfl rfl inX6 wd92 dX7_lastHeir_9 ?_
  refine lx_aload_n hC dX7_lastHeir_12 rfl 0 rfl ?_
  refine lx_aload_n hC dX7_lastHeir_13 rfl 1 rfl ?_
  refine lx_iload_n hC dX7_lastHeir_14 rfl 2 rfl ?_
  refine lx_callX hC hx (sat_X7_slotOfActive (xl X) hl p0 s) (run_V (as := [.int p0]) (rest := [.ref v1, .ref (v1 + 384)]) hC hE ly0 rfl cw_X7_slotOfActive ci_X7_slotOfActive wd1028 cs_X7_slotOfActive ce_X7_slotOfActive cd_X7_slotOfActive (by decide) (by decide) (Nat.le_of_ble_eq_true rfl) dX7_lastHeir_15 rfl) (fun v3 s4 _ => ?_)
  refine lx_callP hC hx (sat_X6_lastSlotFrom (xl X) hl v1 v3 h2 s4) (run_V (as := [.int v3]) (rest := [.ref (v1 + 384)]) hC hE (th_o h2) rfl cw_X6_lastSlotFrom ci_X6_lastSlotFrom wd1245 cs_X6_lastSlotFrom ce_X6_lastSlotFrom cd_X6_lastSlotFrom (by decide) (by decide) (Nat.le_of_ble_eq_true rfl) dX7_lastHeir_18 rfl) (fun v5 _ => ?_)
  refine lx_iaload hC (th_a5 h2) dX7_lastHeir_21 ?_
  exact lx_iret hC rfl hr dX7_lastHeir_22
set_option maxRecDepth 100000 in
set_option maxHeartbeats 2000000 in
theorem l_X2_fillFrom_b38 {X : Cx} {V : Vx} {A : Nat → Prop} {adV : Nat → Nat} {c0 s0 : Nat} (hC : Cok X V A yX2_fillFrom.cls cX2_fillFrom 5) (hE : Env0 V adV A (xs X) (xs X).heap) (hl : (xl X).stackTraces = false) (hx : ∀ x ∈ (xc X).exceptionTable.toList, False) (hr : (xh X).sig.returnType = none) (q2 : Nat) (x3 : Int32) (hq2 : isTh q2) (s : Mem) (kf31 : (Int32 × Mem) → Res Unit) (hk31 : ∀ a, LX X V A 32 543 c0 s0 (FM X V A (fun _ => none)) 31 [(0, .ref 4), (1, .ref q2), (2, .int a.1)] [] a.2 (kf31 a)) (kf38 : (Int32 × Mem) → Res Unit) (hk38 : ∀ a, LX X V A 32 543 c0 s0 (FM X V A (fun _ => none)) 38 [(0, .ref 4), (1, .ref q2), (2, .int x3), (3, .int a.1)] [] a.2 (kf38 a)) (w3 : Int32) : LX X V A 32 543 c0 s0 (FM X V A (fun _ => none)) 38 [(0, .ref 4), (1, .ref q2), (2, .int x3), (3, .int w3)] [] s (m_X2_fillFrom_b38 q2 x3 s kf31 kf38 w3 ) := by
  unfold m_X2_fillFrom_b38
  refine lx_iload_n hC dX2_fillFrom_38 rfl 3 rfl ?_
  refine lx_aload_n hC dX2_fillFrom_39 rfl 1 rfl ?_
  refine lx_getI hC (th_o hq2) rfl 9 (by decide) rfl inX6 wd104 dX2_fillFrom_40 ?_
  refine lx_icmp_ge hC 93 dX2_fillFrom_43 (by decide) ?_ ?_
  · skip
    refine lx_iincN (v := 1) hC dX2_fillFrom_93 2 rfl (by decide) rfl (fun y4 => ?_)
    refine lx_goto hC 31 dX2_fillFrom_96 (by decide) ?_
    exact lx_sub [1, 2, 0] rfl (hk31 (y4, s))
  · skip
    refine lx_aload_n hC dX2_fillFrom_46 rfl 0 rfl ?_
    refine lx_getR (q := 68) hC ly4 rfl 0 (by decide) rfl rfl inX2 wd187 dX2_fillFrom_47 ?_
    refine lx_iload_n hC dX2_fillFrom_50 rfl 2 rfl ?_
    refine lx_iconstv (v := 1) hC dX2_fillFrom_51 rfl ?_
    refine lx_isub hC dX2_fillFrom_52 ?_
    refine lx_aaload hC ly68 rfl rfl dX2_fillFrom_53 (fun h5 => ?_)
    refine lx_iload_n hC dX2_fillFrom_54 rfl 3 rfl ?_
    refine lx_iaload hC (ht_row h5) dX2_fillFrom_55 ?_
    refine lx_istoreN hC dX2_fillFrom_56 (by decide) (fun y6 => ?_)
    refine lx_aload_n hC dX2_fillFrom_58 rfl 1 rfl ?_
    refine lx_getR (q := 68) hC ly4 rfl 0 (by decide) rfl rfl inX2 wd187 dX2_fillFrom_59 ?_
    refine lx_iload_n hC dX2_fillFrom_62 rfl 3 rfl ?_
    refine lx_aaload hC ly68 rfl rfl dX2_fillFrom_63 (fun h7 => ?_)
    refine lx_iload_n hC dX2_fillFrom_64 rfl 4 rfl ?_
    refine lx_iload hC dX2_fillFrom_65 0 rfl ?_
    refine lx_iconstv (v := (-1)) hC dX2_fillFrom_67 rfl ?_
    refine lx_icmp_ne hC 75 dX2_fillFrom_68 (by decide) ?_ ?_
    · skip
      refine lx_aload_n hC dX2_fillFrom_75 rfl 1 rfl ?_
      refine lx_getR (q := 68) hC ly4 rfl 0 (by decide) rfl rfl inX2 wd187 dX2_fillFrom_76 ?_
      refine lx_iload_n hC dX2_fillFrom_79 rfl 3 rfl ?_
      refine lx_iconstv (v := 1) hC dX2_fillFrom_80 rfl ?_
      refine lx_isub hC dX2_fillFrom_81 ?_
      refine lx_aaload hC ly68 rfl rfl dX2_fillFrom_82 (fun h8 => ?_)
      refine lx_iload hC dX2_fillFrom_83 0 rfl ?_
      refine lx_iaload hC (ht_row h8) dX2_fillFrom_85 ?_
      refine lx_iastore hC (ht_row h7) dX2_fillFrom_86 (fun s9 => ?_)
      refine lx_iincN (v := 1) hC dX2_fillFrom_87 4 rfl (by decide) rfl (fun y10 => ?_)
      refine lx_goto hC 38 dX2_fillFrom_90 (by decide) ?_
      exact lx_sub [2, 3, 4, 0] rfl (hk38 (y10, s9))
    · skip
      refine lx_iconstv (v := (-1)) hC dX2_fillFrom_71 rfl ?_
      refine lx_goto hC 86 dX2_fillFrom_72 (by decide) ?_
      refine lx_iastore hC (ht_row h7) dX2_fillFrom_86 (fun s11 => ?_)
      refine lx_iincN (v := 1) hC dX2_fillFrom_87 4 rfl (by decide) rfl (fun y12 => ?_)
      refine lx_goto hC 38 dX2_fillFrom_90 (by decide) ?_
      exact lx_sub [2, 3, 4, 0] rfl (hk38 (y12, s11))
set_option maxRecDepth 100000 in
set_option maxHeartbeats 2000000 in
theorem n_X2_fillFrom_b38 (q2 : Nat) (x3 : Int32) (s : Mem) (kf31 : (Int32 × Mem) → Res Unit) (hm31 : ∀ a, Mn a.2 (kf31 a)) (kf38 : (Int32 × Mem) → Res Unit) (hm38 : ∀ a, Mn a.2 (kf38 a)) (w3 : Int32) : Mn s (m_X2_fillFrom_b38 q2 x3 s kf31 kf38 w3 ) := by
  unfold m_X2_fillFrom_b38
  refine mn_if ?_ ?_
  · skip
    refine mn_vl (fun y4 => ?_)
    exact hm31 (y4, s)
  · skip
    refine mn_if ?_ mn_none
    refine mn_if ?_ mn_none
    refine mn_vl (fun y6 => ?_)
    refine mn_if ?_ mn_none
    refine mn_if ?_ ?_
    · skip
      refine mn_if ?_ mn_none
      refine mn_if ?_ mn_none
      refine mn_if ?_ mn_none
      refine mn_put (fun s9 => ?_)
      refine mn_vl (fun y10 => ?_)
      exact hm38 (y10, s9)
    · skip
      refine mn_if ?_ mn_none
      refine mn_put (fun s11 => ?_)
      refine mn_vl (fun y12 => ?_)
      exact hm38 (y12, s11)
set_option maxRecDepth 100000 in
set_option maxHeartbeats 2000000 in
theorem l_X2_fillFrom_b31 {X : Cx} {V : Vx} {A : Nat → Prop} {adV : Nat → Nat} {c0 s0 : Nat} (hC : Cok X V A yX2_fillFrom.cls cX2_fillFrom 5) (hE : Env0 V adV A (xs X) (xs X).heap) (hl : (xl X).stackTraces = false) (hx : ∀ x ∈ (xc X).exceptionTable.toList, False) (hr : (xh X).sig.returnType = none) (q2 : Nat) (hq2 : isTh q2) (s : Mem) (kf31 : (Int32 × Mem) → Res Unit) (hk31 : ∀ a, LX X V A 32 543 c0 s0 (FM X V A (fun _ => none)) 31 [(0, .ref 4), (1, .ref q2), (2, .int a.1)] [] a.2 (kf31 a)) (w2 : Int32) : LX X V A 32 543 c0 s0 (FM X V A (fun _ => none)) 31 [(0, .ref 4), (1, .ref q2), (2, .int w2)] [] s (m_X2_fillFrom_b31 q2 s kf31 w2 ) := by
  unfold m_X2_fillFrom_b31
  refine lx_iload_n hC dX2_fillFrom_31 rfl 2 rfl ?_
  refine lx_iconstv (v := 5) hC dX2_fillFrom_32 rfl ?_
  refine lx_icmp_ge hC 99 dX2_fillFrom_33 (by decide) ?_ ?_
  · skip
    exact lx_vret hC rfl hr dX2_fillFrom_99
  · skip
    refine lx_iconstv (v := 0) hC dX2_fillFrom_36 rfl ?_
    refine lx_istore_n hC dX2_fillFrom_37 rfl (by decide) ?_
    refine lx_sub [1, 2, 3, 0] rfl ?_
    exact lx_lp (lv := fun a => [(0, .ref 4), (1, .ref q2), (2, .int w2), (3, .int a.1)]) (st := fun _ => []) (sg := fun a => a.2) (fun kf hq a => l_X2_fillFrom_b38 hC hE hl hx hr q2 w2 hq2 a.2 kf31 hk31 kf hq a.1) FUEL (0, s)
set_option maxRecDepth 100000 in
set_option maxHeartbeats 2000000 in
theorem n_X2_fillFrom_b31 (q2 : Nat) (s : Mem) (kf31 : (Int32 × Mem) → Res Unit) (hm31 : ∀ a, Mn a.2 (kf31 a)) (w2 : Int32) : Mn s (m_X2_fillFrom_b31 q2 s kf31 w2 ) := by
  unfold m_X2_fillFrom_b31
  refine mn_if ?_ ?_
  · skip
    exact mn_some
  · skip
    exact mn_lp (sg := fun a => a.2) (fun kf hq a => n_X2_fillFrom_b38 q2 w2 a.2 kf31 hm31 kf hq a.1) FUEL (0, s)
set_option maxRecDepth 100000 in
set_option maxHeartbeats 2000000 in
theorem l_X2_fillFrom_b2 {X : Cx} {V : Vx} {A : Nat → Prop} {adV : Nat → Nat} {c0 s0 : Nat} (hC : Cok X V A yX2_fillFrom.cls cX2_fillFrom 5) (hE : Env0 V adV A (xs X) (xs X).heap) (hl : (xl X).stackTraces = false) (hx : ∀ x ∈ (xc X).exceptionTable.toList, False) (hr : (xh X).sig.returnType = none) (q1 : Nat) (hq1 : isTh q1) (s : Mem) (kf2 : (Int32 × Mem) → Res Unit) (hk2 : ∀ a, LX X V A 32 543 c0 s0 (FM X V A (fun _ => none)) 2 [(0, .ref 4), (1, .ref q1), (2, .int a.1)] [] a.2 (kf2 a)) (w2 : Int32) : LX X V A 32 543 c0 s0 (FM X V A (fun _ => none)) 2 [(0, .ref 4), (1, .ref q1), (2, .int w2)] [] s (m_X2_fillFrom_b2 q1 s kf2 w2 ) := by
  unfold m_X2_fillFrom_b2
  refine lx_iload_n hC dX2_fillFrom_2 rfl 2 rfl ?_
  refine lx_aload_n hC dX2_fillFrom_3 rfl 1 rfl ?_
  refine lx_getI hC (th_o hq1) rfl 9 (by decide) rfl inX6 wd104 dX2_fillFrom_4 ?_
  refine lx_icmp_ge hC 29 dX2_fillFrom_7 (by decide) ?_ ?_
  · skip
    refine lx_iconstv (v := 1) hC dX2_fillFrom_29 rfl ?_
    refine lx_istore_n hC dX2_fillFrom_30 rfl (by decide) ?_
    refine lx_sub [1, 2, 0] rfl ?_
    exact lx_lp (lv := fun a => [(0, .ref 4), (1, .ref q1), (2, .int a.1)]) (st := fun _ => []) (sg := fun a => a.2) (fun kf hq a => l_X2_fillFrom_b31 hC hE hl hx hr q1 hq1 a.2 kf hq a.1) FUEL (1, s)
  · skip
    refine lx_aload_n hC dX2_fillFrom_10 rfl 0 rfl ?_
    refine lx_getR (q := 68) hC ly4 rfl 0 (by decide) rfl rfl inX2 wd187 dX2_fillFrom_11 ?_
    refine lx_iconstv (v := 0) hC dX2_fillFrom_14 rfl ?_
    refine lx_aaload hC ly68 rfl rfl dX2_fillFrom_15 (fun h13 => ?_)
    refine lx_iload_n hC dX2_fillFrom_16 rfl 2 rfl ?_
    refine lx_aload_n hC dX2_fillFrom_17 rfl 1 rfl ?_
    refine lx_iload_n hC dX2_fillFrom_18 rfl 2 rfl ?_
    refine lx_callP hC hx (sat_X6_heirSlotOf (xl X) hl q1 w2 hq1 s) (run_V (as := [.int w2]) (rest := [.int w2, .ref (arf 68 (0 : Int32).toNatClampNeg)]) hC hE (th_o hq1) rfl cw_X6_heirSlotOf ci_X6_heirSlotOf wd1244 cs_X6_heirSlotOf ce_X6_heirSlotOf cd_X6_heirSlotOf (by decide) (by decide) (Nat.le_of_ble_eq_true rfl) dX2_fillFrom_19 rfl) (fun v14 _ => ?_)
    refine lx_iastore hC (ht_row h13) dX2_fillFrom_22 (fun s15 => ?_)
    refine lx_iincN (v := 1) hC dX2_fillFrom_23 2 rfl (by decide) rfl (fun y16 => ?_)
    refine lx_goto hC 2 dX2_fillFrom_26 (by decide) ?_
    exact lx_sub [1, 2, 0] rfl (hk2 (y16, s15))
set_option maxRecDepth 100000 in
set_option maxHeartbeats 2000000 in
theorem n_X2_fillFrom_b2 (q1 : Nat) (s : Mem) (kf2 : (Int32 × Mem) → Res Unit) (hm2 : ∀ a, Mn a.2 (kf2 a)) (w2 : Int32) : Mn s (m_X2_fillFrom_b2 q1 s kf2 w2 ) := by
  unfold m_X2_fillFrom_b2
  refine mn_if ?_ ?_
  · skip
    exact mn_lp (sg := fun a => a.2) (fun kf hq a => n_X2_fillFrom_b31 q1 a.2 kf hq a.1) FUEL (1, s)
  · skip
    refine mn_if ?_ mn_none
    refine mn_bindP (fun v14 => ?_)
    refine mn_if ?_ mn_none
    refine mn_put (fun s15 => ?_)
    refine mn_vl (fun y16 => ?_)
    exact hm2 (y16, s15)
set_option maxRecDepth 100000 in
set_option maxHeartbeats 2000000 in
theorem n_X2_fillFrom (p0 : Nat) (s : Mem) : Mn s (m_X2_fillFrom p0 s) := by
  unfold m_X2_fillFrom
  exact mn_lp (sg := fun a => a.2) (fun kf hq a => n_X2_fillFrom_b2 p0 a.2 kf hq a.1) FUEL (0, s)
set_option maxRecDepth 100000 in
set_option maxHeartbeats 2000000 in
theorem sat_X2_fillFrom (l : Launch) (hl : l.stackTraces = false) (p0 : Nat) (hp0 : isTh p0) (s : Mem) : Sat l yX2_fillFrom (.code yX2_fillFrom cX2_fillFrom 5 (none)) 32 543 (fun _ => none) [.ref 4, .ref p0] s (m_X2_fillFrom p0 s) := by
  refine sat_of hl (by decide) (Nat.le_of_ble_eq_true rfl) (fun X V A adV hxl hC hE hx hr => ?_) (n_X2_fillFrom p0 s)
  subst hxl
  show LX X V A 32 543 (nC s) (nS s) _ 0 [(0, .ref 4), (1, .ref p0)] [] s _
  unfold m_X2_fillFrom
  refine lx_iconstv (v := 0) hC dX2_fillFrom_0 rfl ?_
  refine lx_istore_n hC dX2_fillFrom_1 rfl (by decide) ?_
  refine lx_sub [1, 2, 0] rfl ?_
  exact lx_lp (lv := fun a => [(0, .ref 4), (1, .ref p0), (2, .int a.1)]) (st := fun _ => []) (sg := fun a => a.2) (fun kf hq a => l_X2_fillFrom_b2 hC hE hl hx hr p0 hp0 a.2 kf hq a.1) FUEL (0, s)
set_option maxRecDepth 100000 in
set_option maxHeartbeats 2000000 in
theorem l_X2_endOfChainFrom_b4 {X : Cx} {V : Vx} {A : Nat → Prop} {adV : Nat → Nat} {c0 s0 : Nat} (hC : Cok X V A yX2_endOfChainFrom.cls cX2_endOfChainFrom 5) (hE : Env0 V adV A (xs X) (xs X).heap) (hl : (xl X).stackTraces = false) (hx : ∀ x ∈ (xc X).exceptionTable.toList, False) (hr : (xh X).sig.returnType = some .int) (s : Mem) (kf4 : (Int32 × Int32) → Option Int32) (hk4 : ∀ a, LX X V A 30 500 c0 s0 (FM X V A (fun x => some (.int x))) 4 [(0, .ref 4), (2, .int a.1), (3, .int a.2)] [] s (pur s (kf4 a))) (w2 : Int32) (w3 : Int32) : LX X V A 30 500 c0 s0 (FM X V A (fun x => some (.int x))) 4 [(0, .ref 4), (2, .int w2), (3, .int w3)] [] s (pur s (m_X2_endOfChainFrom_b4 s kf4 w2 w3 )) := by
  unfold m_X2_endOfChainFrom_b4
  refine lx_iload_n hC dX2_endOfChainFrom_4 rfl 2 rfl ?_
  refine lq_if_lt hC 33 dX2_endOfChainFrom_5 (by decide) ?_ ?_
  · skip
    refine lx_iload_n hC dX2_endOfChainFrom_33 rfl 1 rfl ?_
    exact lx_iret hC rfl hr dX2_endOfChainFrom_34
  · skip
    refine lx_aload_n hC dX2_endOfChainFrom_8 rfl 0 rfl ?_
    refine lx_getR (q := 68) hC ly4 rfl 0 (by decide) rfl rfl inX2 wd187 dX2_endOfChainFrom_9 ?_
    refine lx_iload_n hC dX2_endOfChainFrom_12 rfl 2 rfl ?_
    refine lq_aaload hC ly68 rfl rfl dX2_endOfChainFrom_13 (fun h1 => ?_)
    refine lx_iload_n hC dX2_endOfChainFrom_14 rfl 1 rfl ?_
    refine lq_iaload hC (ht_row h1) dX2_endOfChainFrom_15 ?_
    refine lq_istoreN hC dX2_endOfChainFrom_16 (by decide) (fun y2 => ?_)
    refine lx_iload hC dX2_endOfChainFrom_18 0 rfl ?_
    refine lx_iconstv (v := (-1)) hC dX2_endOfChainFrom_20 rfl ?_
    refine lq_icmp_eq hC 27 dX2_endOfChainFrom_21 (by decide) ?_ ?_
    · skip
      refine lq_iincN (v := (-1)) hC dX2_endOfChainFrom_27 3 rfl (by decide) rfl (fun y3 => ?_)
      refine lx_goto hC 4 dX2_endOfChainFrom_30 (by decide) ?_
      exact lx_sub [2, 3, 0] rfl (hk4 (w2, y3))
    · skip
      refine lx_iload hC dX2_endOfChainFrom_24 0 rfl ?_
      refine lx_istore_n hC dX2_endOfChainFrom_26 rfl (by decide) ?_
      refine lq_iincN (v := (-1)) hC dX2_endOfChainFrom_27 3 rfl (by decide) rfl (fun y4 => ?_)
      refine lx_goto hC 4 dX2_endOfChainFrom_30 (by decide) ?_
      exact lx_sub [3, 1, 0] rfl (hk4 (y2, y4))
set_option maxRecDepth 100000 in
set_option maxHeartbeats 2000000 in
theorem sat_X2_endOfChainFrom (l : Launch) (hl : l.stackTraces = false) (p0 : Int32) (s : Mem) : Sat l yX2_endOfChainFrom (.code yX2_endOfChainFrom cX2_endOfChainFrom 5 (some .int)) 30 500 (fun x => some (.int x)) [.ref 4, .int p0] s (pur s (m_X2_endOfChainFrom p0 s)) := by
  refine sat_of hl (by decide) (Nat.le_of_ble_eq_true rfl) (fun X V A adV hxl hC hE hx hr => ?_) pur_mono
  subst hxl
  show LX X V A 30 500 (nC s) (nS s) _ 0 [(0, .ref 4), (1, .int p0)] [] s _
  unfold m_X2_endOfChainFrom
  refine lx_iload_n hC dX2_endOfChainFrom_0 rfl 1 rfl ?_
  refine lx_istore_n hC dX2_endOfChainFrom_1 rfl (by decide) ?_
  refine lx_iconstv (v := 4) hC dX2_endOfChainFrom_2 rfl ?_
  refine lx_istore_n hC dX2_endOfChainFrom_3 rfl (by decide) ?_
  refine lx_sub [2, 1, 0] rfl ?_
  exact lq_lp (lv := fun a => [(0, .ref 4), (2, .int a.1), (3, .int a.2)]) (st := fun _ => []) (fun kf hq a => l_X2_endOfChainFrom_b4 hC hE hl hx hr s kf hq a.1 a.2) FUEL (p0, 4)
set_option maxRecDepth 100000 in
set_option maxHeartbeats 2000000 in
theorem n_X7_lastHeirByDoubling (p0 : Int32) (s : Mem) : Mn s (m_X7_lastHeirByDoubling p0 s) := by
  unfold m_X7_lastHeirByDoubling
  refine mn_bind (n_X7_slotOfActive p0 s) (fun v1 s2 => ?_)
  refine mn_bindP (fun v3 => ?_)
  refine mn_if ?_ mn_none
  refine mn_bind (n_X2_fillFrom v3 s2) (fun v5 s6 => ?_)
  refine mn_bindP (fun v7 => ?_)
  refine mn_if ?_ mn_none
  exact mn_some
set_option maxRecDepth 100000 in
set_option maxHeartbeats 2000000 in
theorem sat_X7_lastHeirByDoubling (l : Launch) (hl : l.stackTraces = false) (p0 : Int32) (s : Mem) : Sat l yX7_lastHeirByDoubling (.code yX7_lastHeirByDoubling cX7_lastHeirByDoubling 4 (some .int)) 33 567 (fun x => some (.int x)) [.ref 0, .int p0] s (m_X7_lastHeirByDoubling p0 s) := by
  refine sat_of hl (by decide) (Nat.le_of_ble_eq_true rfl) (fun X V A adV hxl hC hE hx hr => ?_) (n_X7_lastHeirByDoubling p0 s)
  subst hxl
  show LX X V A 33 567 (nC s) (nS s) _ 0 [(0, .ref 0), (1, .int p0)] [] s _
  unfold m_X7_lastHeirByDoubling
  refine lx_aload_n hC dX7_lastHeirByDoubling_0 rfl 0 rfl ?_
  refine lx_iload_n hC dX7_lastHeirByDoubling_1 rfl 1 rfl ?_
  refine lx_callX hC hx (sat_X7_slotOfActive (xl X) hl p0 s) (run_V (as := [.int p0]) (rest := []) hC hE ly0 rfl cw_X7_slotOfActive ci_X7_slotOfActive wd1028 cs_X7_slotOfActive ce_X7_slotOfActive cd_X7_slotOfActive (by decide) (by decide) (Nat.le_of_ble_eq_true rfl) dX7_lastHeirByDoubling_2 rfl) (fun v1 s2 _ => ?_)
  refine lx_istore_n hC dX7_lastHeirByDoubling_5 rfl (by decide) ?_
  refine lx_aload_n hC dX7_lastHeirByDoubling_6 rfl 1 rfl ?_
  refine lx_getR (q := 1) hC ly0 rfl 0 (by decide) rfl rfl inX7 wd247 dX7_lastHeirByDoubling_7 ?_
  refine lx_callP hC hx (sat_X3_present (xl X) hl s2) (run_V (as := []) (rest := []) hC hE ly1 rfl cw_X3_present ci_X3_present wd282 cs_X3_present ce_X3_present cd_X3_present (by decide) (by decide) (Nat.le_of_ble_eq_true rfl) dX7_lastHeirByDoubling_10 rfl) (fun v3 _ => ?_)
  refine lx_if fun h4 => ?_
  refine lx_astore_n hC dX7_lastHeirByDoubling_13 rfl (by decide) ?_
  refine lx_aload_n hC dX7_lastHeirByDoubling_14 rfl 2 rfl ?_
  refine lx_getR (q := 4) hC ly0 rfl 3 (by decide) rfl rfl inX7 wd250 dX7_lastHeirByDoubling_15 ?_
  refine lx_aload_n hC dX7_lastHeirByDoubling_18 rfl 0 rfl ?_
  refine lx_callX hC hx (sat_X2_fillFrom (xl X) hl v3 h4 s2) (run_V (as := [.ref v3]) (rest := []) hC hE ly4 rfl cw_X2_fillFrom ci_X2_fillFrom wd1240 cs_X2_fillFrom ce_X2_fillFrom cd_X2_fillFrom (by decide) (by decide) (Nat.le_of_ble_eq_true rfl) dX7_lastHeirByDoubling_19 rfl) (fun v5 s6 _ => ?_)
  refine lx_aload_n hC dX7_lastHeirByDoubling_22 rfl 0 rfl ?_
  refine lx_getR (q := v3 + 384) hC (th_o h4) rfl 5 (by decide) rfl rfl inX6 wd92 dX7_lastHeirByDoubling_23 ?_
  refine lx_aload_n hC dX7_lastHeirByDoubling_26 rfl 2 rfl ?_
  refine lx_getR (q := 4) hC ly0 rfl 3 (by decide) rfl rfl inX7 wd250 dX7_lastHeirByDoubling_27 ?_
  refine lx_iload_n hC dX7_lastHeirByDoubling_30 rfl 1 rfl ?_
  refine lx_callP hC hx (sat_X2_endOfChainFrom (xl X) hl v1 s6) (run_V (as := [.int v1]) (rest := [.ref (v3 + 384)]) hC hE ly4 rfl cw_X2_endOfChainFrom ci_X2_endOfChainFrom wd1249 cs_X2_endOfChainFrom ce_X2_endOfChainFrom cd_X2_endOfChainFrom (by decide) (by decide) (Nat.le_of_ble_eq_true rfl) dX7_lastHeirByDoubling_31 rfl) (fun v7 _ => ?_)
  refine lx_iaload hC (th_a5 h4) dX7_lastHeirByDoubling_34 ?_
  exact lx_iret hC rfl hr dX7_lastHeirByDoubling_35
set_option maxRecDepth 100000 in
set_option maxHeartbeats 2000000 in
theorem l_X6_chainLengthFrom_b8 {X : Cx} {V : Vx} {A : Nat → Prop} {adV : Nat → Nat} {c0 s0 : Nat} (hC : Cok X V A yX6_chainLengthFrom.cls cX6_chainLengthFrom 4) (hE : Env0 V adV A (xs X) (xs X).heap) (hl : (xl X).stackTraces = false) (hx : ∀ x ∈ (xc X).exceptionTable.toList, False) (hr : (xh X).sig.returnType = some .int) (q2 : Nat) (hq2 : isTh q2) (s : Mem) (kf8 : (Int32 × Int32) → Option Int32) (hk8 : ∀ a, LX X V A 32 543 c0 s0 (FM X V A (fun x => some (.int x))) 8 [(0, .ref q2), (2, .int a.1), (3, .int a.2)] [] s (pur s (kf8 a))) (w2 : Int32) (w3 : Int32) : LX X V A 32 543 c0 s0 (FM X V A (fun x => some (.int x))) 8 [(0, .ref q2), (2, .int w2), (3, .int w3)] [] s (pur s (m_X6_chainLengthFrom_b8 q2 s kf8 w2 w3 )) := by
  unfold m_X6_chainLengthFrom_b8
  refine lx_iload_n hC dX6_chainLengthFrom_8 rfl 1 rfl ?_
  refine lx_bipush (v := 24) hC dX6_chainLengthFrom_9 (by decide) ?_
  refine lq_icmp_ge hC 31 dX6_chainLengthFrom_11 (by decide) ?_ ?_
  · skip
    refine lx_iload_n hC dX6_chainLengthFrom_31 rfl 1 rfl ?_
    exact lx_iret hC rfl hr dX6_chainLengthFrom_32
  · skip
    refine lx_iload_n hC dX6_chainLengthFrom_14 rfl 2 rfl ?_
    refine lx_iconstv (v := (-1)) hC dX6_chainLengthFrom_15 rfl ?_
    refine lq_icmp_eq hC 31 dX6_chainLengthFrom_16 (by decide) ?_ ?_
    · skip
      refine lx_iload_n hC dX6_chainLengthFrom_31 rfl 1 rfl ?_
      exact lx_iret hC rfl hr dX6_chainLengthFrom_32
    · skip
      refine lq_iincN (v := 1) hC dX6_chainLengthFrom_19 1 rfl (by decide) rfl (fun y3 => ?_)
      refine lx_aload_n hC dX6_chainLengthFrom_22 rfl 1 rfl ?_
      refine lx_iload_n hC dX6_chainLengthFrom_23 rfl 2 rfl ?_
      refine lq_call hC hx (sat_X6_heirSlotOf (xl X) hl q2 w3 hq2 s) (run_V (as := [.int w3]) (rest := []) hC hE (th_o hq2) rfl cw_X6_heirSlotOf ci_X6_heirSlotOf wd373 cs_X6_heirSlotOf ce_X6_heirSlotOf cd_X6_heirSlotOf (by decide) (by decide) (Nat.le_of_ble_eq_true rfl) dX6_chainLengthFrom_24 rfl) (fun v4 _ => ?_)
      refine lx_istore_n hC dX6_chainLengthFrom_27 rfl (by decide) ?_
      refine lx_goto hC 8 dX6_chainLengthFrom_28 (by decide) ?_
      exact lx_sub [2, 1, 0] rfl (hk8 (y3, v4))
set_option maxRecDepth 100000 in
set_option maxHeartbeats 2000000 in
theorem sat_X6_chainLengthFrom (l : Launch) (hl : l.stackTraces = false) (t : Nat) (p0 : Int32) (ht : isTh t) (s : Mem) : Sat l yX6_chainLengthFrom (.code yX6_chainLengthFrom cX6_chainLengthFrom 4 (some .int)) 32 543 (fun x => some (.int x)) [.ref t, .int p0] s (pur s (m_X6_chainLengthFrom t p0 s)) := by
  refine sat_of hl (by decide) (Nat.le_of_ble_eq_true rfl) (fun X V A adV hxl hC hE hx hr => ?_) pur_mono
  subst hxl
  show LX X V A 32 543 (nC s) (nS s) _ 0 [(0, .ref t), (1, .int p0)] [] s _
  unfold m_X6_chainLengthFrom
  refine lx_iconstv (v := 0) hC dX6_chainLengthFrom_0 rfl ?_
  refine lx_istore_n hC dX6_chainLengthFrom_1 rfl (by decide) ?_
  refine lx_aload_n hC dX6_chainLengthFrom_2 rfl 1 rfl ?_
  refine lx_iload_n hC dX6_chainLengthFrom_3 rfl 2 rfl ?_
  refine lq_call hC hx (sat_X6_heirSlotOf (xl X) hl t p0 ht s) (run_V (as := [.int p0]) (rest := []) hC hE (th_o ht) rfl cw_X6_heirSlotOf ci_X6_heirSlotOf wd373 cs_X6_heirSlotOf ce_X6_heirSlotOf cd_X6_heirSlotOf (by decide) (by decide) (Nat.le_of_ble_eq_true rfl) dX6_chainLengthFrom_4 rfl) (fun v1 _ => ?_)
  refine lx_istore_n hC dX6_chainLengthFrom_7 rfl (by decide) ?_
  refine lx_sub [2, 1, 0] rfl ?_
  exact lq_lp (lv := fun a => [(0, .ref t), (2, .int a.1), (3, .int a.2)]) (st := fun _ => []) (fun kf hq a => l_X6_chainLengthFrom_b8 hC hE hl hx hr t ht s kf hq a.1 a.2) FUEL (0, v1)
set_option maxRecDepth 100000 in
set_option maxHeartbeats 2000000 in
theorem n_X7_stepsToLastHeir (p0 : Int32) (s : Mem) : Mn s (m_X7_stepsToLastHeir p0 s) := by
  unfold m_X7_stepsToLastHeir
  refine mn_bindP (fun v1 => ?_)
  refine mn_if ?_ mn_none
  refine mn_bind (n_X7_slotOfActive p0 s) (fun v3 s4 => ?_)
  refine mn_bindP (fun v5 => ?_)
  exact mn_some
set_option maxRecDepth 100000 in
set_option maxHeartbeats 2000000 in
theorem sat_X7_stepsToLastHeir (l : Launch) (hl : l.stackTraces = false) (p0 : Int32) (s : Mem) : Sat l yX7_stepsToLastHeir (.code yX7_stepsToLastHeir cX7_stepsToLastHeir 2 (some .int)) 33 566 (fun x => some (.int x)) [.ref 0, .int p0] s (m_X7_stepsToLastHeir p0 s) := by
  refine sat_of hl (by decide) (Nat.le_of_ble_eq_true rfl) (fun X V A adV hxl hC hE hx hr => ?_) (n_X7_stepsToLastHeir p0 s)
  subst hxl
  show LX X V A 33 566 (nC s) (nS s) _ 0 [(0, .ref 0), (1, .int p0)] [] s _
  unfold m_X7_stepsToLastHeir
  refine lx_aload_n hC dX7_stepsToLastHeir_0 rfl 0 rfl ?_
  refine lx_getR (q := 1) hC ly0 rfl 0 (by decide) rfl rfl inX7 wd247 dX7_stepsToLastHeir_1 ?_
  refine lx_callP hC hx (sat_X3_present (xl X) hl s) (run_V (as := []) (rest := []) hC hE ly1 rfl cw_X3_present ci_X3_present wd282 cs_X3_present ce_X3_present cd_X3_present (by decide) (by decide) (Nat.le_of_ble_eq_true rfl) dX7_stepsToLastHeir_4 rfl) (fun v1 _ => ?_)
  refine lx_if fun h2 => ?_
  refine lx_aload_n hC dX7_stepsToLastHeir_7 rfl 0 rfl ?_
  refine lx_iload_n hC dX7_stepsToLastHeir_8 rfl 1 rfl ?_
  refine lx_callX hC hx (sat_X7_slotOfActive (xl X) hl p0 s) (run_V (as := [.int p0]) (rest := [.ref v1]) hC hE ly0 rfl cw_X7_slotOfActive ci_X7_slotOfActive wd1028 cs_X7_slotOfActive ce_X7_slotOfActive cd_X7_slotOfActive (by decide) (by decide) (Nat.le_of_ble_eq_true rfl) dX7_stepsToLastHeir_9 rfl) (fun v3 s4 _ => ?_)
  refine lx_callP hC hx (sat_X6_chainLengthFrom (xl X) hl v1 v3 h2 s4) (run_V (as := [.int v3]) (rest := []) hC hE (th_o h2) rfl cw_X6_chainLengthFrom ci_X6_chainLengthFrom wd1404 cs_X6_chainLengthFrom ce_X6_chainLengthFrom cd_X6_chainLengthFrom (by decide) (by decide) (Nat.le_of_ble_eq_true rfl) dX7_stepsToLastHeir_12 rfl) (fun v5 _ => ?_)
  exact lx_iret hC rfl hr dX7_stepsToLastHeir_15
set_option maxRecDepth 100000 in
set_option maxHeartbeats 2000000 in
theorem l_X6_echoesWithHeir_b4 {X : Cx} {V : Vx} {A : Nat → Prop} {adV : Nat → Nat} {c0 s0 : Nat} (hC : Cok X V A yX6_echoesWithHeir.cls cX6_echoesWithHeir 4) (hE : Env0 V adV A (xs X) (xs X).heap) (hl : (xl X).stackTraces = false) (hx : ∀ x ∈ (xc X).exceptionTable.toList, False) (hr : (xh X).sig.returnType = some .int) (q1 : Nat) (x2 : Int32) (hq1 : isTh q1) (s : Mem) (kf4 : (Int32 × Int32) → Option Int32) (hk4 : ∀ a, LX X V A 30 500 c0 s0 (FM X V A (fun x => some (.int x))) 4 [(0, .ref q1), (1, .int x2), (2, .int a.1), (3, .int a.2)] [] s (pur s (kf4 a))) (w2 : Int32) (w3 : Int32) : LX X V A 30 500 c0 s0 (FM X V A (fun x => some (.int x))) 4 [(0, .ref q1), (1, .int x2), (2, .int w2), (3, .int w3)] [] s (pur s (m_X6_echoesWithHeir_b4 q1 x2 s kf4 w2 w3 )) := by
  unfold m_X6_echoesWithHeir_b4
  refine lx_iload_n hC dX6_echoesWithHeir_4 rfl 3 rfl ?_
  refine lx_aload_n hC dX6_echoesWithHeir_5 rfl 0 rfl ?_
  refine lx_getI hC (th_o hq1) rfl 9 (by decide) rfl inX6 wd105 dX6_echoesWithHeir_6 ?_
  refine lq_icmp_ge hC 31 dX6_echoesWithHeir_9 (by decide) ?_ ?_
  · skip
    refine lx_iload_n hC dX6_echoesWithHeir_31 rfl 2 rfl ?_
    exact lx_iret hC rfl hr dX6_echoesWithHeir_32
  · skip
    refine lx_aload_n hC dX6_echoesWithHeir_12 rfl 0 rfl ?_
    refine lx_getR (q := q1 + 576) hC (th_o hq1) rfl 8 (by decide) rfl rfl inX6 wd100 dX6_echoesWithHeir_13 ?_
    refine lx_iload_n hC dX6_echoesWithHeir_16 rfl 3 rfl ?_
    refine lq_iaload hC (th_a8 hq1) dX6_echoesWithHeir_17 ?_
    refine lx_iload_n hC dX6_echoesWithHeir_18 rfl 1 rfl ?_
    refine lq_icmp_ne hC 25 dX6_echoesWithHeir_19 (by decide) ?_ ?_
    · skip
      refine lq_iincN (v := 1) hC dX6_echoesWithHeir_25 3 rfl (by decide) rfl (fun y3 => ?_)
      refine lx_goto hC 4 dX6_echoesWithHeir_28 (by decide) ?_
      exact lx_sub [1, 2, 3, 0] rfl (hk4 (w2, y3))
    · skip
      refine lq_iincN (v := 1) hC dX6_echoesWithHeir_22 2 rfl (by decide) rfl (fun y4 => ?_)
      refine lq_iincN (v := 1) hC dX6_echoesWithHeir_25 3 rfl (by decide) rfl (fun y5 => ?_)
      refine lx_goto hC 4 dX6_echoesWithHeir_28 (by decide) ?_
      exact lx_sub [2, 3, 1, 0] rfl (hk4 (y4, y5))
set_option maxRecDepth 100000 in
set_option maxHeartbeats 2000000 in
theorem sat_X6_echoesWithHeir (l : Launch) (hl : l.stackTraces = false) (t : Nat) (p0 : Int32) (ht : isTh t) (s : Mem) : Sat l yX6_echoesWithHeir (.code yX6_echoesWithHeir cX6_echoesWithHeir 4 (some .int)) 30 500 (fun x => some (.int x)) [.ref t, .int p0] s (pur s (m_X6_echoesWithHeir t p0 s)) := by
  refine sat_of hl (by decide) (Nat.le_of_ble_eq_true rfl) (fun X V A adV hxl hC hE hx hr => ?_) pur_mono
  subst hxl
  show LX X V A 30 500 (nC s) (nS s) _ 0 [(0, .ref t), (1, .int p0)] [] s _
  unfold m_X6_echoesWithHeir
  refine lx_iconstv (v := 0) hC dX6_echoesWithHeir_0 rfl ?_
  refine lx_istore_n hC dX6_echoesWithHeir_1 rfl (by decide) ?_
  refine lx_iconstv (v := 0) hC dX6_echoesWithHeir_2 rfl ?_
  refine lx_istore_n hC dX6_echoesWithHeir_3 rfl (by decide) ?_
  refine lx_sub [2, 3, 1, 0] rfl ?_
  exact lq_lp (lv := fun a => [(0, .ref t), (1, .int p0), (2, .int a.1), (3, .int a.2)]) (st := fun _ => []) (fun kf hq a => l_X6_echoesWithHeir_b4 hC hE hl hx hr t p0 ht s kf hq a.1 a.2) FUEL (0, 0)
set_option maxRecDepth 100000 in
set_option maxHeartbeats 2000000 in
theorem n_X7_bequeathers (p0 : Int32) (s : Mem) : Mn s (m_X7_bequeathers p0 s) := by
  unfold m_X7_bequeathers
  refine mn_bindP (fun v1 => ?_)
  refine mn_if ?_ mn_none
  refine mn_bind (n_X7_slotOfActive p0 s) (fun v3 s4 => ?_)
  refine mn_if ?_ mn_none
  refine mn_bindP (fun v5 => ?_)
  exact mn_some
set_option maxRecDepth 100000 in
set_option maxHeartbeats 2000000 in
theorem sat_X7_bequeathers (l : Launch) (hl : l.stackTraces = false) (p0 : Int32) (s : Mem) : Sat l yX7_bequeathers (.code yX7_bequeathers cX7_bequeathers 3 (some .int)) 32 544 (fun x => some (.int x)) [.ref 0, .int p0] s (m_X7_bequeathers p0 s) := by
  refine sat_of hl (by decide) (Nat.le_of_ble_eq_true rfl) (fun X V A adV hxl hC hE hx hr => ?_) (n_X7_bequeathers p0 s)
  subst hxl
  show LX X V A 32 544 (nC s) (nS s) _ 0 [(0, .ref 0), (1, .int p0)] [] s _
  unfold m_X7_bequeathers
  refine lx_aload_n hC dX7_bequeathers_0 rfl 0 rfl ?_
  refine lx_getR (q := 1) hC ly0 rfl 0 (by decide) rfl rfl inX7 wd247 dX7_bequeathers_1 ?_
  refine lx_callP hC hx (sat_X3_present (xl X) hl s) (run_V (as := []) (rest := []) hC hE ly1 rfl cw_X3_present ci_X3_present wd282 cs_X3_present ce_X3_present cd_X3_present (by decide) (by decide) (Nat.le_of_ble_eq_true rfl) dX7_bequeathers_4 rfl) (fun v1 _ => ?_)
  refine lx_if fun h2 => ?_
  refine lx_astore_n hC dX7_bequeathers_7 rfl (by decide) ?_
  refine lx_aload_n hC dX7_bequeathers_8 rfl 0 rfl ?_
  refine lx_aload_n hC dX7_bequeathers_9 rfl 0 rfl ?_
  refine lx_getR (q := v1 + 384) hC (th_o h2) rfl 5 (by decide) rfl rfl inX6 wd92 dX7_bequeathers_10 ?_
  refine lx_aload_n hC dX7_bequeathers_13 rfl 1 rfl ?_
  refine lx_iload_n hC dX7_bequeathers_14 rfl 2 rfl ?_
  refine lx_callX hC hx (sat_X7_slotOfActive (xl X) hl p0 s) (run_V (as := [.int p0]) (rest := [.ref (v1 + 384), .ref v1]) hC hE ly0 rfl cw_X7_slotOfActive ci_X7_slotOfActive wd1028 cs_X7_slotOfActive ce_X7_slotOfActive cd_X7_slotOfActive (by decide) (by decide) (Nat.le_of_ble_eq_true rfl) dX7_bequeathers_15 rfl) (fun v3 s4 _ => ?_)
  refine lx_iaload hC (th_a5 h2) dX7_bequeathers_18 ?_
  refine lx_callP hC hx (sat_X6_echoesWithHeir (xl X) hl v1 (gI s4 (v1 + 384) v3.toNatClampNeg) h2 s4) (run_V (as := [.int (gI s4 (v1 + 384) v3.toNatClampNeg)]) (rest := []) hC hE (th_o h2) rfl cw_X6_echoesWithHeir ci_X6_echoesWithHeir wd1415 cs_X6_echoesWithHeir ce_X6_echoesWithHeir cd_X6_echoesWithHeir (by decide) (by decide) (Nat.le_of_ble_eq_true rfl) dX7_bequeathers_19 rfl) (fun v5 _ => ?_)
  exact lx_iret hC rfl hr dX7_bequeathers_22
set_option maxRecDepth 100000 in
set_option maxHeartbeats 2000000 in
theorem n_X7_theatreWithRange (p0 : Int32) (p1 : Int32) (s : Mem) : Mn s (m_X7_theatreWithRange p0 p1 s) := by
  unfold m_X7_theatreWithRange
  refine mn_bindP (fun v1 => ?_)
  refine mn_if ?_ mn_none
  refine mn_bindP (fun v3 => ?_)
  refine mn_if ?_ ?_
  · skip
    exact mn_thr
  · skip
    refine mn_bindP (fun v4 => ?_)
    refine mn_if ?_ ?_
    · skip
      refine mn_if ?_ ?_
      · skip
        exact mn_some
      · skip
        exact mn_thr
    · skip
      exact mn_thr
set_option maxRecDepth 100000 in
set_option maxHeartbeats 2000000 in
theorem sat_X7_theatreWithRange (l : Launch) (hl : l.stackTraces = false) (p0 : Int32) (p1 : Int32) (s : Mem) : Sat l yX7_theatreWithRange (.code yX7_theatreWithRange cX7_theatreWithRange 4 (some (.object "EchoCensus$Theatre"))) 31 521 (fun x => some (.ref x)) [.ref 0, .int p0, .int p1] s (m_X7_theatreWithRange p0 p1 s) := by
  refine sat_of hl (by decide) (Nat.le_of_ble_eq_true rfl) (fun X V A adV hxl hC hE hx hr => ?_) (n_X7_theatreWithRange p0 p1 s)
  subst hxl
  show LX X V A 31 521 (nC s) (nS s) _ 0 [(0, .ref 0), (1, .int p0), (2, .int p1)] [] s _
  unfold m_X7_theatreWithRange
  refine lx_aload_n hC dX7_theatreWithRange_0 rfl 0 rfl ?_
  refine lx_getR (q := 1) hC ly0 rfl 0 (by decide) rfl rfl inX7 wd247 dX7_theatreWithRange_1 ?_
  refine lx_callP hC hx (sat_X3_present (xl X) hl s) (run_V (as := []) (rest := []) hC hE ly1 rfl cw_X3_present ci_X3_present wd282 cs_X3_present ce_X3_present cd_X3_present (by decide) (by decide) (Nat.le_of_ble_eq_true rfl) dX7_theatreWithRange_4 rfl) (fun v1 _ => ?_)
  refine lx_if fun h2 => ?_
  refine lx_astore_n hC dX7_theatreWithRange_7 rfl (by decide) ?_
  refine lx_aload_n hC dX7_theatreWithRange_8 rfl 0 rfl ?_
  refine lx_iload_n hC dX7_theatreWithRange_9 rfl 2 rfl ?_
  refine lx_callP hC hx (sat_X6_hasRow (xl X) hl v1 p0 h2 s) (run_V (as := [.int p0]) (rest := []) hC hE (th_o h2) rfl cw_X6_hasRow ci_X6_hasRow wd685 cs_X6_hasRow ce_X6_hasRow cd_X6_hasRow (by decide) (by decide) (Nat.le_of_ble_eq_true rfl) dX7_theatreWithRange_10 rfl) (fun v3 _ => ?_)
  refine lx_if_eq hC 24 dX7_theatreWithRange_13 (by decide) ?_ ?_
  · skip
    exact lx_throw hC hE hl hx (i := 1) (text := "there is no such row") rfl wd463 wd36 rfl thg_X7_IndexOutOfBoundsException_102 thn_X7_IndexOutOfBoundsException_102 tho_X7_IndexOutOfBoundsException_102 dX7_theatreWithRange_24 dX7_theatreWithRange_27 dX7_theatreWithRange_28 dX7_theatreWithRange_30 dX7_theatreWithRange_33 (by decide) (Nat.le_of_ble_eq_true rfl)
  · skip
    refine lx_aload_n hC dX7_theatreWithRange_16 rfl 0 rfl ?_
    refine lx_iload_n hC dX7_theatreWithRange_17 rfl 3 rfl ?_
    refine lx_callP hC hx (sat_X6_hasRow (xl X) hl v1 p1 h2 s) (run_V (as := [.int p1]) (rest := []) hC hE (th_o h2) rfl cw_X6_hasRow ci_X6_hasRow wd685 cs_X6_hasRow ce_X6_hasRow cd_X6_hasRow (by decide) (by decide) (Nat.le_of_ble_eq_true rfl) dX7_theatreWithRange_18 rfl) (fun v4 _ => ?_)
    refine lx_if_ne hC 34 dX7_theatreWithRange_21 (by decide) ?_ ?_
    · skip
      refine lx_iload_n hC dX7_theatreWithRange_34 rfl 2 rfl ?_
      refine lx_iload_n hC dX7_theatreWithRange_35 rfl 3 rfl ?_
      refine lx_icmp_le hC 49 dX7_theatreWithRange_36 (by decide) ?_ ?_
      · skip
        refine lx_aload_n hC dX7_theatreWithRange_49 rfl 0 rfl ?_
        exact lx_aret hC rfl hr (Or.inl ⟨_, rfl⟩) dX7_theatreWithRange_50
      · skip
        exact lx_throw hC hE hl hx (i := 6) (text := "the first row is greater than the last row") rfl wd479 wd37 rfl thg_X7_IllegalArgumentException_107 thn_X7_IllegalArgumentException_107 tho_X7_IllegalArgumentException_107 dX7_theatreWithRange_39 dX7_theatreWithRange_42 dX7_theatreWithRange_43 dX7_theatreWithRange_45 dX7_theatreWithRange_48 (by decide) (Nat.le_of_ble_eq_true rfl)
    · skip
      exact lx_throw hC hE hl hx (i := 1) (text := "there is no such row") rfl wd463 wd36 rfl thg_X7_IndexOutOfBoundsException_102 thn_X7_IndexOutOfBoundsException_102 tho_X7_IndexOutOfBoundsException_102 dX7_theatreWithRange_24 dX7_theatreWithRange_27 dX7_theatreWithRange_28 dX7_theatreWithRange_30 dX7_theatreWithRange_33 (by decide) (Nat.le_of_ble_eq_true rfl)
set_option maxRecDepth 100000 in
set_option maxHeartbeats 2000000 in
theorem l_X6_echoesBetween_b5 {X : Cx} {V : Vx} {A : Nat → Prop} {adV : Nat → Nat} {c0 s0 : Nat} (hC : Cok X V A yX6_echoesBetween.cls cX6_echoesBetween 5) (hE : Env0 V adV A (xs X) (xs X).heap) (hl : (xl X).stackTraces = false) (hx : ∀ x ∈ (xc X).exceptionTable.toList, False) (hr : (xh X).sig.returnType = some .int) (q1 : Nat) (x2 : Int32) (hq1 : isTh q1) (s : Mem) (kf5 : (Int32 × Int32) → Option Int32) (hk5 : ∀ a, LX X V A 31 523 c0 s0 (FM X V A (fun x => some (.int x))) 5 [(0, .ref q1), (2, .int x2), (3, .int a.1), (4, .int a.2)] [] s (pur s (kf5 a))) (w3 : Int32) (w4 : Int32) : LX X V A 31 523 c0 s0 (FM X V A (fun x => some (.int x))) 5 [(0, .ref q1), (2, .int x2), (3, .int w3), (4, .int w4)] [] s (pur s (m_X6_echoesBetween_b5 q1 x2 s kf5 w3 w4 )) := by
  unfold m_X6_echoesBetween_b5
  refine lx_iload hC dX6_echoesBetween_5 3 rfl ?_
  refine lx_iload_n hC dX6_echoesBetween_7 rfl 1 rfl ?_
  refine lq_icmp_gt hC 26 dX6_echoesBetween_8 (by decide) ?_ ?_
  · skip
    refine lx_iload_n hC dX6_echoesBetween_26 rfl 2 rfl ?_
    exact lx_iret hC rfl hr dX6_echoesBetween_27
  · skip
    refine lx_iload_n hC dX6_echoesBetween_11 rfl 2 rfl ?_
    refine lx_aload_n hC dX6_echoesBetween_12 rfl 0 rfl ?_
    refine lx_iload hC dX6_echoesBetween_13 3 rfl ?_
    refine lq_call hC hx (sat_X6_echoesIn (xl X) hl q1 w4 hq1 s) (run_V (as := [.int w4]) (rest := [.int w3]) hC hE (th_o hq1) rfl cw_X6_echoesIn ci_X6_echoesIn wd349 cs_X6_echoesIn ce_X6_echoesIn cd_X6_echoesIn (by decide) (by decide) (Nat.le_of_ble_eq_true rfl) dX6_echoesBetween_15 rfl) (fun v3 _ => ?_)
    refine lx_iadd hC dX6_echoesBetween_18 ?_
    refine lq_istore_nN hC dX6_echoesBetween_19 rfl (by decide) (fun y4 => ?_)
    refine lq_iincN (v := 1) hC dX6_echoesBetween_20 3 rfl (by decide) rfl (fun y5 => ?_)
    refine lx_goto hC 5 dX6_echoesBetween_23 (by decide) ?_
    exact lx_sub [2, 3, 1, 0] rfl (hk5 (y4, y5))
set_option maxRecDepth 100000 in
set_option maxHeartbeats 2000000 in
theorem sat_X6_echoesBetween (l : Launch) (hl : l.stackTraces = false) (t : Nat) (p0 : Int32) (p1 : Int32) (ht : isTh t) (s : Mem) : Sat l yX6_echoesBetween (.code yX6_echoesBetween cX6_echoesBetween 5 (some .int)) 31 523 (fun x => some (.int x)) [.ref t, .int p0, .int p1] s (pur s (m_X6_echoesBetween t p0 p1 s)) := by
  refine sat_of hl (by decide) (Nat.le_of_ble_eq_true rfl) (fun X V A adV hxl hC hE hx hr => ?_) pur_mono
  subst hxl
  show LX X V A 31 523 (nC s) (nS s) _ 0 [(0, .ref t), (1, .int p0), (2, .int p1)] [] s _
  unfold m_X6_echoesBetween
  refine lx_iconstv (v := 0) hC dX6_echoesBetween_0 rfl ?_
  refine lx_istore_n hC dX6_echoesBetween_1 rfl (by decide) ?_
  refine lx_iload_n hC dX6_echoesBetween_2 rfl 2 rfl ?_
  refine lx_istore hC dX6_echoesBetween_3 (by decide) ?_
  refine lx_sub [2, 4, 1, 0] rfl ?_
  exact lq_lp (lv := fun a => [(0, .ref t), (2, .int p1), (3, .int a.1), (4, .int a.2)]) (st := fun _ => []) (fun kf hq a => l_X6_echoesBetween_b5 hC hE hl hx hr t p1 ht s kf hq a.1 a.2) FUEL (0, p0)
set_option maxRecDepth 100000 in
set_option maxHeartbeats 2000000 in
theorem n_X7_countInRows (p0 : Int32) (p1 : Int32) (s : Mem) : Mn s (m_X7_countInRows p0 p1 s) := by
  unfold m_X7_countInRows
  refine mn_bind (n_X7_theatreWithRange p0 p1 s) (fun v1 s2 => ?_)
  refine mn_if ?_ mn_none
  refine mn_bindP (fun v4 => ?_)
  exact mn_some
set_option maxRecDepth 100000 in
set_option maxHeartbeats 2000000 in
theorem sat_X7_countInRows (l : Launch) (hl : l.stackTraces = false) (p0 : Int32) (p1 : Int32) (s : Mem) : Sat l yX7_countInRows (.code yX7_countInRows cX7_countInRows 3 (some .int)) 32 547 (fun x => some (.int x)) [.ref 0, .int p0, .int p1] s (m_X7_countInRows p0 p1 s) := by
  refine sat_of hl (by decide) (Nat.le_of_ble_eq_true rfl) (fun X V A adV hxl hC hE hx hr => ?_) (n_X7_countInRows p0 p1 s)
  subst hxl
  show LX X V A 32 547 (nC s) (nS s) _ 0 [(0, .ref 0), (1, .int p0), (2, .int p1)] [] s _
  unfold m_X7_countInRows
  refine lx_aload_n hC dX7_countInRows_0 rfl 0 rfl ?_
  refine lx_iload_n hC dX7_countInRows_1 rfl 1 rfl ?_
  refine lx_iload_n hC dX7_countInRows_2 rfl 2 rfl ?_
  refine lx_callX hC hx (sat_X7_theatreWithRange (xl X) hl p0 p1 s) (run_V (as := [.int p0, .int p1]) (rest := []) hC hE ly0 rfl cw_X7_theatreWithRange ci_X7_theatreWithRange wd1448 cs_X7_theatreWithRange ce_X7_theatreWithRange cd_X7_theatreWithRange (by decide) (by decide) (Nat.le_of_ble_eq_true rfl) dX7_countInRows_3 rfl) (fun v1 s2 _ => ?_)
  refine lx_if fun h3 => ?_
  refine lx_iload_n hC dX7_countInRows_6 rfl 1 rfl ?_
  refine lx_iload_n hC dX7_countInRows_7 rfl 2 rfl ?_
  refine lx_callP hC hx (sat_X6_echoesBetween (xl X) hl v1 p0 p1 h3 s2) (run_V (as := [.int p0, .int p1]) (rest := []) hC hE (th_o h3) rfl cw_X6_echoesBetween ci_X6_echoesBetween wd1283 cs_X6_echoesBetween ce_X6_echoesBetween cd_X6_echoesBetween (by decide) (by decide) (Nat.le_of_ble_eq_true rfl) dX7_countInRows_8 rfl) (fun v4 _ => ?_)
  exact lx_iret hC rfl hr dX7_countInRows_11
set_option maxRecDepth 100000 in
set_option maxHeartbeats 2000000 in
theorem l_X1_count_b4 {X : Cx} {V : Vx} {A : Nat → Prop} {adV : Nat → Nat} {c0 s0 : Nat} (hC : Cok X V A yX1_count.cls cX1_count 4) (hE : Env0 V adV A (xs X) (xs X).heap) (hl : (xl X).stackTraces = false) (hx : ∀ x ∈ (xc X).exceptionTable.toList, False) (hr : (xh X).sig.returnType = none) (x2 : Int32) (s : Mem) (kf4 : (Int32 × Mem) → Res Unit) (hk4 : ∀ a, LX X V A 30 500 c0 s0 (FM X V A (fun _ => none)) 4 [(0, .ref 3), (2, .int x2), (3, .int a.1)] [] a.2 (kf4 a)) (w3 : Int32) : LX X V A 30 500 c0 s0 (FM X V A (fun _ => none)) 4 [(0, .ref 3), (2, .int x2), (3, .int w3)] [] s (m_X1_count_b4 x2 s kf4 w3 ) := by
  unfold m_X1_count_b4
  refine lx_iload_n hC dX1_count_4 rfl 2 rfl ?_
  refine lx_bipush (v := 8) hC dX1_count_5 (by decide) ?_
  refine lx_icmp_gt hC 30 dX1_count_7 (by decide) ?_ ?_
  · skip
    exact lx_vret hC rfl hr dX1_count_30
  · skip
    refine lx_aload_n hC dX1_count_10 rfl 0 rfl ?_
    refine lx_getR (q := 67) hC ly3 rfl 0 (by decide) rfl rfl inX1 wd175 dX1_count_11 ?_
    refine lx_iload_n hC dX1_count_14 rfl 2 rfl ?_
    refine lx_dup2ir hC dX1_count_15 ?_
    refine lx_iaload hC ly67 dX1_count_16 ?_
    refine lx_iload_n hC dX1_count_17 rfl 1 rfl ?_
    refine lx_iadd hC dX1_count_18 ?_
    refine lx_iastore hC ly67 dX1_count_19 (fun s3 => ?_)
    refine lx_iload_n hC dX1_count_20 rfl 2 rfl ?_
    refine lx_iload_n hC dX1_count_21 rfl 2 rfl ?_
    refine lx_iload_n hC dX1_count_22 rfl 2 rfl ?_
    refine lx_ineg hC dX1_count_23 ?_
    refine lx_iand hC dX1_count_24 ?_
    refine lx_iadd hC dX1_count_25 ?_
    refine lx_istore_nN hC dX1_count_26 rfl (by decide) (fun y4 => ?_)
    refine lx_goto hC 4 dX1_count_27 (by decide) ?_
    exact lx_sub [1, 2, 0] rfl (hk4 (y4, s3))
set_option maxRecDepth 100000 in
set_option maxHeartbeats 2000000 in
theorem n_X1_count_b4 (x2 : Int32) (s : Mem) (kf4 : (Int32 × Mem) → Res Unit) (hm4 : ∀ a, Mn a.2 (kf4 a)) (w3 : Int32) : Mn s (m_X1_count_b4 x2 s kf4 w3 ) := by
  unfold m_X1_count_b4
  refine mn_if ?_ ?_
  · skip
    exact mn_some
  · skip
    refine mn_if ?_ mn_none
    refine mn_if ?_ mn_none
    refine mn_put (fun s3 => ?_)
    refine mn_vl (fun y4 => ?_)
    exact hm4 (y4, s3)
set_option maxRecDepth 100000 in
set_option maxHeartbeats 2000000 in
theorem n_X1_count (p0 : Int32) (p1 : Int32) (s : Mem) : Mn s (m_X1_count p0 p1 s) := by
  unfold m_X1_count
  refine mn_vl (fun y1 => ?_)
  exact mn_lp (sg := fun a => a.2) (fun kf hq a => n_X1_count_b4 p1 a.2 kf hq a.1) FUEL (y1, s)
set_option maxRecDepth 100000 in
set_option maxHeartbeats 2000000 in
theorem sat_X1_count (l : Launch) (hl : l.stackTraces = false) (p0 : Int32) (p1 : Int32) (s : Mem) : Sat l yX1_count (.code yX1_count cX1_count 4 (none)) 30 500 (fun _ => none) [.ref 3, .int p0, .int p1] s (m_X1_count p0 p1 s) := by
  refine sat_of hl (by decide) (Nat.le_of_ble_eq_true rfl) (fun X V A adV hxl hC hE hx hr => ?_) (n_X1_count p0 p1 s)
  subst hxl
  show LX X V A 30 500 (nC s) (nS s) _ 0 [(0, .ref 3), (1, .int p0), (2, .int p1)] [] s _
  unfold m_X1_count
  refine lx_iload_n hC dX1_count_0 rfl 1 rfl ?_
  refine lx_iconstv (v := 1) hC dX1_count_1 rfl ?_
  refine lx_iadd hC dX1_count_2 ?_
  refine lx_istore_nN hC dX1_count_3 rfl (by decide) (fun y1 => ?_)
  refine lx_sub [1, 3, 0] rfl ?_
  exact lx_lp (lv := fun a => [(0, .ref 3), (2, .int p1), (3, .int a.1)]) (st := fun _ => []) (sg := fun a => a.2) (fun kf hq a => l_X1_count_b4 hC hE hl hx hr p1 a.2 kf hq a.1) FUEL (y1, s)
set_option maxRecDepth 100000 in
set_option maxHeartbeats 2000000 in
theorem l_X1_fillFrom_b23 {X : Cx} {V : Vx} {A : Nat → Prop} {adV : Nat → Nat} {c0 s0 : Nat} (hC : Cok X V A yX1_fillFrom.cls cX1_fillFrom 3) (hE : Env0 V adV A (xs X) (xs X).heap) (hl : (xl X).stackTraces = false) (hx : ∀ x ∈ (xc X).exceptionTable.toList, False) (hr : (xh X).sig.returnType = none) (q2 : Nat) (hq2 : isTh q2) (s : Mem) (kf23 : (Int32 × Mem) → Res Unit) (hk23 : ∀ a, LX X V A 31 523 c0 s0 (FM X V A (fun _ => none)) 23 [(0, .ref 3), (1, .ref q2), (2, .int a.1)] [] a.2 (kf23 a)) (w2 : Int32) : LX X V A 31 523 c0 s0 (FM X V A (fun _ => none)) 23 [(0, .ref 3), (1, .ref q2), (2, .int w2)] [] s (m_X1_fillFrom_b23 q2 s kf23 w2 ) := by
  unfold m_X1_fillFrom_b23
  refine lx_iload_n hC dX1_fillFrom_23 rfl 2 rfl ?_
  refine lx_aload_n hC dX1_fillFrom_24 rfl 1 rfl ?_
  refine lx_getI hC (th_o hq2) rfl 4 (by decide) rfl inX6 wd85 dX1_fillFrom_25 ?_
  refine lx_icmp_ge hC 47 dX1_fillFrom_28 (by decide) ?_ ?_
  · skip
    exact lx_vret hC rfl hr dX1_fillFrom_47
  · skip
    refine lx_aload_n hC dX1_fillFrom_31 rfl 0 rfl ?_
    refine lx_iload_n hC dX1_fillFrom_32 rfl 2 rfl ?_
    refine lx_aload_n hC dX1_fillFrom_33 rfl 1 rfl ?_
    refine lx_iload_n hC dX1_fillFrom_34 rfl 2 rfl ?_
    refine lx_callP hC hx (sat_X6_echoesIn (xl X) hl q2 w2 hq2 s) (run_V (as := [.int w2]) (rest := [.int w2, .ref 3]) hC hE (th_o hq2) rfl cw_X6_echoesIn ci_X6_echoesIn wd1261 cs_X6_echoesIn ce_X6_echoesIn cd_X6_echoesIn (by decide) (by decide) (Nat.le_of_ble_eq_true rfl) dX1_fillFrom_35 rfl) (fun v3 _ => ?_)
    refine lx_callX hC hx (sat_X1_count (xl X) hl w2 v3 s) (run_V (as := [.int w2, .int v3]) (rest := []) hC hE ly3 rfl cw_X1_count ci_X1_count wd1262 cs_X1_count ce_X1_count cd_X1_count (by decide) (by decide) (Nat.le_of_ble_eq_true rfl) dX1_fillFrom_38 rfl) (fun v4 s5 _ => ?_)
    refine lx_iincN (v := 1) hC dX1_fillFrom_41 2 rfl (by decide) rfl (fun y6 => ?_)
    refine lx_goto hC 23 dX1_fillFrom_44 (by decide) ?_
    exact lx_sub [1, 2, 0] rfl (hk23 (y6, s5))
set_option maxRecDepth 100000 in
set_option maxHeartbeats 2000000 in
theorem n_X1_fillFrom_b23 (q2 : Nat) (s : Mem) (kf23 : (Int32 × Mem) → Res Unit) (hm23 : ∀ a, Mn a.2 (kf23 a)) (w2 : Int32) : Mn s (m_X1_fillFrom_b23 q2 s kf23 w2 ) := by
  unfold m_X1_fillFrom_b23
  refine mn_if ?_ ?_
  · skip
    exact mn_some
  · skip
    refine mn_bindP (fun v3 => ?_)
    refine mn_bind (n_X1_count w2 v3 s) (fun v4 s5 => ?_)
    refine mn_vl (fun y6 => ?_)
    exact hm23 (y6, s5)
set_option maxRecDepth 100000 in
set_option maxHeartbeats 2000000 in
theorem l_X1_fillFrom_b2 {X : Cx} {V : Vx} {A : Nat → Prop} {adV : Nat → Nat} {c0 s0 : Nat} (hC : Cok X V A yX1_fillFrom.cls cX1_fillFrom 3) (hE : Env0 V adV A (xs X) (xs X).heap) (hl : (xl X).stackTraces = false) (hx : ∀ x ∈ (xc X).exceptionTable.toList, False) (hr : (xh X).sig.returnType = none) (q1 : Nat) (hq1 : isTh q1) (s : Mem) (kf2 : (Int32 × Mem) → Res Unit) (hk2 : ∀ a, LX X V A 31 523 c0 s0 (FM X V A (fun _ => none)) 2 [(0, .ref 3), (1, .ref q1), (2, .int a.1)] [] a.2 (kf2 a)) (w2 : Int32) : LX X V A 31 523 c0 s0 (FM X V A (fun _ => none)) 2 [(0, .ref 3), (1, .ref q1), (2, .int w2)] [] s (m_X1_fillFrom_b2 q1 s kf2 w2 ) := by
  unfold m_X1_fillFrom_b2
  refine lx_iload_n hC dX1_fillFrom_2 rfl 2 rfl ?_
  refine lx_bipush (v := 8) hC dX1_fillFrom_3 (by decide) ?_
  refine lx_icmp_gt hC 21 dX1_fillFrom_5 (by decide) ?_ ?_
  · skip
    refine lx_iconstv (v := 0) hC dX1_fillFrom_21 rfl ?_
    refine lx_istore_n hC dX1_fillFrom_22 rfl (by decide) ?_
    refine lx_sub [1, 2, 0] rfl ?_
    exact lx_lp (lv := fun a => [(0, .ref 3), (1, .ref q1), (2, .int a.1)]) (st := fun _ => []) (sg := fun a => a.2) (fun kf hq a => l_X1_fillFrom_b23 hC hE hl hx hr q1 hq1 a.2 kf hq a.1) FUEL (0, s)
  · skip
    refine lx_aload_n hC dX1_fillFrom_8 rfl 0 rfl ?_
    refine lx_getR (q := 67) hC ly3 rfl 0 (by decide) rfl rfl inX1 wd175 dX1_fillFrom_9 ?_
    refine lx_iload_n hC dX1_fillFrom_12 rfl 2 rfl ?_
    refine lx_iconstv (v := 0) hC dX1_fillFrom_13 rfl ?_
    refine lx_iastore hC ly67 dX1_fillFrom_14 (fun s7 => ?_)
    refine lx_iincN (v := 1) hC dX1_fillFrom_15 2 rfl (by decide) rfl (fun y8 => ?_)
    refine lx_goto hC 2 dX1_fillFrom_18 (by decide) ?_
    exact lx_sub [1, 2, 0] rfl (hk2 (y8, s7))
set_option maxRecDepth 100000 in
set_option maxHeartbeats 2000000 in
theorem n_X1_fillFrom_b2 (q1 : Nat) (s : Mem) (kf2 : (Int32 × Mem) → Res Unit) (hm2 : ∀ a, Mn a.2 (kf2 a)) (w2 : Int32) : Mn s (m_X1_fillFrom_b2 q1 s kf2 w2 ) := by
  unfold m_X1_fillFrom_b2
  refine mn_if ?_ ?_
  · skip
    exact mn_lp (sg := fun a => a.2) (fun kf hq a => n_X1_fillFrom_b23 q1 a.2 kf hq a.1) FUEL (0, s)
  · skip
    refine mn_if ?_ mn_none
    refine mn_put (fun s7 => ?_)
    refine mn_vl (fun y8 => ?_)
    exact hm2 (y8, s7)
set_option maxRecDepth 100000 in
set_option maxHeartbeats 2000000 in
theorem n_X1_fillFrom (p0 : Nat) (s : Mem) : Mn s (m_X1_fillFrom p0 s) := by
  unfold m_X1_fillFrom
  exact mn_lp (sg := fun a => a.2) (fun kf hq a => n_X1_fillFrom_b2 p0 a.2 kf hq a.1) FUEL (0, s)
set_option maxRecDepth 100000 in
set_option maxHeartbeats 2000000 in
theorem sat_X1_fillFrom (l : Launch) (hl : l.stackTraces = false) (p0 : Nat) (hp0 : isTh p0) (s : Mem) : Sat l yX1_fillFrom (.code yX1_fillFrom cX1_fillFrom 3 (none)) 31 523 (fun _ => none) [.ref 3, .ref p0] s (m_X1_fillFrom p0 s) := by
  refine sat_of hl (by decide) (Nat.le_of_ble_eq_true rfl) (fun X V A adV hxl hC hE hx hr => ?_) (n_X1_fillFrom p0 s)
  subst hxl
  show LX X V A 31 523 (nC s) (nS s) _ 0 [(0, .ref 3), (1, .ref p0)] [] s _
  unfold m_X1_fillFrom
  refine lx_iconstv (v := 0) hC dX1_fillFrom_0 rfl ?_
  refine lx_istore_n hC dX1_fillFrom_1 rfl (by decide) ?_
  refine lx_sub [1, 2, 0] rfl ?_
  exact lx_lp (lv := fun a => [(0, .ref 3), (1, .ref p0), (2, .int a.1)]) (st := fun _ => []) (sg := fun a => a.2) (fun kf hq a => l_X1_fillFrom_b2 hC hE hl hx hr p0 hp0 a.2 kf hq a.1) FUEL (0, s)
set_option maxRecDepth 100000 in
set_option maxHeartbeats 2000000 in
theorem l_X1_sumOfFirst_b4 {X : Cx} {V : Vx} {A : Nat → Prop} {adV : Nat → Nat} {c0 s0 : Nat} (hC : Cok X V A yX1_sumOfFirst.cls cX1_sumOfFirst 4) (hE : Env0 V adV A (xs X) (xs X).heap) (hl : (xl X).stackTraces = false) (hx : ∀ x ∈ (xc X).exceptionTable.toList, False) (hr : (xh X).sig.returnType = some .int) (s : Mem) (kf4 : (Int32 × Int32) → Option Int32) (hk4 : ∀ a, LX X V A 30 500 c0 s0 (FM X V A (fun x => some (.int x))) 4 [(0, .ref 3), (2, .int a.1), (3, .int a.2)] [] s (pur s (kf4 a))) (w2 : Int32) (w3 : Int32) : LX X V A 30 500 c0 s0 (FM X V A (fun x => some (.int x))) 4 [(0, .ref 3), (2, .int w2), (3, .int w3)] [] s (pur s (m_X1_sumOfFirst_b4 s kf4 w2 w3 )) := by
  unfold m_X1_sumOfFirst_b4
  refine lx_iload_n hC dX1_sumOfFirst_4 rfl 2 rfl ?_
  refine lq_if_le hC 27 dX1_sumOfFirst_5 (by decide) ?_ ?_
  · skip
    refine lx_iload_n hC dX1_sumOfFirst_27 rfl 1 rfl ?_
    exact lx_iret hC rfl hr dX1_sumOfFirst_28
  · skip
    refine lx_iload_n hC dX1_sumOfFirst_8 rfl 1 rfl ?_
    refine lx_aload_n hC dX1_sumOfFirst_9 rfl 0 rfl ?_
    refine lx_getR (q := 67) hC ly3 rfl 0 (by decide) rfl rfl inX1 wd175 dX1_sumOfFirst_10 ?_
    refine lx_iload_n hC dX1_sumOfFirst_13 rfl 2 rfl ?_
    refine lq_iaload hC ly67 dX1_sumOfFirst_14 ?_
    refine lx_iadd hC dX1_sumOfFirst_15 ?_
    refine lq_istore_nN hC dX1_sumOfFirst_16 rfl (by decide) (fun y1 => ?_)
    refine lx_iload_n hC dX1_sumOfFirst_17 rfl 2 rfl ?_
    refine lx_iload_n hC dX1_sumOfFirst_18 rfl 2 rfl ?_
    refine lx_iload_n hC dX1_sumOfFirst_19 rfl 2 rfl ?_
    refine lx_ineg hC dX1_sumOfFirst_20 ?_
    refine lx_iand hC dX1_sumOfFirst_21 ?_
    refine lx_isub hC dX1_sumOfFirst_22 ?_
    refine lq_istore_nN hC dX1_sumOfFirst_23 rfl (by decide) (fun y2 => ?_)
    refine lx_goto hC 4 dX1_sumOfFirst_24 (by decide) ?_
    exact lx_sub [2, 1, 0] rfl (hk4 (y1, y2))
set_option maxRecDepth 100000 in
set_option maxHeartbeats 2000000 in
theorem sat_X1_sumOfFirst (l : Launch) (hl : l.stackTraces = false) (p0 : Int32) (s : Mem) : Sat l yX1_sumOfFirst (.code yX1_sumOfFirst cX1_sumOfFirst 4 (some .int)) 30 500 (fun x => some (.int x)) [.ref 3, .int p0] s (pur s (m_X1_sumOfFirst p0 s)) := by
  refine sat_of hl (by decide) (Nat.le_of_ble_eq_true rfl) (fun X V A adV hxl hC hE hx hr => ?_) pur_mono
  subst hxl
  show LX X V A 30 500 (nC s) (nS s) _ 0 [(0, .ref 3), (1, .int p0)] [] s _
  unfold m_X1_sumOfFirst
  refine lx_iconstv (v := 0) hC dX1_sumOfFirst_0 rfl ?_
  refine lx_istore_n hC dX1_sumOfFirst_1 rfl (by decide) ?_
  refine lx_iload_n hC dX1_sumOfFirst_2 rfl 2 rfl ?_
  refine lx_istore_n hC dX1_sumOfFirst_3 rfl (by decide) ?_
  refine lx_sub [2, 1, 0] rfl ?_
  exact lq_lp (lv := fun a => [(0, .ref 3), (2, .int a.1), (3, .int a.2)]) (st := fun _ => []) (fun kf hq a => l_X1_sumOfFirst_b4 hC hE hl hx hr s kf hq a.1 a.2) FUEL (0, p0)
set_option maxRecDepth 100000 in
set_option maxHeartbeats 2000000 in
theorem sat_X1_sumBetween (l : Launch) (hl : l.stackTraces = false) (p0 : Int32) (p1 : Int32) (s : Mem) : Sat l yX1_sumBetween (.code yX1_sumBetween cX1_sumBetween 3 (some .int)) 31 523 (fun x => some (.int x)) [.ref 3, .int p0, .int p1] s (pur s (m_X1_sumBetween p0 p1 s)) := by
  refine sat_of hl (by decide) (Nat.le_of_ble_eq_true rfl) (fun X V A adV hxl hC hE hx hr => ?_) pur_mono
  subst hxl
  show LX X V A 31 523 (nC s) (nS s) _ 0 [(0, .ref 3), (1, .int p0), (2, .int p1)] [] s _
  unfold m_X1_sumBetween
  refine lx_aload_n hC dX1_sumBetween_0 rfl 0 rfl ?_
  refine lx_iload_n hC dX1_sumBetween_1 rfl 2 rfl ?_
  refine lx_iconstv (v := 1) hC dX1_sumBetween_2 rfl ?_
  refine lx_iadd hC dX1_sumBetween_3 ?_
  refine lq_call hC hx (sat_X1_sumOfFirst (xl X) hl (p1 + 1) s) (run_V (as := [.int (p1 + 1)]) (rest := []) hC hE ly3 rfl cw_X1_sumOfFirst ci_X1_sumOfFirst wd1291 cs_X1_sumOfFirst ce_X1_sumOfFirst cd_X1_sumOfFirst (by decide) (by decide) (Nat.le_of_ble_eq_true rfl) dX1_sumBetween_4 rfl) (fun v1 _ => ?_)
  refine lx_aload_n hC dX1_sumBetween_7 rfl 0 rfl ?_
  refine lx_iload_n hC dX1_sumBetween_8 rfl 1 rfl ?_
  refine lq_call hC hx (sat_X1_sumOfFirst (xl X) hl p0 s) (run_V (as := [.int p0]) (rest := [.int v1]) hC hE ly3 rfl cw_X1_sumOfFirst ci_X1_sumOfFirst wd1291 cs_X1_sumOfFirst ce_X1_sumOfFirst cd_X1_sumOfFirst (by decide) (by decide) (Nat.le_of_ble_eq_true rfl) dX1_sumBetween_9 rfl) (fun v2 _ => ?_)
  refine lx_isub hC dX1_sumBetween_12 ?_
  exact lx_iret hC rfl hr dX1_sumBetween_13
set_option maxRecDepth 100000 in
set_option maxHeartbeats 2000000 in
theorem n_X7_countInRowsByTree (p0 : Int32) (p1 : Int32) (s : Mem) : Mn s (m_X7_countInRowsByTree p0 p1 s) := by
  unfold m_X7_countInRowsByTree
  refine mn_bind (n_X7_theatreWithRange p0 p1 s) (fun v1 s2 => ?_)
  refine mn_if ?_ mn_none
  refine mn_bind (n_X1_fillFrom v1 s2) (fun v4 s5 => ?_)
  refine mn_bindP (fun v6 => ?_)
  exact mn_some
set_option maxRecDepth 100000 in
set_option maxHeartbeats 2000000 in
theorem sat_X7_countInRowsByTree (l : Launch) (hl : l.stackTraces = false) (p0 : Int32) (p1 : Int32) (s : Mem) : Sat l yX7_countInRowsByTree (.code yX7_countInRowsByTree cX7_countInRowsByTree 3 (some .int)) 32 545 (fun x => some (.int x)) [.ref 0, .int p0, .int p1] s (m_X7_countInRowsByTree p0 p1 s) := by
  refine sat_of hl (by decide) (Nat.le_of_ble_eq_true rfl) (fun X V A adV hxl hC hE hx hr => ?_) (n_X7_countInRowsByTree p0 p1 s)
  subst hxl
  show LX X V A 32 545 (nC s) (nS s) _ 0 [(0, .ref 0), (1, .int p0), (2, .int p1)] [] s _
  unfold m_X7_countInRowsByTree
  refine lx_aload_n hC dX7_countInRowsByTree_0 rfl 0 rfl ?_
  refine lx_getR (q := 3) hC ly0 rfl 2 (by decide) rfl rfl inX7 wd249 dX7_countInRowsByTree_1 ?_
  refine lx_aload_n hC dX7_countInRowsByTree_4 rfl 0 rfl ?_
  refine lx_iload_n hC dX7_countInRowsByTree_5 rfl 1 rfl ?_
  refine lx_iload_n hC dX7_countInRowsByTree_6 rfl 2 rfl ?_
  refine lx_callX hC hx (sat_X7_theatreWithRange (xl X) hl p0 p1 s) (run_V (as := [.int p0, .int p1]) (rest := [.ref 3]) hC hE ly0 rfl cw_X7_theatreWithRange ci_X7_theatreWithRange wd1448 cs_X7_theatreWithRange ce_X7_theatreWithRange cd_X7_theatreWithRange (by decide) (by decide) (Nat.le_of_ble_eq_true rfl) dX7_countInRowsByTree_7 rfl) (fun v1 s2 _ => ?_)
  refine lx_if fun h3 => ?_
  refine lx_callX hC hx (sat_X1_fillFrom (xl X) hl v1 h3 s2) (run_V (as := [.ref v1]) (rest := []) hC hE ly3 rfl cw_X1_fillFrom ci_X1_fillFrom wd1257 cs_X1_fillFrom ce_X1_fillFrom cd_X1_fillFrom (by decide) (by decide) (Nat.le_of_ble_eq_true rfl) dX7_countInRowsByTree_10 rfl) (fun v4 s5 _ => ?_)
  refine lx_aload_n hC dX7_countInRowsByTree_13 rfl 0 rfl ?_
  refine lx_getR (q := 3) hC ly0 rfl 2 (by decide) rfl rfl inX7 wd249 dX7_countInRowsByTree_14 ?_
  refine lx_iload_n hC dX7_countInRowsByTree_17 rfl 1 rfl ?_
  refine lx_iload_n hC dX7_countInRowsByTree_18 rfl 2 rfl ?_
  refine lx_callP hC hx (sat_X1_sumBetween (xl X) hl p0 p1 s5) (run_V (as := [.int p0, .int p1]) (rest := []) hC hE ly3 rfl cw_X1_sumBetween ci_X1_sumBetween wd1287 cs_X1_sumBetween ce_X1_sumBetween cd_X1_sumBetween (by decide) (by decide) (Nat.le_of_ble_eq_true rfl) dX7_countInRowsByTree_19 rfl) (fun v6 _ => ?_)
  exact lx_iret hC rfl hr dX7_countInRowsByTree_22
set_option maxRecDepth 100000 in
set_option maxHeartbeats 2000000 in
theorem n_X7_theatreWithRank (p0 : Int32) (s : Mem) : Mn s (m_X7_theatreWithRank p0 s) := by
  unfold m_X7_theatreWithRank
  refine mn_bindP (fun v1 => ?_)
  refine mn_if ?_ mn_none
  refine mn_if ?_ ?_
  · skip
    exact mn_thr
  · skip
    refine mn_if ?_ ?_
    · skip
      exact mn_some
    · skip
      exact mn_thr
set_option maxRecDepth 100000 in
set_option maxHeartbeats 2000000 in
theorem sat_X7_theatreWithRank (l : Launch) (hl : l.stackTraces = false) (p0 : Int32) (s : Mem) : Sat l yX7_theatreWithRank (.code yX7_theatreWithRank cX7_theatreWithRank 3 (some (.object "EchoCensus$Theatre"))) 31 520 (fun x => some (.ref x)) [.ref 0, .int p0] s (m_X7_theatreWithRank p0 s) := by
  refine sat_of hl (by decide) (Nat.le_of_ble_eq_true rfl) (fun X V A adV hxl hC hE hx hr => ?_) (n_X7_theatreWithRank p0 s)
  subst hxl
  show LX X V A 31 520 (nC s) (nS s) _ 0 [(0, .ref 0), (1, .int p0)] [] s _
  unfold m_X7_theatreWithRank
  refine lx_aload_n hC dX7_theatreWithRank_0 rfl 0 rfl ?_
  refine lx_getR (q := 1) hC ly0 rfl 0 (by decide) rfl rfl inX7 wd247 dX7_theatreWithRank_1 ?_
  refine lx_callP hC hx (sat_X3_present (xl X) hl s) (run_V (as := []) (rest := []) hC hE ly1 rfl cw_X3_present ci_X3_present wd282 cs_X3_present ce_X3_present cd_X3_present (by decide) (by decide) (Nat.le_of_ble_eq_true rfl) dX7_theatreWithRank_4 rfl) (fun v1 _ => ?_)
  refine lx_if fun h2 => ?_
  refine lx_astore_n hC dX7_theatreWithRank_7 rfl (by decide) ?_
  refine lx_iload_n hC dX7_theatreWithRank_8 rfl 2 rfl ?_
  refine lx_if_lt hC 20 dX7_theatreWithRank_9 (by decide) ?_ ?_
  · skip
    exact lx_throwN hC hE hl hx (i := 7) (text := "there is no such rank") rfl wd393 wd35 rfl thg_X7_NoSuchElementException_95 thn_X7_NoSuchElementException_95 tho_X7_NoSuchElementException_95 dX7_theatreWithRank_20 dX7_theatreWithRank_23 dX7_theatreWithRank_24 dX7_theatreWithRank_26 dX7_theatreWithRank_29 (by decide) (Nat.le_of_ble_eq_true rfl)
  · skip
    refine lx_iload_n hC dX7_theatreWithRank_12 rfl 2 rfl ?_
    refine lx_aload_n hC dX7_theatreWithRank_13 rfl 0 rfl ?_
    refine lx_getI hC (th_o h2) rfl 9 (by decide) rfl inX6 wd108 dX7_theatreWithRank_14 ?_
    refine lx_icmp_lt hC 30 dX7_theatreWithRank_17 (by decide) ?_ ?_
    · skip
      refine lx_aload_n hC dX7_theatreWithRank_30 rfl 0 rfl ?_
      exact lx_aret hC rfl hr (Or.inl ⟨_, rfl⟩) dX7_theatreWithRank_31
    · skip
      exact lx_throwN hC hE hl hx (i := 7) (text := "there is no such rank") rfl wd393 wd35 rfl thg_X7_NoSuchElementException_95 thn_X7_NoSuchElementException_95 tho_X7_NoSuchElementException_95 dX7_theatreWithRank_20 dX7_theatreWithRank_23 dX7_theatreWithRank_24 dX7_theatreWithRank_26 dX7_theatreWithRank_29 (by decide) (Nat.le_of_ble_eq_true rfl)
set_option maxRecDepth 100000 in
set_option maxHeartbeats 2000000 in
theorem l_X6_idRanked_b4 {X : Cx} {V : Vx} {A : Nat → Prop} {adV : Nat → Nat} {c0 s0 : Nat} (hC : Cok X V A yX6_idRanked.cls cX6_idRanked 5) (hE : Env0 V adV A (xs X) (xs X).heap) (hl : (xl X).stackTraces = false) (hx : ∀ x ∈ (xc X).exceptionTable.toList, False) (hr : (xh X).sig.returnType = some .int) (q1 : Nat) (hq1 : isTh q1) (s : Mem) (kf4 : (Int32 × Int32) → Option Int32) (hk4 : ∀ a, LX X V A 31 524 c0 s0 (FM X V A (fun x => some (.int x))) 4 [(0, .ref q1), (2, .int a.1), (3, .int a.2)] [] s (pur s (kf4 a))) (w2 : Int32) (w3 : Int32) : LX X V A 31 524 c0 s0 (FM X V A (fun x => some (.int x))) 4 [(0, .ref q1), (2, .int w2), (3, .int w3)] [] s (pur s (m_X6_idRanked_b4 q1 s kf4 w2 w3 )) := by
  unfold m_X6_idRanked_b4
  refine lx_iload_n hC dX6_idRanked_4 rfl 2 rfl ?_
  refine lx_aload_n hC dX6_idRanked_5 rfl 0 rfl ?_
  refine lx_getI hC (th_o hq1) rfl 4 (by decide) rfl inX6 wd86 dX6_idRanked_6 ?_
  refine lq_icmp_ge hC 43 dX6_idRanked_9 (by decide) ?_ ?_
  · skip
    refine lx_iconstv (v := (-1)) hC dX6_idRanked_43 rfl ?_
    exact lx_iret hC rfl hr dX6_idRanked_44
  · skip
    refine lx_aload_n hC dX6_idRanked_12 rfl 0 rfl ?_
    refine lx_iload_n hC dX6_idRanked_13 rfl 2 rfl ?_
    refine lq_call hC hx (sat_X6_echoesIn (xl X) hl q1 w3 hq1 s) (run_V (as := [.int w3]) (rest := []) hC hE (th_o hq1) rfl cw_X6_echoesIn ci_X6_echoesIn wd349 cs_X6_echoesIn ce_X6_echoesIn cd_X6_echoesIn (by decide) (by decide) (Nat.le_of_ble_eq_true rfl) dX6_idRanked_14 rfl) (fun v2 _ => ?_)
    refine lx_istore hC dX6_idRanked_17 (by decide) ?_
    refine lx_iload_n hC dX6_idRanked_19 rfl 2 rfl ?_
    refine lx_iload hC dX6_idRanked_20 0 rfl ?_
    refine lq_icmp_ge hC 32 dX6_idRanked_22 (by decide) ?_ ?_
    · skip
      refine lx_iload_n hC dX6_idRanked_32 rfl 2 rfl ?_
      refine lx_iload hC dX6_idRanked_33 0 rfl ?_
      refine lx_isub hC dX6_idRanked_35 ?_
      refine lq_istore_nN hC dX6_idRanked_36 rfl (by decide) (fun y3 => ?_)
      refine lq_iincN (v := 1) hC dX6_idRanked_37 3 rfl (by decide) rfl (fun y4 => ?_)
      refine lx_goto hC 4 dX6_idRanked_40 (by decide) ?_
      exact lx_sub [3, 1, 0] rfl (hk4 (y3, y4))
    · skip
      refine lx_aload_n hC dX6_idRanked_25 rfl 1 rfl ?_
      refine lx_iload_n hC dX6_idRanked_26 rfl 3 rfl ?_
      refine lx_iload_n hC dX6_idRanked_27 rfl 2 rfl ?_
      refine lq_call hC hx (sat_X6_idAt (xl X) hl q1 w3 w2 hq1 s) (run_V (as := [.int w3, .int w2]) (rest := []) hC hE (th_o hq1) rfl cw_X6_idAt ci_X6_idAt wd1017 cs_X6_idAt ce_X6_idAt cd_X6_idAt (by decide) (by decide) (Nat.le_of_ble_eq_true rfl) dX6_idRanked_28 rfl) (fun v5 _ => ?_)
      exact lx_iret hC rfl hr dX6_idRanked_31
set_option maxRecDepth 100000 in
set_option maxHeartbeats 2000000 in
theorem sat_X6_idRanked (l : Launch) (hl : l.stackTraces = false) (t : Nat) (p0 : Int32) (ht : isTh t) (s : Mem) : Sat l yX6_idRanked (.code yX6_idRanked cX6_idRanked 5 (some .int)) 31 524 (fun x => some (.int x)) [.ref t, .int p0] s (pur s (m_X6_idRanked t p0 s)) := by
  refine sat_of hl (by decide) (Nat.le_of_ble_eq_true rfl) (fun X V A adV hxl hC hE hx hr => ?_) pur_mono
  subst hxl
  show LX X V A 31 524 (nC s) (nS s) _ 0 [(0, .ref t), (1, .int p0)] [] s _
  unfold m_X6_idRanked
  refine lx_iload_n hC dX6_idRanked_0 rfl 1 rfl ?_
  refine lx_istore_n hC dX6_idRanked_1 rfl (by decide) ?_
  refine lx_iconstv (v := 0) hC dX6_idRanked_2 rfl ?_
  refine lx_istore_n hC dX6_idRanked_3 rfl (by decide) ?_
  refine lx_sub [2, 1, 0] rfl ?_
  exact lq_lp (lv := fun a => [(0, .ref t), (2, .int a.1), (3, .int a.2)]) (st := fun _ => []) (fun kf hq a => l_X6_idRanked_b4 hC hE hl hx hr t ht s kf hq a.1 a.2) FUEL (p0, 0)
set_option maxRecDepth 100000 in
set_option maxHeartbeats 2000000 in
theorem n_X7_idByRank (p0 : Int32) (s : Mem) : Mn s (m_X7_idByRank p0 s) := by
  unfold m_X7_idByRank
  refine mn_bind (n_X7_theatreWithRank p0 s) (fun v1 s2 => ?_)
  refine mn_if ?_ mn_none
  refine mn_bindP (fun v4 => ?_)
  exact mn_some
set_option maxRecDepth 100000 in
set_option maxHeartbeats 2000000 in
theorem sat_X7_idByRank (l : Launch) (hl : l.stackTraces = false) (p0 : Int32) (s : Mem) : Sat l yX7_idByRank (.code yX7_idByRank cX7_idByRank 2 (some .int)) 32 548 (fun x => some (.int x)) [.ref 0, .int p0] s (m_X7_idByRank p0 s) := by
  refine sat_of hl (by decide) (Nat.le_of_ble_eq_true rfl) (fun X V A adV hxl hC hE hx hr => ?_) (n_X7_idByRank p0 s)
  subst hxl
  show LX X V A 32 548 (nC s) (nS s) _ 0 [(0, .ref 0), (1, .int p0)] [] s _
  unfold m_X7_idByRank
  refine lx_aload_n hC dX7_idByRank_0 rfl 0 rfl ?_
  refine lx_iload_n hC dX7_idByRank_1 rfl 1 rfl ?_
  refine lx_callX hC hx (sat_X7_theatreWithRank (xl X) hl p0 s) (run_V (as := [.int p0]) (rest := []) hC hE ly0 rfl cw_X7_theatreWithRank ci_X7_theatreWithRank wd1008 cs_X7_theatreWithRank ce_X7_theatreWithRank cd_X7_theatreWithRank (by decide) (by decide) (Nat.le_of_ble_eq_true rfl) dX7_idByRank_2 rfl) (fun v1 s2 _ => ?_)
  refine lx_if fun h3 => ?_
  refine lx_iload_n hC dX7_idByRank_5 rfl 1 rfl ?_
  refine lx_callP hC hx (sat_X6_idRanked (xl X) hl v1 p0 h3 s2) (run_V (as := [.int p0]) (rest := []) hC hE (th_o h3) rfl cw_X6_idRanked ci_X6_idRanked wd1013 cs_X6_idRanked ce_X6_idRanked cd_X6_idRanked (by decide) (by decide) (Nat.le_of_ble_eq_true rfl) dX7_idByRank_6 rfl) (fun v4 _ => ?_)
  exact lx_iret hC rfl hr dX7_idByRank_9
set_option maxRecDepth 100000 in
set_option maxHeartbeats 2000000 in
theorem l_X1_rowWithRank_b8 {X : Cx} {V : Vx} {A : Nat → Prop} {adV : Nat → Nat} {c0 s0 : Nat} (hC : Cok X V A yX1_rowWithRank.cls cX1_rowWithRank 6) (hE : Env0 V adV A (xs X) (xs X).heap) (hl : (xl X).stackTraces = false) (hx : ∀ x ∈ (xc X).exceptionTable.toList, False) (hr : (xh X).sig.returnType = some .int) (s : Mem) (kf8 : (Int32 × Int32 × Int32) → Option Int32) (hk8 : ∀ a, LX X V A 30 500 c0 s0 (FM X V A (fun x => some (.int x))) 8 [(0, .ref 3), (2, .int a.1), (3, .int a.2.1), (4, .int a.2.2)] [] s (pur s (kf8 a))) (w2 : Int32) (w3 : Int32) (w4 : Int32) : LX X V A 30 500 c0 s0 (FM X V A (fun x => some (.int x))) 8 [(0, .ref 3), (2, .int w2), (3, .int w3), (4, .int w4)] [] s (pur s (m_X1_rowWithRank_b8 s kf8 w2 w3 w4 )) := by
  unfold m_X1_rowWithRank_b8
  refine lx_iload hC dX1_rowWithRank_8 3 rfl ?_
  refine lq_if_le hC 59 dX1_rowWithRank_10 (by decide) ?_ ?_
  · skip
    refine lx_iload_n hC dX1_rowWithRank_59 rfl 1 rfl ?_
    exact lx_iret hC rfl hr dX1_rowWithRank_60
  · skip
    refine lx_iload_n hC dX1_rowWithRank_13 rfl 1 rfl ?_
    refine lx_iload hC dX1_rowWithRank_14 3 rfl ?_
    refine lx_iadd hC dX1_rowWithRank_16 ?_
    refine lq_istoreN hC dX1_rowWithRank_17 (by decide) (fun y1 => ?_)
    refine lx_iload hC dX1_rowWithRank_19 0 rfl ?_
    refine lx_bipush (v := 8) hC dX1_rowWithRank_21 (by decide) ?_
    refine lq_icmp_gt hC 50 dX1_rowWithRank_23 (by decide) ?_ ?_
    · skip
      refine lx_iload hC dX1_rowWithRank_50 4 rfl ?_
      refine lx_iconstv (v := 2) hC dX1_rowWithRank_52 rfl ?_
      refine lx_idiv hC dX1_rowWithRank_53 (by decide) ?_
      refine lq_istoreN hC dX1_rowWithRank_54 (by decide) (fun y2 => ?_)
      refine lx_goto hC 8 dX1_rowWithRank_56 (by decide) ?_
      exact lx_sub [2, 3, 4, 0] rfl (hk8 (w2, w3, y2))
    · skip
      refine lx_aload_n hC dX1_rowWithRank_26 rfl 1 rfl ?_
      refine lx_getR (q := 67) hC ly3 rfl 0 (by decide) rfl rfl inX1 wd175 dX1_rowWithRank_27 ?_
      refine lx_iload hC dX1_rowWithRank_30 0 rfl ?_
      refine lq_iaload hC ly67 dX1_rowWithRank_32 ?_
      refine lx_iload_n hC dX1_rowWithRank_33 rfl 3 rfl ?_
      refine lq_icmp_gt hC 50 dX1_rowWithRank_34 (by decide) ?_ ?_
      · skip
        refine lx_iload hC dX1_rowWithRank_50 4 rfl ?_
        refine lx_iconstv (v := 2) hC dX1_rowWithRank_52 rfl ?_
        refine lx_idiv hC dX1_rowWithRank_53 (by decide) ?_
        refine lq_istoreN hC dX1_rowWithRank_54 (by decide) (fun y3 => ?_)
        refine lx_goto hC 8 dX1_rowWithRank_56 (by decide) ?_
        exact lx_sub [2, 3, 4, 0] rfl (hk8 (w2, w3, y3))
      · skip
        refine lx_iload hC dX1_rowWithRank_37 0 rfl ?_
        refine lx_istore_n hC dX1_rowWithRank_39 rfl (by decide) ?_
        refine lx_iload_n hC dX1_rowWithRank_40 rfl 3 rfl ?_
        refine lx_aload_n hC dX1_rowWithRank_41 rfl 2 rfl ?_
        refine lx_getR (q := 67) hC ly3 rfl 0 (by decide) rfl rfl inX1 wd175 dX1_rowWithRank_42 ?_
        refine lx_iload hC dX1_rowWithRank_45 1 rfl ?_
        refine lq_iaload hC ly67 dX1_rowWithRank_47 ?_
        refine lx_isub hC dX1_rowWithRank_48 ?_
        refine lq_istore_nN hC dX1_rowWithRank_49 rfl (by decide) (fun y4 => ?_)
        refine lx_iload hC dX1_rowWithRank_50 4 rfl ?_
        refine lx_iconstv (v := 2) hC dX1_rowWithRank_52 rfl ?_
        refine lx_idiv hC dX1_rowWithRank_53 (by decide) ?_
        refine lq_istoreN hC dX1_rowWithRank_54 (by decide) (fun y5 => ?_)
        refine lx_goto hC 8 dX1_rowWithRank_56 (by decide) ?_
        exact lx_sub [4, 2, 1, 0] rfl (hk8 (y1, y4, y5))
set_option maxRecDepth 100000 in
set_option maxHeartbeats 2000000 in
theorem sat_X1_rowWithRank (l : Launch) (hl : l.stackTraces = false) (p0 : Int32) (s : Mem) : Sat l yX1_rowWithRank (.code yX1_rowWithRank cX1_rowWithRank 6 (some .int)) 30 500 (fun x => some (.int x)) [.ref 3, .int p0] s (pur s (m_X1_rowWithRank p0 s)) := by
  refine sat_of hl (by decide) (Nat.le_of_ble_eq_true rfl) (fun X V A adV hxl hC hE hx hr => ?_) pur_mono
  subst hxl
  show LX X V A 30 500 (nC s) (nS s) _ 0 [(0, .ref 3), (1, .int p0)] [] s _
  unfold m_X1_rowWithRank
  refine lx_iconstv (v := 0) hC dX1_rowWithRank_0 rfl ?_
  refine lx_istore_n hC dX1_rowWithRank_1 rfl (by decide) ?_
  refine lx_iload_n hC dX1_rowWithRank_2 rfl 2 rfl ?_
  refine lx_istore_n hC dX1_rowWithRank_3 rfl (by decide) ?_
  refine lx_bipush (v := 8) hC dX1_rowWithRank_4 (by decide) ?_
  refine lx_istore hC dX1_rowWithRank_6 (by decide) ?_
  refine lx_sub [3, 2, 1, 0] rfl ?_
  exact lq_lp (lv := fun a => [(0, .ref 3), (2, .int a.1), (3, .int a.2.1), (4, .int a.2.2)]) (st := fun _ => []) (fun kf hq a => l_X1_rowWithRank_b8 hC hE hl hx hr s kf hq a.1 a.2.1 a.2.2) FUEL (0, p0, 8)
set_option maxRecDepth 100000 in
set_option maxHeartbeats 2000000 in
theorem sat_X7_idRankedByTree (l : Launch) (hl : l.stackTraces = false) (p0 : Nat) (p1 : Int32) (hp0 : isTh p0) (s : Mem) : Sat l yX7_idRankedByTree (.code yX7_idRankedByTree cX7_idRankedByTree 4 (some .int)) 31 525 (fun x => some (.int x)) [.ref 0, .ref p0, .int p1] s (pur s (m_X7_idRankedByTree p0 p1 s)) := by
  refine sat_of hl (by decide) (Nat.le_of_ble_eq_true rfl) (fun X V A adV hxl hC hE hx hr => ?_) pur_mono
  subst hxl
  show LX X V A 31 525 (nC s) (nS s) _ 0 [(0, .ref 0), (1, .ref p0), (2, .int p1)] [] s _
  unfold m_X7_idRankedByTree
  refine lx_aload_n hC dX7_idRankedByTree_0 rfl 0 rfl ?_
  refine lx_getR (q := 3) hC ly0 rfl 2 (by decide) rfl rfl inX7 wd249 dX7_idRankedByTree_1 ?_
  refine lx_iload_n hC dX7_idRankedByTree_4 rfl 2 rfl ?_
  refine lq_call hC hx (sat_X1_rowWithRank (xl X) hl p1 s) (run_V (as := [.int p1]) (rest := []) hC hE ly3 rfl cw_X1_rowWithRank ci_X1_rowWithRank wd1270 cs_X1_rowWithRank ce_X1_rowWithRank cd_X1_rowWithRank (by decide) (by decide) (Nat.le_of_ble_eq_true rfl) dX7_idRankedByTree_5 rfl) (fun v1 _ => ?_)
  refine lx_istore_n hC dX7_idRankedByTree_8 rfl (by decide) ?_
  refine lx_aload_n hC dX7_idRankedByTree_9 rfl 2 rfl ?_
  refine lx_iload_n hC dX7_idRankedByTree_10 rfl 0 rfl ?_
  refine lx_iload_n hC dX7_idRankedByTree_11 rfl 3 rfl ?_
  refine lx_aload_n hC dX7_idRankedByTree_12 rfl 1 rfl ?_
  refine lx_getR (q := 3) hC ly0 rfl 2 (by decide) rfl rfl inX7 wd249 dX7_idRankedByTree_13 ?_
  refine lx_iload_n hC dX7_idRankedByTree_16 rfl 0 rfl ?_
  refine lq_call hC hx (sat_X1_sumOfFirst (xl X) hl v1 s) (run_V (as := [.int v1]) (rest := [.int p1, .int v1, .ref p0]) hC hE ly3 rfl cw_X1_sumOfFirst ci_X1_sumOfFirst wd1274 cs_X1_sumOfFirst ce_X1_sumOfFirst cd_X1_sumOfFirst (by decide) (by decide) (Nat.le_of_ble_eq_true rfl) dX7_idRankedByTree_17 rfl) (fun v2 _ => ?_)
  refine lx_isub hC dX7_idRankedByTree_20 ?_
  refine lq_call hC hx (sat_X6_idAt (xl X) hl p0 v1 (p1 - v2) hp0 s) (run_V (as := [.int v1, .int (p1 - v2)]) (rest := []) hC hE (th_o hp0) rfl cw_X6_idAt ci_X6_idAt wd1278 cs_X6_idAt ce_X6_idAt cd_X6_idAt (by decide) (by decide) (Nat.le_of_ble_eq_true rfl) dX7_idRankedByTree_21 rfl) (fun v3 _ => ?_)
  exact lx_iret hC rfl hr dX7_idRankedByTree_24
set_option maxRecDepth 100000 in
set_option maxHeartbeats 2000000 in
theorem n_X7_idByRankByTree (p0 : Int32) (s : Mem) : Mn s (m_X7_idByRankByTree p0 s) := by
  unfold m_X7_idByRankByTree
  refine mn_bind (n_X7_theatreWithRank p0 s) (fun v1 s2 => ?_)
  refine mn_if ?_ mn_none
  refine mn_bind (n_X1_fillFrom v1 s2) (fun v4 s5 => ?_)
  refine mn_bindP (fun v6 => ?_)
  exact mn_some
set_option maxRecDepth 100000 in
set_option maxHeartbeats 2000000 in
theorem sat_X7_idByRankByTree (l : Launch) (hl : l.stackTraces = false) (p0 : Int32) (s : Mem) : Sat l yX7_idByRankByTree (.code yX7_idByRankByTree cX7_idByRankByTree 3 (some .int)) 32 548 (fun x => some (.int x)) [.ref 0, .int p0] s (m_X7_idByRankByTree p0 s) := by
  refine sat_of hl (by decide) (Nat.le_of_ble_eq_true rfl) (fun X V A adV hxl hC hE hx hr => ?_) (n_X7_idByRankByTree p0 s)
  subst hxl
  show LX X V A 32 548 (nC s) (nS s) _ 0 [(0, .ref 0), (1, .int p0)] [] s _
  unfold m_X7_idByRankByTree
  refine lx_aload_n hC dX7_idByRankByTree_0 rfl 0 rfl ?_
  refine lx_iload_n hC dX7_idByRankByTree_1 rfl 1 rfl ?_
  refine lx_callX hC hx (sat_X7_theatreWithRank (xl X) hl p0 s) (run_V (as := [.int p0]) (rest := []) hC hE ly0 rfl cw_X7_theatreWithRank ci_X7_theatreWithRank wd1008 cs_X7_theatreWithRank ce_X7_theatreWithRank cd_X7_theatreWithRank (by decide) (by decide) (Nat.le_of_ble_eq_true rfl) dX7_idByRankByTree_2 rfl) (fun v1 s2 _ => ?_)
  refine lx_if fun h3 => ?_
  refine lx_astore_n hC dX7_idByRankByTree_5 rfl (by decide) ?_
  refine lx_aload_n hC dX7_idByRankByTree_6 rfl 1 rfl ?_
  refine lx_getR (q := 3) hC ly0 rfl 2 (by decide) rfl rfl inX7 wd249 dX7_idByRankByTree_7 ?_
  refine lx_aload_n hC dX7_idByRankByTree_10 rfl 0 rfl ?_
  refine lx_callX hC hx (sat_X1_fillFrom (xl X) hl v1 h3 s2) (run_V (as := [.ref v1]) (rest := []) hC hE ly3 rfl cw_X1_fillFrom ci_X1_fillFrom wd1257 cs_X1_fillFrom ce_X1_fillFrom cd_X1_fillFrom (by decide) (by decide) (Nat.le_of_ble_eq_true rfl) dX7_idByRankByTree_11 rfl) (fun v4 s5 _ => ?_)
  refine lx_aload_n hC dX7_idByRankByTree_14 rfl 1 rfl ?_
  refine lx_aload_n hC dX7_idByRankByTree_15 rfl 0 rfl ?_
  refine lx_iload_n hC dX7_idByRankByTree_16 rfl 2 rfl ?_
  refine lx_callP hC hx (sat_X7_idRankedByTree (xl X) hl v1 p0 h3 s5) (run_V (as := [.ref v1, .int p0]) (rest := []) hC hE ly0 rfl cw_X7_idRankedByTree ci_X7_idRankedByTree wd1266 cs_X7_idRankedByTree ce_X7_idRankedByTree cd_X7_idRankedByTree (by decide) (by decide) (Nat.le_of_ble_eq_true rfl) dX7_idByRankByTree_17 rfl) (fun v6 _ => ?_)
  exact lx_iret hC rfl hr dX7_idByRankByTree_20
set_option maxRecDepth 100000 in
set_option maxHeartbeats 2000000 in
theorem sat_X6_rankOf (l : Launch) (hl : l.stackTraces = false) (t : Nat) (p0 : Int32) (ht : isTh t) (s : Mem) : Sat l yX6_rankOf (.code yX6_rankOf cX6_rankOf 2 (some .int)) 32 547 (fun x => some (.int x)) [.ref t, .int p0] s (pur s (m_X6_rankOf t p0 s)) := by
  refine sat_of hl (by decide) (Nat.le_of_ble_eq_true rfl) (fun X V A adV hxl hC hE hx hr => ?_) pur_mono
  subst hxl
  show LX X V A 32 547 (nC s) (nS s) _ 0 [(0, .ref t), (1, .int p0)] [] s _
  unfold m_X6_rankOf
  refine lx_aload_n hC dX6_rankOf_0 rfl 0 rfl ?_
  refine lx_iconstv (v := 0) hC dX6_rankOf_1 rfl ?_
  refine lx_aload_n hC dX6_rankOf_2 rfl 0 rfl ?_
  refine lx_getR (q := t + 448) hC (th_o ht) rfl 6 (by decide) rfl rfl inX6 wd93 dX6_rankOf_3 ?_
  refine lx_iload_n hC dX6_rankOf_6 rfl 1 rfl ?_
  refine lq_iaload hC (th_a6 ht) dX6_rankOf_7 ?_
  refine lx_iconstv (v := 1) hC dX6_rankOf_8 rfl ?_
  refine lx_isub hC dX6_rankOf_9 ?_
  refine lq_call hC hx (sat_X6_echoesBetween (xl X) hl t 0 ((gI s (t + 448) p0.toNatClampNeg) - 1) ht s) (run_V (as := [.int 0, .int ((gI s (t + 448) p0.toNatClampNeg) - 1)]) (rest := []) hC hE (th_o ht) rfl cw_X6_echoesBetween ci_X6_echoesBetween wd1351 cs_X6_echoesBetween ce_X6_echoesBetween cd_X6_echoesBetween (by decide) (by decide) (Nat.le_of_ble_eq_true rfl) dX6_rankOf_10 rfl) (fun v1 _ => ?_)
  refine lx_aload_n hC dX6_rankOf_13 rfl 0 rfl ?_
  refine lx_iload_n hC dX6_rankOf_14 rfl 1 rfl ?_
  refine lq_call hC hx (sat_X6_positionOf (xl X) hl t p0 ht s) (run_V (as := [.int p0]) (rest := [.int v1]) hC hE (th_o ht) rfl cw_X6_positionOf ci_X6_positionOf wd1352 cs_X6_positionOf ce_X6_positionOf cd_X6_positionOf (by decide) (by decide) (Nat.le_of_ble_eq_true rfl) dX6_rankOf_15 rfl) (fun v2 _ => ?_)
  refine lx_iadd hC dX6_rankOf_18 ?_
  exact lx_iret hC rfl hr dX6_rankOf_19
set_option maxRecDepth 100000 in
set_option maxHeartbeats 2000000 in
theorem n_X7_rank (p0 : Int32) (s : Mem) : Mn s (m_X7_rank p0 s) := by
  unfold m_X7_rank
  refine mn_bindP (fun v1 => ?_)
  refine mn_if ?_ mn_none
  refine mn_bind (n_X7_slotOfActive p0 s) (fun v3 s4 => ?_)
  refine mn_bindP (fun v5 => ?_)
  exact mn_some
set_option maxRecDepth 100000 in
set_option maxHeartbeats 2000000 in
theorem sat_X7_rank (l : Launch) (hl : l.stackTraces = false) (p0 : Int32) (s : Mem) : Sat l yX7_rank (.code yX7_rank cX7_rank 2 (some .int)) 33 568 (fun x => some (.int x)) [.ref 0, .int p0] s (m_X7_rank p0 s) := by
  refine sat_of hl (by decide) (Nat.le_of_ble_eq_true rfl) (fun X V A adV hxl hC hE hx hr => ?_) (n_X7_rank p0 s)
  subst hxl
  show LX X V A 33 568 (nC s) (nS s) _ 0 [(0, .ref 0), (1, .int p0)] [] s _
  unfold m_X7_rank
  refine lx_aload_n hC dX7_rank_0 rfl 0 rfl ?_
  refine lx_getR (q := 1) hC ly0 rfl 0 (by decide) rfl rfl inX7 wd247 dX7_rank_1 ?_
  refine lx_callP hC hx (sat_X3_present (xl X) hl s) (run_V (as := []) (rest := []) hC hE ly1 rfl cw_X3_present ci_X3_present wd282 cs_X3_present ce_X3_present cd_X3_present (by decide) (by decide) (Nat.le_of_ble_eq_true rfl) dX7_rank_4 rfl) (fun v1 _ => ?_)
  refine lx_if fun h2 => ?_
  refine lx_aload_n hC dX7_rank_7 rfl 0 rfl ?_
  refine lx_iload_n hC dX7_rank_8 rfl 1 rfl ?_
  refine lx_callX hC hx (sat_X7_slotOfActive (xl X) hl p0 s) (run_V (as := [.int p0]) (rest := [.ref v1]) hC hE ly0 rfl cw_X7_slotOfActive ci_X7_slotOfActive wd1028 cs_X7_slotOfActive ce_X7_slotOfActive cd_X7_slotOfActive (by decide) (by decide) (Nat.le_of_ble_eq_true rfl) dX7_rank_9 rfl) (fun v3 s4 _ => ?_)
  refine lx_callP hC hx (sat_X6_rankOf (xl X) hl v1 v3 h2 s4) (run_V (as := [.int v3]) (rest := []) hC hE (th_o h2) rfl cw_X6_rankOf ci_X6_rankOf wd1347 cs_X6_rankOf ce_X6_rankOf cd_X6_rankOf (by decide) (by decide) (Nat.le_of_ble_eq_true rfl) dX7_rank_12 rfl) (fun v5 _ => ?_)
  exact lx_iret hC rfl hr dX7_rank_15
set_option maxRecDepth 100000 in
set_option maxHeartbeats 2000000 in
theorem n_X7_loudest (s : Mem) : Mn s (m_X7_loudest s) := by
  unfold m_X7_loudest
  refine mn_bindP (fun v1 => ?_)
  refine mn_if ?_ mn_none
  refine mn_bindP (fun v3 => ?_)
  refine mn_if ?_ ?_
  · skip
    refine mn_if ?_ mn_none
    exact mn_some
  · skip
    exact mn_thr
set_option maxRecDepth 100000 in
set_option maxHeartbeats 2000000 in
theorem sat_X7_loudest (l : Launch) (hl : l.stackTraces = false) (s : Mem) : Sat l yX7_loudest (.code yX7_loudest cX7_loudest 3 (some .int)) 31 526 (fun x => some (.int x)) [.ref 0] s (m_X7_loudest s) := by
  refine sat_of hl (by decide) (Nat.le_of_ble_eq_true rfl) (fun X V A adV hxl hC hE hx hr => ?_) (n_X7_loudest s)
  subst hxl
  show LX X V A 31 526 (nC s) (nS s) _ 0 [(0, .ref 0)] [] s _
  unfold m_X7_loudest
  refine lx_aload_n hC dX7_loudest_0 rfl 0 rfl ?_
  refine lx_getR (q := 1) hC ly0 rfl 0 (by decide) rfl rfl inX7 wd247 dX7_loudest_1 ?_
  refine lx_callP hC hx (sat_X3_present (xl X) hl s) (run_V (as := []) (rest := []) hC hE ly1 rfl cw_X3_present ci_X3_present wd282 cs_X3_present ce_X3_present cd_X3_present (by decide) (by decide) (Nat.le_of_ble_eq_true rfl) dX7_loudest_4 rfl) (fun v1 _ => ?_)
  refine lx_if fun h2 => ?_
  refine lx_astore_n hC dX7_loudest_7 rfl (by decide) ?_
  refine lx_aload_n hC dX7_loudest_8 rfl 0 rfl ?_
  refine lx_iconstv (v := 0) hC dX7_loudest_9 rfl ?_
  refine lx_bipush (v := 7) hC dX7_loudest_10 (by decide) ?_
  refine lx_callP hC hx (sat_X6_loudestSlot (xl X) hl v1 0 7 h2 s) (run_V (as := [.int 0, .int 7]) (rest := []) hC hE (th_o h2) rfl cw_X6_loudestSlot ci_X6_loudestSlot wd1467 cs_X6_loudestSlot ce_X6_loudestSlot cd_X6_loudestSlot (by decide) (by decide) (Nat.le_of_ble_eq_true rfl) dX7_loudest_12 rfl) (fun v3 _ => ?_)
  refine lx_istore_n hC dX7_loudest_15 rfl (by decide) ?_
  refine lx_iload_n hC dX7_loudest_16 rfl 0 rfl ?_
  refine lx_iconstv (v := (-1)) hC dX7_loudest_17 rfl ?_
  refine lx_icmp_ne hC 31 dX7_loudest_18 (by decide) ?_ ?_
  · skip
    refine lx_aload_n hC dX7_loudest_31 rfl 1 rfl ?_
    refine lx_getR (q := v1 + 384) hC (th_o h2) rfl 5 (by decide) rfl rfl inX6 wd92 dX7_loudest_32 ?_
    refine lx_iload_n hC dX7_loudest_35 rfl 0 rfl ?_
    refine lx_iaload hC (th_a5 h2) dX7_loudest_36 ?_
    exact lx_iret hC rfl hr dX7_loudest_37
  · skip
    exact lx_throwN hC hE hl hx (i := 8) (text := "no echo is active") rfl wd393 wd35 rfl thg_X7_NoSuchElementException_95 thn_X7_NoSuchElementException_95 tho_X7_NoSuchElementException_95 dX7_loudest_21 dX7_loudest_24 dX7_loudest_25 dX7_loudest_27 dX7_loudest_30 (by decide) (Nat.le_of_ble_eq_true rfl)
set_option maxRecDepth 100000 in
set_option maxHeartbeats 2000000 in
theorem n_X7_rowNamedBy (p0 : Int32) (s : Mem) : Mn s (m_X7_rowNamedBy p0 s) := by
  unfold m_X7_rowNamedBy
  refine mn_bindP (fun v1 => ?_)
  refine mn_if ?_ ?_
  · skip
    refine mn_bindP (fun v2 => ?_)
    refine mn_if ?_ mn_none
    refine mn_if ?_ mn_none
    exact mn_some
  · skip
    exact mn_thr
set_option maxRecDepth 100000 in
set_option maxHeartbeats 2000000 in
theorem sat_X7_rowNamedBy (l : Launch) (hl : l.stackTraces = false) (p0 : Int32) (s : Mem) : Sat l yX7_rowNamedBy (.code yX7_rowNamedBy cX7_rowNamedBy 2 (some .int)) 31 520 (fun x => some (.int x)) [.ref 0, .int p0] s (m_X7_rowNamedBy p0 s) := by
  refine sat_of hl (by decide) (Nat.le_of_ble_eq_true rfl) (fun X V A adV hxl hC hE hx hr => ?_) (n_X7_rowNamedBy p0 s)
  subst hxl
  show LX X V A 31 520 (nC s) (nS s) _ 0 [(0, .ref 0), (1, .int p0)] [] s _
  unfold m_X7_rowNamedBy
  refine lx_iload_n hC dX7_rowNamedBy_0 rfl 1 rfl ?_
  refine lx_callP hC hx (sat_X6_isBoxName (xl X) hl p0 s) (run_S (as := [.int p0]) (rest := []) hC hE cw_X6_isBoxName ci_X6_isBoxName wd1044 cs_X6_isBoxName cd_X6_isBoxName (by decide) (by decide) (Nat.le_of_ble_eq_true rfl) dX7_rowNamedBy_1 rfl) (fun v1 _ => ?_)
  refine lx_if_ne hC 18 dX7_rowNamedBy_4 (by decide) ?_ ?_
  · skip
    refine lx_aload_n hC dX7_rowNamedBy_18 rfl 0 rfl ?_
    refine lx_getR (q := 1) hC ly0 rfl 0 (by decide) rfl rfl inX7 wd247 dX7_rowNamedBy_19 ?_
    refine lx_callP hC hx (sat_X3_present (xl X) hl s) (run_V (as := []) (rest := []) hC hE ly1 rfl cw_X3_present ci_X3_present wd282 cs_X3_present ce_X3_present cd_X3_present (by decide) (by decide) (Nat.le_of_ble_eq_true rfl) dX7_rowNamedBy_22 rfl) (fun v2 _ => ?_)
    refine lx_if fun h3 => ?_
    refine lx_getR (q := v2 + 256) hC (th_o h3) rfl 3 (by decide) rfl rfl inX6 wd84 dX7_rowNamedBy_25 ?_
    refine lx_iload_n hC dX7_rowNamedBy_28 rfl 1 rfl ?_
    refine lx_bipush (v := 97) hC dX7_rowNamedBy_29 (by decide) ?_
    refine lx_isub hC dX7_rowNamedBy_31 ?_
    refine lx_iaload hC (th_a3 h3) dX7_rowNamedBy_32 ?_
    exact lx_iret hC rfl hr dX7_rowNamedBy_33
  · skip
    exact lx_throwW hC hE hl hx (i := 10) (text := "there is no box with this name") rfl wd479 wd37 rfl thg_X7_IllegalArgumentException_107 thn_X7_IllegalArgumentException_107 tho_X7_IllegalArgumentException_107 dX7_rowNamedBy_7 dX7_rowNamedBy_10 dX7_rowNamedBy_11 dX7_rowNamedBy_14 dX7_rowNamedBy_17 (by decide) (Nat.le_of_ble_eq_true rfl)
set_option maxRecDepth 100000 in
set_option maxHeartbeats 2000000 in
theorem n_X7_namedRow (p0 : Int32) (s : Mem) : Mn s (m_X7_namedRow p0 s) := by
  unfold m_X7_namedRow
  refine mn_bind (n_X7_rowNamedBy p0 s) (fun v1 s2 => ?_)
  refine mn_if ?_ ?_
  · skip
    exact mn_some
  · skip
    exact mn_thr
set_option maxRecDepth 100000 in
set_option maxHeartbeats 2000000 in
theorem sat_X7_namedRow (l : Launch) (hl : l.stackTraces = false) (p0 : Int32) (s : Mem) : Sat l yX7_namedRow (.code yX7_namedRow cX7_namedRow 3 (some .int)) 32 541 (fun x => some (.int x)) [.ref 0, .int p0] s (m_X7_namedRow p0 s) := by
  refine sat_of hl (by decide) (Nat.le_of_ble_eq_true rfl) (fun X V A adV hxl hC hE hx hr => ?_) (n_X7_namedRow p0 s)
  subst hxl
  show LX X V A 32 541 (nC s) (nS s) _ 0 [(0, .ref 0), (1, .int p0)] [] s _
  unfold m_X7_namedRow
  refine lx_aload_n hC dX7_namedRow_0 rfl 0 rfl ?_
  refine lx_iload_n hC dX7_namedRow_1 rfl 1 rfl ?_
  refine lx_callX hC hx (sat_X7_rowNamedBy (xl X) hl p0 s) (run_V (as := [.int p0]) (rest := []) hC hE ly0 rfl cw_X7_rowNamedBy ci_X7_rowNamedBy wd1040 cs_X7_rowNamedBy ce_X7_rowNamedBy cd_X7_rowNamedBy (by decide) (by decide) (Nat.le_of_ble_eq_true rfl) dX7_namedRow_2 rfl) (fun v1 s2 _ => ?_)
  refine lx_istore_n hC dX7_namedRow_5 rfl (by decide) ?_
  refine lx_iload_n hC dX7_namedRow_6 rfl 0 rfl ?_
  refine lx_iconstv (v := (-1)) hC dX7_namedRow_7 rfl ?_
  refine lx_icmp_ne hC 21 dX7_namedRow_8 (by decide) ?_ ?_
  · skip
    refine lx_iload_n hC dX7_namedRow_21 rfl 0 rfl ?_
    exact lx_iret hC rfl hr dX7_namedRow_22
  · skip
    exact lx_throwN hC hE hl hx (i := 11) (text := "the box names no row") rfl wd393 wd35 rfl thg_X7_NoSuchElementException_95 thn_X7_NoSuchElementException_95 tho_X7_NoSuchElementException_95 dX7_namedRow_11 dX7_namedRow_14 dX7_namedRow_15 dX7_namedRow_17 dX7_namedRow_20 (by decide) (Nat.le_of_ble_eq_true rfl)
set_option maxRecDepth 100000 in
set_option maxHeartbeats 2000000 in
theorem l_X6_boxesNaming_b4 {X : Cx} {V : Vx} {A : Nat → Prop} {adV : Nat → Nat} {c0 s0 : Nat} (hC : Cok X V A yX6_boxesNaming.cls cX6_boxesNaming 4) (hE : Env0 V adV A (xs X) (xs X).heap) (hl : (xl X).stackTraces = false) (hx : ∀ x ∈ (xc X).exceptionTable.toList, False) (hr : (xh X).sig.returnType = some .int) (q1 : Nat) (x2 : Int32) (hq1 : isTh q1) (s : Mem) (kf4 : (Int32 × Int32) → Option Int32) (hk4 : ∀ a, LX X V A 30 500 c0 s0 (FM X V A (fun x => some (.int x))) 4 [(0, .ref q1), (1, .int x2), (2, .int a.1), (3, .int a.2)] [] s (pur s (kf4 a))) (w2 : Int32) (w3 : Int32) : LX X V A 30 500 c0 s0 (FM X V A (fun x => some (.int x))) 4 [(0, .ref q1), (1, .int x2), (2, .int w2), (3, .int w3)] [] s (pur s (m_X6_boxesNaming_b4 q1 x2 s kf4 w2 w3 )) := by
  unfold m_X6_boxesNaming_b4
  refine lx_iload_n hC dX6_boxesNaming_4 rfl 3 rfl ?_
  refine lx_bipush (v := 8) hC dX6_boxesNaming_5 (by decide) ?_
  refine lq_icmp_ge hC 29 dX6_boxesNaming_7 (by decide) ?_ ?_
  · skip
    refine lx_iload_n hC dX6_boxesNaming_29 rfl 2 rfl ?_
    exact lx_iret hC rfl hr dX6_boxesNaming_30
  · skip
    refine lx_aload_n hC dX6_boxesNaming_10 rfl 0 rfl ?_
    refine lx_getR (q := q1 + 256) hC (th_o hq1) rfl 3 (by decide) rfl rfl inX6 wd82 dX6_boxesNaming_11 ?_
    refine lx_iload_n hC dX6_boxesNaming_14 rfl 3 rfl ?_
    refine lq_iaload hC (th_a3 hq1) dX6_boxesNaming_15 ?_
    refine lx_iload_n hC dX6_boxesNaming_16 rfl 1 rfl ?_
    refine lq_icmp_ne hC 23 dX6_boxesNaming_17 (by decide) ?_ ?_
    · skip
      refine lq_iincN (v := 1) hC dX6_boxesNaming_23 3 rfl (by decide) rfl (fun y3 => ?_)
      refine lx_goto hC 4 dX6_boxesNaming_26 (by decide) ?_
      exact lx_sub [1, 2, 3, 0] rfl (hk4 (w2, y3))
    · skip
      refine lq_iincN (v := 1) hC dX6_boxesNaming_20 2 rfl (by decide) rfl (fun y4 => ?_)
      refine lq_iincN (v := 1) hC dX6_boxesNaming_23 3 rfl (by decide) rfl (fun y5 => ?_)
      refine lx_goto hC 4 dX6_boxesNaming_26 (by decide) ?_
      exact lx_sub [2, 3, 1, 0] rfl (hk4 (y4, y5))
set_option maxRecDepth 100000 in
set_option maxHeartbeats 2000000 in
theorem sat_X6_boxesNaming (l : Launch) (hl : l.stackTraces = false) (t : Nat) (p0 : Int32) (ht : isTh t) (s : Mem) : Sat l yX6_boxesNaming (.code yX6_boxesNaming cX6_boxesNaming 4 (some .int)) 30 500 (fun x => some (.int x)) [.ref t, .int p0] s (pur s (m_X6_boxesNaming t p0 s)) := by
  refine sat_of hl (by decide) (Nat.le_of_ble_eq_true rfl) (fun X V A adV hxl hC hE hx hr => ?_) pur_mono
  subst hxl
  show LX X V A 30 500 (nC s) (nS s) _ 0 [(0, .ref t), (1, .int p0)] [] s _
  unfold m_X6_boxesNaming
  refine lx_iconstv (v := 0) hC dX6_boxesNaming_0 rfl ?_
  refine lx_istore_n hC dX6_boxesNaming_1 rfl (by decide) ?_
  refine lx_iconstv (v := 0) hC dX6_boxesNaming_2 rfl ?_
  refine lx_istore_n hC dX6_boxesNaming_3 rfl (by decide) ?_
  refine lx_sub [2, 3, 1, 0] rfl ?_
  exact lq_lp (lv := fun a => [(0, .ref t), (1, .int p0), (2, .int a.1), (3, .int a.2)]) (st := fun _ => []) (fun kf hq a => l_X6_boxesNaming_b4 hC hE hl hx hr t p0 ht s kf hq a.1 a.2) FUEL (0, 0)
set_option maxRecDepth 100000 in
set_option maxHeartbeats 2000000 in
theorem n_X7_boxCount (p0 : Int32) (s : Mem) : Mn s (m_X7_boxCount p0 s) := by
  unfold m_X7_boxCount
  refine mn_bind (n_X7_theatreWithRow p0 s) (fun v1 s2 => ?_)
  refine mn_if ?_ mn_none
  refine mn_bindP (fun v4 => ?_)
  exact mn_some
set_option maxRecDepth 100000 in
set_option maxHeartbeats 2000000 in
theorem sat_X7_boxCount (l : Launch) (hl : l.stackTraces = false) (p0 : Int32) (s : Mem) : Sat l yX7_boxCount (.code yX7_boxCount cX7_boxCount 2 (some .int)) 32 543 (fun x => some (.int x)) [.ref 0, .int p0] s (m_X7_boxCount p0 s) := by
  refine sat_of hl (by decide) (Nat.le_of_ble_eq_true rfl) (fun X V A adV hxl hC hE hx hr => ?_) (n_X7_boxCount p0 s)
  subst hxl
  show LX X V A 32 543 (nC s) (nS s) _ 0 [(0, .ref 0), (1, .int p0)] [] s _
  unfold m_X7_boxCount
  refine lx_aload_n hC dX7_boxCount_0 rfl 0 rfl ?_
  refine lx_iload_n hC dX7_boxCount_1 rfl 1 rfl ?_
  refine lx_callX hC hx (sat_X7_theatreWithRow (xl X) hl p0 s) (run_V (as := [.int p0]) (rest := []) hC hE ly0 rfl cw_X7_theatreWithRow ci_X7_theatreWithRow wd681 cs_X7_theatreWithRow ce_X7_theatreWithRow cd_X7_theatreWithRow (by decide) (by decide) (Nat.le_of_ble_eq_true rfl) dX7_boxCount_2 rfl) (fun v1 s2 _ => ?_)
  refine lx_if fun h3 => ?_
  refine lx_iload_n hC dX7_boxCount_5 rfl 1 rfl ?_
  refine lx_callP hC hx (sat_X6_boxesNaming (xl X) hl v1 p0 h3 s2) (run_V (as := [.int p0]) (rest := []) hC hE (th_o h3) rfl cw_X6_boxesNaming ci_X6_boxesNaming wd996 cs_X6_boxesNaming ce_X6_boxesNaming cd_X6_boxesNaming (by decide) (by decide) (Nat.le_of_ble_eq_true rfl) dX7_boxCount_6 rfl) (fun v4 _ => ?_)
  exact lx_iret hC rfl hr dX7_boxCount_9
set_option maxRecDepth 100000 in
set_option maxHeartbeats 2000000 in
theorem sat_X7_moveCount (l : Launch) (hl : l.stackTraces = false) (s : Mem) : Sat l yX7_moveCount (.code yX7_moveCount cX7_moveCount 1 (some .int)) 31 520 (fun x => some (.int x)) [.ref 0] s (pur s (m_X7_moveCount s)) := by
  refine sat_of hl (by decide) (Nat.le_of_ble_eq_true rfl) (fun X V A adV hxl hC hE hx hr => ?_) pur_mono
  subst hxl
  show LX X V A 31 520 (nC s) (nS s) _ 0 [(0, .ref 0)] [] s _
  unfold m_X7_moveCount
  refine lx_aload_n hC dX7_moveCount_0 rfl 0 rfl ?_
  refine lx_getR (q := 1) hC ly0 rfl 0 (by decide) rfl rfl inX7 wd247 dX7_moveCount_1 ?_
  refine lq_call hC hx (sat_X3_present (xl X) hl s) (run_V (as := []) (rest := []) hC hE ly1 rfl cw_X3_present ci_X3_present wd282 cs_X3_present ce_X3_present cd_X3_present (by decide) (by decide) (Nat.le_of_ble_eq_true rfl) dX7_moveCount_4 rfl) (fun v1 _ => ?_)
  refine lq_g fun h2 => ?_
  refine lx_getI hC (th_o h2) rfl 11 (by decide) rfl inX6 wd113 dX7_moveCount_7 ?_
  exact lx_iret hC rfl hr dX7_moveCount_10
set_option maxRecDepth 100000 in
set_option maxHeartbeats 2000000 in
theorem sat_X7_removeCount (l : Launch) (hl : l.stackTraces = false) (s : Mem) : Sat l yX7_removeCount (.code yX7_removeCount cX7_removeCount 1 (some .int)) 31 520 (fun x => some (.int x)) [.ref 0] s (pur s (m_X7_removeCount s)) := by
  refine sat_of hl (by decide) (Nat.le_of_ble_eq_true rfl) (fun X V A adV hxl hC hE hx hr => ?_) pur_mono
  subst hxl
  show LX X V A 31 520 (nC s) (nS s) _ 0 [(0, .ref 0)] [] s _
  unfold m_X7_removeCount
  refine lx_aload_n hC dX7_removeCount_0 rfl 0 rfl ?_
  refine lx_getR (q := 1) hC ly0 rfl 0 (by decide) rfl rfl inX7 wd247 dX7_removeCount_1 ?_
  refine lq_call hC hx (sat_X3_present (xl X) hl s) (run_V (as := []) (rest := []) hC hE ly1 rfl cw_X3_present ci_X3_present wd282 cs_X3_present ce_X3_present cd_X3_present (by decide) (by decide) (Nat.le_of_ble_eq_true rfl) dX7_removeCount_4 rfl) (fun v1 _ => ?_)
  refine lq_g fun h2 => ?_
  refine lx_getI hC (th_o h2) rfl 12 (by decide) rfl inX6 wd116 dX7_removeCount_7 ?_
  exact lx_iret hC rfl hr dX7_removeCount_10
set_option maxRecDepth 100000 in
set_option maxHeartbeats 2000000 in
theorem sat_X7_addedLoudness (l : Launch) (hl : l.stackTraces = false) (s : Mem) : Sat l yX7_addedLoudness (.code yX7_addedLoudness cX7_addedLoudness 1 (some .long)) 31 520 (fun x => some (.long x)) [.ref 0] s (pur s (m_X7_addedLoudness s)) := by
  refine sat_of hl (by decide) (Nat.le_of_ble_eq_true rfl) (fun X V A adV hxl hC hE hx hr => ?_) pur_mono
  subst hxl
  show LX X V A 31 520 (nC s) (nS s) _ 0 [(0, .ref 0)] [] s _
  unfold m_X7_addedLoudness
  refine lx_aload_n hC dX7_addedLoudness_0 rfl 0 rfl ?_
  refine lx_getR (q := 1) hC ly0 rfl 0 (by decide) rfl rfl inX7 wd247 dX7_addedLoudness_1 ?_
  refine lq_call hC hx (sat_X3_present (xl X) hl s) (run_V (as := []) (rest := []) hC hE ly1 rfl cw_X3_present ci_X3_present wd282 cs_X3_present ce_X3_present cd_X3_present (by decide) (by decide) (Nat.le_of_ble_eq_true rfl) dX7_addedLoudness_4 rfl) (fun v1 _ => ?_)
  refine lq_g fun h2 => ?_
  refine lx_getJ hC (th_o h2) rfl 13 (by decide) rfl inX6 wd119 dX7_addedLoudness_7 ?_
  exact lx_lret hC rfl hr dX7_addedLoudness_10
set_option maxRecDepth 100000 in
set_option maxHeartbeats 2000000 in
theorem sat_X7_lostLoudness (l : Launch) (hl : l.stackTraces = false) (s : Mem) : Sat l yX7_lostLoudness (.code yX7_lostLoudness cX7_lostLoudness 1 (some .long)) 31 520 (fun x => some (.long x)) [.ref 0] s (pur s (m_X7_lostLoudness s)) := by
  refine sat_of hl (by decide) (Nat.le_of_ble_eq_true rfl) (fun X V A adV hxl hC hE hx hr => ?_) pur_mono
  subst hxl
  show LX X V A 31 520 (nC s) (nS s) _ 0 [(0, .ref 0)] [] s _
  unfold m_X7_lostLoudness
  refine lx_aload_n hC dX7_lostLoudness_0 rfl 0 rfl ?_
  refine lx_getR (q := 1) hC ly0 rfl 0 (by decide) rfl rfl inX7 wd247 dX7_lostLoudness_1 ?_
  refine lq_call hC hx (sat_X3_present (xl X) hl s) (run_V (as := []) (rest := []) hC hE ly1 rfl cw_X3_present ci_X3_present wd282 cs_X3_present ce_X3_present cd_X3_present (by decide) (by decide) (Nat.le_of_ble_eq_true rfl) dX7_lostLoudness_4 rfl) (fun v1 _ => ?_)
  refine lq_g fun h2 => ?_
  refine lx_getJ hC (th_o h2) rfl 14 (by decide) rfl inX6 wd122 dX7_lostLoudness_7 ?_
  exact lx_lret hC rfl hr dX7_lostLoudness_10
set_option maxRecDepth 100000 in
set_option maxHeartbeats 2000000 in
theorem l_X6_loudnessOfAll_b4 {X : Cx} {V : Vx} {A : Nat → Prop} {adV : Nat → Nat} {c0 s0 : Nat} (hC : Cok X V A yX6_loudnessOfAll.cls cX6_loudnessOfAll 4) (hE : Env0 V adV A (xs X) (xs X).heap) (hl : (xl X).stackTraces = false) (hx : ∀ x ∈ (xc X).exceptionTable.toList, False) (hr : (xh X).sig.returnType = some .long) (q1 : Nat) (hq1 : isTh q1) (s : Mem) (kf4 : (Int64 × Int32) → Option Int64) (hk4 : ∀ a, LX X V A 30 500 c0 s0 (FM X V A (fun x => some (.long x))) 4 [(0, .ref q1), (1, .long a.1), (3, .int a.2)] [] s (pur s (kf4 a))) (w1 : Int64) (w3 : Int32) : LX X V A 30 500 c0 s0 (FM X V A (fun x => some (.long x))) 4 [(0, .ref q1), (1, .long w1), (3, .int w3)] [] s (pur s (m_X6_loudnessOfAll_b4 q1 s kf4 w1 w3 )) := by
  unfold m_X6_loudnessOfAll_b4
  refine lx_iload_n hC dX6_loudnessOfAll_4 rfl 2 rfl ?_
  refine lx_aload_n hC dX6_loudnessOfAll_5 rfl 0 rfl ?_
  refine lx_getI hC (th_o hq1) rfl 9 (by decide) rfl inX6 wd105 dX6_loudnessOfAll_6 ?_
  refine lq_icmp_ge hC 28 dX6_loudnessOfAll_9 (by decide) ?_ ?_
  · skip
    refine lx_lload_n hC dX6_loudnessOfAll_28 rfl 1 rfl ?_
    exact lx_lret hC rfl hr dX6_loudnessOfAll_29
  · skip
    refine lx_lload_n hC dX6_loudnessOfAll_12 rfl 1 rfl ?_
    refine lx_aload_n hC dX6_loudnessOfAll_13 rfl 0 rfl ?_
    refine lx_getR (q := q1 + 512) hC (th_o hq1) rfl 7 (by decide) rfl rfl inX6 wd97 dX6_loudnessOfAll_14 ?_
    refine lx_iload_n hC dX6_loudnessOfAll_17 rfl 2 rfl ?_
    refine lq_iaload hC (th_a7 hq1) dX6_loudnessOfAll_18 ?_
    refine lx_i2l hC dX6_loudnessOfAll_19 ?_
    refine lx_ladd hC dX6_loudnessOfAll_20 ?_
    refine lx_lstore_n hC dX6_loudnessOfAll_21 rfl (by decide) ?_
    refine lq_iincN (v := 1) hC dX6_loudnessOfAll_22 2 rfl (by decide) rfl (fun y2 => ?_)
    refine lx_goto hC 4 dX6_loudnessOfAll_25 (by decide) ?_
    exact lx_sub [2, 1, 0] rfl (hk4 (w1 + ((gI s (q1 + 512) w3.toNatClampNeg).toInt64), y2))
set_option maxRecDepth 100000 in
set_option maxHeartbeats 2000000 in
theorem sat_X6_loudnessOfAll (l : Launch) (hl : l.stackTraces = false) (t : Nat) (ht : isTh t) (s : Mem) : Sat l yX6_loudnessOfAll (.code yX6_loudnessOfAll cX6_loudnessOfAll 4 (some .long)) 30 500 (fun x => some (.long x)) [.ref t] s (pur s (m_X6_loudnessOfAll t s)) := by
  refine sat_of hl (by decide) (Nat.le_of_ble_eq_true rfl) (fun X V A adV hxl hC hE hx hr => ?_) pur_mono
  subst hxl
  show LX X V A 30 500 (nC s) (nS s) _ 0 [(0, .ref t)] [] s _
  unfold m_X6_loudnessOfAll
  refine lx_lconst (v := 0) hC dX6_loudnessOfAll_0 (by decide) ?_
  refine lx_lstore_n hC dX6_loudnessOfAll_1 rfl (by decide) ?_
  refine lx_iconstv (v := 0) hC dX6_loudnessOfAll_2 rfl ?_
  refine lx_istore_n hC dX6_loudnessOfAll_3 rfl (by decide) ?_
  refine lx_sub [2, 1, 0] rfl ?_
  exact lq_lp (lv := fun a => [(0, .ref t), (1, .long a.1), (3, .int a.2)]) (st := fun _ => []) (fun kf hq a => l_X6_loudnessOfAll_b4 hC hE hl hx hr t ht s kf hq a.1 a.2) FUEL (0, 0)
set_option maxRecDepth 100000 in
set_option maxHeartbeats 2000000 in
theorem sat_X7_activeLoudness (l : Launch) (hl : l.stackTraces = false) (s : Mem) : Sat l yX7_activeLoudness (.code yX7_activeLoudness cX7_activeLoudness 1 (some .long)) 31 523 (fun x => some (.long x)) [.ref 0] s (pur s (m_X7_activeLoudness s)) := by
  refine sat_of hl (by decide) (Nat.le_of_ble_eq_true rfl) (fun X V A adV hxl hC hE hx hr => ?_) pur_mono
  subst hxl
  show LX X V A 31 523 (nC s) (nS s) _ 0 [(0, .ref 0)] [] s _
  unfold m_X7_activeLoudness
  refine lx_aload_n hC dX7_activeLoudness_0 rfl 0 rfl ?_
  refine lx_getR (q := 1) hC ly0 rfl 0 (by decide) rfl rfl inX7 wd247 dX7_activeLoudness_1 ?_
  refine lq_call hC hx (sat_X3_present (xl X) hl s) (run_V (as := []) (rest := []) hC hE ly1 rfl cw_X3_present ci_X3_present wd282 cs_X3_present ce_X3_present cd_X3_present (by decide) (by decide) (Nat.le_of_ble_eq_true rfl) dX7_activeLoudness_4 rfl) (fun v1 _ => ?_)
  refine lq_g fun h2 => ?_
  refine lq_call hC hx (sat_X6_loudnessOfAll (xl X) hl v1 h2 s) (run_V (as := []) (rest := []) hC hE (th_o h2) rfl cw_X6_loudnessOfAll ci_X6_loudnessOfAll wd1297 cs_X6_loudnessOfAll ce_X6_loudnessOfAll cd_X6_loudnessOfAll (by decide) (by decide) (Nat.le_of_ble_eq_true rfl) dX7_activeLoudness_7 rfl) (fun v3 _ => ?_)
  exact lx_lret hC rfl hr dX7_activeLoudness_10
set_option maxRecDepth 100000 in
set_option maxHeartbeats 2000000 in
theorem l_X7_lastHeirsAgree_b10 {X : Cx} {V : Vx} {A : Nat → Prop} {adV : Nat → Nat} {c0 s0 : Nat} (hC : Cok X V A yX7_lastHeirsAgree.cls cX7_lastHeirsAgree 3) (hE : Env0 V adV A (xs X) (xs X).heap) (hl : (xl X).stackTraces = false) (hx : ∀ x ∈ (xc X).exceptionTable.toList, False) (hr : (xh X).sig.returnType = some .boolean) (q3 : Nat) (hq3 : isTh q3) (s : Mem) (kf10 : Int32 → Res Int32) (hk10 : ∀ a, LX X V A 33 567 c0 s0 (FM X V A (fun x => some (.int x))) 10 [(0, .ref 0), (1, .ref q3), (2, .int a)] [] s (kf10 a)) (w2 : Int32) : LX X V A 33 567 c0 s0 (FM X V A (fun x => some (.int x))) 10 [(0, .ref 0), (1, .ref q3), (2, .int w2)] [] s (m_X7_lastHeirsAgree_b10 q3 s kf10 w2 ) := by
  unfold m_X7_lastHeirsAgree_b10
  refine lx_iload_n hC dX7_lastHeirsAgree_10 rfl 2 rfl ?_
  refine lx_aload_n hC dX7_lastHeirsAgree_11 rfl 1 rfl ?_
  refine lx_getI hC (th_o hq3) rfl 9 (by decide) rfl inX6 wd108 dX7_lastHeirsAgree_12 ?_
  refine lx_icmp_ge hC 42 dX7_lastHeirsAgree_15 (by decide) ?_ ?_
  · skip
    refine lx_iconstv (v := 1) hC dX7_lastHeirsAgree_42 rfl ?_
    exact lx_zret hC rfl hr rfl dX7_lastHeirsAgree_43
  · skip
    refine lx_aload_n hC dX7_lastHeirsAgree_18 rfl 1 rfl ?_
    refine lx_iload_n hC dX7_lastHeirsAgree_19 rfl 2 rfl ?_
    refine lx_callP hC hx (sat_X6_lastSlotFrom (xl X) hl q3 w2 hq3 s) (run_V (as := [.int w2]) (rest := []) hC hE (th_o hq3) rfl cw_X6_lastSlotFrom ci_X6_lastSlotFrom wd1245 cs_X6_lastSlotFrom ce_X6_lastSlotFrom cd_X6_lastSlotFrom (by decide) (by decide) (Nat.le_of_ble_eq_true rfl) dX7_lastHeirsAgree_20 rfl) (fun v4 _ => ?_)
    refine lx_aload_n hC dX7_lastHeirsAgree_23 rfl 0 rfl ?_
    refine lx_getR (q := 4) hC ly0 rfl 3 (by decide) rfl rfl inX7 wd250 dX7_lastHeirsAgree_24 ?_
    refine lx_iload_n hC dX7_lastHeirsAgree_27 rfl 2 rfl ?_
    refine lx_callP hC hx (sat_X2_endOfChainFrom (xl X) hl w2 s) (run_V (as := [.int w2]) (rest := [.int v4]) hC hE ly4 rfl cw_X2_endOfChainFrom ci_X2_endOfChainFrom wd1249 cs_X2_endOfChainFrom ce_X2_endOfChainFrom cd_X2_endOfChainFrom (by decide) (by decide) (Nat.le_of_ble_eq_true rfl) dX7_lastHeirsAgree_28 rfl) (fun v5 _ => ?_)
    refine lx_icmp_eq hC 36 dX7_lastHeirsAgree_31 (by decide) ?_ ?_
    · skip
      refine lx_iincN (v := 1) hC dX7_lastHeirsAgree_36 2 rfl (by decide) rfl (fun y6 => ?_)
      refine lx_goto hC 10 dX7_lastHeirsAgree_39 (by decide) ?_
      exact lx_sub [1, 2, 0] rfl (hk10 y6)
    · skip
      refine lx_iconstv (v := 0) hC dX7_lastHeirsAgree_34 rfl ?_
      exact lx_zret hC rfl hr rfl dX7_lastHeirsAgree_35
set_option maxRecDepth 100000 in
set_option maxHeartbeats 2000000 in
theorem n_X7_lastHeirsAgree_b10 (q3 : Nat) (s : Mem) (kf10 : Int32 → Res Int32) (hm10 : ∀ a, Mn s (kf10 a)) (w2 : Int32) : Mn s (m_X7_lastHeirsAgree_b10 q3 s kf10 w2 ) := by
  unfold m_X7_lastHeirsAgree_b10
  refine mn_if ?_ ?_
  · skip
    exact mn_some
  · skip
    refine mn_bindP (fun v4 => ?_)
    refine mn_bindP (fun v5 => ?_)
    refine mn_if ?_ ?_
    · skip
      refine mn_vl (fun y6 => ?_)
      exact hm10 y6
    · skip
      exact mn_some
set_option maxRecDepth 100000 in
set_option maxHeartbeats 2000000 in
theorem n_X7_lastHeirsAgree (p0 : Nat) (s : Mem) : Mn s (m_X7_lastHeirsAgree p0 s) := by
  unfold m_X7_lastHeirsAgree
  refine mn_bind (n_X2_fillFrom p0 s) (fun v1 s2 => ?_)
  exact mn_lp (sg := fun a => s2) (fun kf hq a => n_X7_lastHeirsAgree_b10 p0 s2 kf hq a) FUEL 0
set_option maxRecDepth 100000 in
set_option maxHeartbeats 2000000 in
theorem sat_X7_lastHeirsAgree (l : Launch) (hl : l.stackTraces = false) (p0 : Nat) (hp0 : isTh p0) (s : Mem) : Sat l yX7_lastHeirsAgree (.code yX7_lastHeirsAgree cX7_lastHeirsAgree 3 (some .boolean)) 33 567 (fun x => some (.int x)) [.ref 0, .ref p0] s (m_X7_lastHeirsAgree p0 s) := by
  refine sat_of hl (by decide) (Nat.le_of_ble_eq_true rfl) (fun X V A adV hxl hC hE hx hr => ?_) (n_X7_lastHeirsAgree p0 s)
  subst hxl
  show LX X V A 33 567 (nC s) (nS s) _ 0 [(0, .ref 0), (1, .ref p0)] [] s _
  unfold m_X7_lastHeirsAgree
  refine lx_aload_n hC dX7_lastHeirsAgree_0 rfl 0 rfl ?_
  refine lx_getR (q := 4) hC ly0 rfl 3 (by decide) rfl rfl inX7 wd250 dX7_lastHeirsAgree_1 ?_
  refine lx_aload_n hC dX7_lastHeirsAgree_4 rfl 1 rfl ?_
  refine lx_callX hC hx (sat_X2_fillFrom (xl X) hl p0 hp0 s) (run_V (as := [.ref p0]) (rest := []) hC hE ly4 rfl cw_X2_fillFrom ci_X2_fillFrom wd1240 cs_X2_fillFrom ce_X2_fillFrom cd_X2_fillFrom (by decide) (by decide) (Nat.le_of_ble_eq_true rfl) dX7_lastHeirsAgree_5 rfl) (fun v1 s2 _ => ?_)
  refine lx_iconstv (v := 0) hC dX7_lastHeirsAgree_8 rfl ?_
  refine lx_istore_n hC dX7_lastHeirsAgree_9 rfl (by decide) ?_
  refine lx_sub [1, 2, 0] rfl ?_
  exact lx_lp (lv := fun a => [(0, .ref 0), (1, .ref p0), (2, .int a)]) (st := fun _ => []) (sg := fun a => s2) (fun kf hq a => l_X7_lastHeirsAgree_b10 hC hE hl hx hr p0 hp0 s2 kf hq a) FUEL 0
set_option maxRecDepth 100000 in
set_option maxHeartbeats 2000000 in
theorem l_X7_ranksAgree_b10 {X : Cx} {V : Vx} {A : Nat → Prop} {adV : Nat → Nat} {c0 s0 : Nat} (hC : Cok X V A yX7_ranksAgree.cls cX7_ranksAgree 3) (hE : Env0 V adV A (xs X) (xs X).heap) (hl : (xl X).stackTraces = false) (hx : ∀ x ∈ (xc X).exceptionTable.toList, False) (hr : (xh X).sig.returnType = some .boolean) (q3 : Nat) (hq3 : isTh q3) (s : Mem) (kf10 : Int32 → Res Int32) (hk10 : ∀ a, LX X V A 32 548 c0 s0 (FM X V A (fun x => some (.int x))) 10 [(0, .ref 0), (1, .ref q3), (2, .int a)] [] s (kf10 a)) (w2 : Int32) : LX X V A 32 548 c0 s0 (FM X V A (fun x => some (.int x))) 10 [(0, .ref 0), (1, .ref q3), (2, .int w2)] [] s (m_X7_ranksAgree_b10 q3 s kf10 w2 ) := by
  unfold m_X7_ranksAgree_b10
  refine lx_iload_n hC dX7_ranksAgree_10 rfl 2 rfl ?_
  refine lx_aload_n hC dX7_ranksAgree_11 rfl 1 rfl ?_
  refine lx_getI hC (th_o hq3) rfl 9 (by decide) rfl inX6 wd108 dX7_ranksAgree_12 ?_
  refine lx_icmp_ge hC 40 dX7_ranksAgree_15 (by decide) ?_ ?_
  · skip
    refine lx_iconstv (v := 1) hC dX7_ranksAgree_40 rfl ?_
    exact lx_zret hC rfl hr rfl dX7_ranksAgree_41
  · skip
    refine lx_aload_n hC dX7_ranksAgree_18 rfl 1 rfl ?_
    refine lx_iload_n hC dX7_ranksAgree_19 rfl 2 rfl ?_
    refine lx_callP hC hx (sat_X6_idRanked (xl X) hl q3 w2 hq3 s) (run_V (as := [.int w2]) (rest := []) hC hE (th_o hq3) rfl cw_X6_idRanked ci_X6_idRanked wd1013 cs_X6_idRanked ce_X6_idRanked cd_X6_idRanked (by decide) (by decide) (Nat.le_of_ble_eq_true rfl) dX7_ranksAgree_20 rfl) (fun v4 _ => ?_)
    refine lx_aload_n hC dX7_ranksAgree_23 rfl 0 rfl ?_
    refine lx_aload_n hC dX7_ranksAgree_24 rfl 1 rfl ?_
    refine lx_iload_n hC dX7_ranksAgree_25 rfl 2 rfl ?_
    refine lx_callP hC hx (sat_X7_idRankedByTree (xl X) hl q3 w2 hq3 s) (run_V (as := [.ref q3, .int w2]) (rest := [.int v4]) hC hE ly0 rfl cw_X7_idRankedByTree ci_X7_idRankedByTree wd1266 cs_X7_idRankedByTree ce_X7_idRankedByTree cd_X7_idRankedByTree (by decide) (by decide) (Nat.le_of_ble_eq_true rfl) dX7_ranksAgree_26 rfl) (fun v5 _ => ?_)
    refine lx_icmp_eq hC 34 dX7_ranksAgree_29 (by decide) ?_ ?_
    · skip
      refine lx_iincN (v := 1) hC dX7_ranksAgree_34 2 rfl (by decide) rfl (fun y6 => ?_)
      refine lx_goto hC 10 dX7_ranksAgree_37 (by decide) ?_
      exact lx_sub [1, 2, 0] rfl (hk10 y6)
    · skip
      refine lx_iconstv (v := 0) hC dX7_ranksAgree_32 rfl ?_
      exact lx_zret hC rfl hr rfl dX7_ranksAgree_33
set_option maxRecDepth 100000 in
set_option maxHeartbeats 2000000 in
theorem n_X7_ranksAgree_b10 (q3 : Nat) (s : Mem) (kf10 : Int32 → Res Int32) (hm10 : ∀ a, Mn s (kf10 a)) (w2 : Int32) : Mn s (m_X7_ranksAgree_b10 q3 s kf10 w2 ) := by
  unfold m_X7_ranksAgree_b10
  refine mn_if ?_ ?_
  · skip
    exact mn_some
  · skip
    refine mn_bindP (fun v4 => ?_)
    refine mn_bindP (fun v5 => ?_)
    refine mn_if ?_ ?_
    · skip
      refine mn_vl (fun y6 => ?_)
      exact hm10 y6
    · skip
      exact mn_some
set_option maxRecDepth 100000 in
set_option maxHeartbeats 2000000 in
theorem n_X7_ranksAgree (p0 : Nat) (s : Mem) : Mn s (m_X7_ranksAgree p0 s) := by
  unfold m_X7_ranksAgree
  refine mn_bind (n_X1_fillFrom p0 s) (fun v1 s2 => ?_)
  exact mn_lp (sg := fun a => s2) (fun kf hq a => n_X7_ranksAgree_b10 p0 s2 kf hq a) FUEL 0
set_option maxRecDepth 100000 in
set_option maxHeartbeats 2000000 in
theorem sat_X7_ranksAgree (l : Launch) (hl : l.stackTraces = false) (p0 : Nat) (hp0 : isTh p0) (s : Mem) : Sat l yX7_ranksAgree (.code yX7_ranksAgree cX7_ranksAgree 3 (some .boolean)) 32 548 (fun x => some (.int x)) [.ref 0, .ref p0] s (m_X7_ranksAgree p0 s) := by
  refine sat_of hl (by decide) (Nat.le_of_ble_eq_true rfl) (fun X V A adV hxl hC hE hx hr => ?_) (n_X7_ranksAgree p0 s)
  subst hxl
  show LX X V A 32 548 (nC s) (nS s) _ 0 [(0, .ref 0), (1, .ref p0)] [] s _
  unfold m_X7_ranksAgree
  refine lx_aload_n hC dX7_ranksAgree_0 rfl 0 rfl ?_
  refine lx_getR (q := 3) hC ly0 rfl 2 (by decide) rfl rfl inX7 wd249 dX7_ranksAgree_1 ?_
  refine lx_aload_n hC dX7_ranksAgree_4 rfl 1 rfl ?_
  refine lx_callX hC hx (sat_X1_fillFrom (xl X) hl p0 hp0 s) (run_V (as := [.ref p0]) (rest := []) hC hE ly3 rfl cw_X1_fillFrom ci_X1_fillFrom wd1257 cs_X1_fillFrom ce_X1_fillFrom cd_X1_fillFrom (by decide) (by decide) (Nat.le_of_ble_eq_true rfl) dX7_ranksAgree_5 rfl) (fun v1 s2 _ => ?_)
  refine lx_iconstv (v := 0) hC dX7_ranksAgree_8 rfl ?_
  refine lx_istore_n hC dX7_ranksAgree_9 rfl (by decide) ?_
  refine lx_sub [1, 2, 0] rfl ?_
  exact lx_lp (lv := fun a => [(0, .ref 0), (1, .ref p0), (2, .int a)]) (st := fun _ => []) (sg := fun a => s2) (fun kf hq a => l_X7_ranksAgree_b10 hC hE hl hx hr p0 hp0 s2 kf hq a) FUEL 0
set_option maxRecDepth 100000 in
set_option maxHeartbeats 2000000 in
theorem l_X7_rangesAgree_b20 {X : Cx} {V : Vx} {A : Nat → Prop} {adV : Nat → Nat} {c0 s0 : Nat} (hC : Cok X V A yX7_rangesAgree.cls cX7_rangesAgree 4) (hE : Env0 V adV A (xs X) (xs X).heap) (hl : (xl X).stackTraces = false) (hx : ∀ x ∈ (xc X).exceptionTable.toList, False) (hr : (xh X).sig.returnType = some .boolean) (q3 : Nat) (x4 : Int32) (hq3 : isTh q3) (s : Mem) (kf10 : Int32 → Res Int32) (hk10 : ∀ a, LX X V A 32 547 c0 s0 (FM X V A (fun x => some (.int x))) 10 [(0, .ref 0), (1, .ref q3), (2, .int a)] [] s (kf10 a)) (kf20 : Int32 → Res Int32) (hk20 : ∀ a, LX X V A 32 547 c0 s0 (FM X V A (fun x => some (.int x))) 20 [(0, .ref 0), (1, .ref q3), (2, .int x4), (3, .int a)] [] s (kf20 a)) (w3 : Int32) : LX X V A 32 547 c0 s0 (FM X V A (fun x => some (.int x))) 20 [(0, .ref 0), (1, .ref q3), (2, .int x4), (3, .int w3)] [] s (m_X7_rangesAgree_b20 q3 x4 s kf10 kf20 w3 ) := by
  unfold m_X7_rangesAgree_b20
  refine lx_iload_n hC dX7_rangesAgree_20 rfl 3 rfl ?_
  refine lx_aload_n hC dX7_rangesAgree_21 rfl 1 rfl ?_
  refine lx_getI hC (th_o hq3) rfl 4 (by decide) rfl inX6 wd89 dX7_rangesAgree_22 ?_
  refine lx_icmp_ge hC 54 dX7_rangesAgree_25 (by decide) ?_ ?_
  · skip
    refine lx_iincN (v := 1) hC dX7_rangesAgree_54 2 rfl (by decide) rfl (fun y5 => ?_)
    refine lx_goto hC 10 dX7_rangesAgree_57 (by decide) ?_
    exact lx_sub [1, 2, 0] rfl (hk10 y5)
  · skip
    refine lx_aload_n hC dX7_rangesAgree_28 rfl 1 rfl ?_
    refine lx_iload_n hC dX7_rangesAgree_29 rfl 2 rfl ?_
    refine lx_iload_n hC dX7_rangesAgree_30 rfl 3 rfl ?_
    refine lx_callP hC hx (sat_X6_echoesBetween (xl X) hl q3 x4 w3 hq3 s) (run_V (as := [.int x4, .int w3]) (rest := []) hC hE (th_o hq3) rfl cw_X6_echoesBetween ci_X6_echoesBetween wd1283 cs_X6_echoesBetween ce_X6_echoesBetween cd_X6_echoesBetween (by decide) (by decide) (Nat.le_of_ble_eq_true rfl) dX7_rangesAgree_31 rfl) (fun v6 _ => ?_)
    refine lx_aload_n hC dX7_rangesAgree_34 rfl 0 rfl ?_
    refine lx_getR (q := 3) hC ly0 rfl 2 (by decide) rfl rfl inX7 wd249 dX7_rangesAgree_35 ?_
    refine lx_iload_n hC dX7_rangesAgree_38 rfl 2 rfl ?_
    refine lx_iload_n hC dX7_rangesAgree_39 rfl 3 rfl ?_
    refine lx_callP hC hx (sat_X1_sumBetween (xl X) hl x4 w3 s) (run_V (as := [.int x4, .int w3]) (rest := [.int v6]) hC hE ly3 rfl cw_X1_sumBetween ci_X1_sumBetween wd1287 cs_X1_sumBetween ce_X1_sumBetween cd_X1_sumBetween (by decide) (by decide) (Nat.le_of_ble_eq_true rfl) dX7_rangesAgree_40 rfl) (fun v7 _ => ?_)
    refine lx_icmp_eq hC 48 dX7_rangesAgree_43 (by decide) ?_ ?_
    · skip
      refine lx_iincN (v := 1) hC dX7_rangesAgree_48 3 rfl (by decide) rfl (fun y8 => ?_)
      refine lx_goto hC 20 dX7_rangesAgree_51 (by decide) ?_
      exact lx_sub [1, 2, 3, 0] rfl (hk20 y8)
    · skip
      refine lx_iconstv (v := 0) hC dX7_rangesAgree_46 rfl ?_
      exact lx_zret hC rfl hr rfl dX7_rangesAgree_47
set_option maxRecDepth 100000 in
set_option maxHeartbeats 2000000 in
theorem n_X7_rangesAgree_b20 (q3 : Nat) (x4 : Int32) (s : Mem) (kf10 : Int32 → Res Int32) (hm10 : ∀ a, Mn s (kf10 a)) (kf20 : Int32 → Res Int32) (hm20 : ∀ a, Mn s (kf20 a)) (w3 : Int32) : Mn s (m_X7_rangesAgree_b20 q3 x4 s kf10 kf20 w3 ) := by
  unfold m_X7_rangesAgree_b20
  refine mn_if ?_ ?_
  · skip
    refine mn_vl (fun y5 => ?_)
    exact hm10 y5
  · skip
    refine mn_bindP (fun v6 => ?_)
    refine mn_bindP (fun v7 => ?_)
    refine mn_if ?_ ?_
    · skip
      refine mn_vl (fun y8 => ?_)
      exact hm20 y8
    · skip
      exact mn_some
set_option maxRecDepth 100000 in
set_option maxHeartbeats 2000000 in
theorem l_X7_rangesAgree_b10 {X : Cx} {V : Vx} {A : Nat → Prop} {adV : Nat → Nat} {c0 s0 : Nat} (hC : Cok X V A yX7_rangesAgree.cls cX7_rangesAgree 4) (hE : Env0 V adV A (xs X) (xs X).heap) (hl : (xl X).stackTraces = false) (hx : ∀ x ∈ (xc X).exceptionTable.toList, False) (hr : (xh X).sig.returnType = some .boolean) (q3 : Nat) (hq3 : isTh q3) (s : Mem) (kf10 : Int32 → Res Int32) (hk10 : ∀ a, LX X V A 32 547 c0 s0 (FM X V A (fun x => some (.int x))) 10 [(0, .ref 0), (1, .ref q3), (2, .int a)] [] s (kf10 a)) (w2 : Int32) : LX X V A 32 547 c0 s0 (FM X V A (fun x => some (.int x))) 10 [(0, .ref 0), (1, .ref q3), (2, .int w2)] [] s (m_X7_rangesAgree_b10 q3 s kf10 w2 ) := by
  unfold m_X7_rangesAgree_b10
  refine lx_iload_n hC dX7_rangesAgree_10 rfl 2 rfl ?_
  refine lx_aload_n hC dX7_rangesAgree_11 rfl 1 rfl ?_
  refine lx_getI hC (th_o hq3) rfl 4 (by decide) rfl inX6 wd89 dX7_rangesAgree_12 ?_
  refine lx_icmp_ge hC 60 dX7_rangesAgree_15 (by decide) ?_ ?_
  · skip
    refine lx_iconstv (v := 1) hC dX7_rangesAgree_60 rfl ?_
    exact lx_zret hC rfl hr rfl dX7_rangesAgree_61
  · skip
    refine lx_iload_n hC dX7_rangesAgree_18 rfl 2 rfl ?_
    refine lx_istore_n hC dX7_rangesAgree_19 rfl (by decide) ?_
    refine lx_sub [1, 2, 3, 0] rfl ?_
    exact lx_lp (lv := fun a => [(0, .ref 0), (1, .ref q3), (2, .int w2), (3, .int a)]) (st := fun _ => []) (sg := fun a => s) (fun kf hq a => l_X7_rangesAgree_b20 hC hE hl hx hr q3 w2 hq3 s kf10 hk10 kf hq a) FUEL w2
set_option maxRecDepth 100000 in
set_option maxHeartbeats 2000000 in
theorem n_X7_rangesAgree_b10 (q3 : Nat) (s : Mem) (kf10 : Int32 → Res Int32) (hm10 : ∀ a, Mn s (kf10 a)) (w2 : Int32) : Mn s (m_X7_rangesAgree_b10 q3 s kf10 w2 ) := by
  unfold m_X7_rangesAgree_b10
  refine mn_if ?_ ?_
  · skip
    exact mn_some
  · skip
    exact mn_lp (sg := fun a => s) (fun kf hq a => n_X7_rangesAgree_b20 q3 w2 s kf10 hm10 kf hq a) FUEL w2
set_option maxRecDepth 100000 in
set_option maxHeartbeats 2000000 in
theorem n_X7_rangesAgree (p0 : Nat) (s : Mem) : Mn s (m_X7_rangesAgree p0 s) := by
  unfold m_X7_rangesAgree
  refine mn_bind (n_X1_fillFrom p0 s) (fun v1 s2 => ?_)
  exact mn_lp (sg := fun a => s2) (fun kf hq a => n_X7_rangesAgree_b10 p0 s2 kf hq a) FUEL 0
set_option maxRecDepth 100000 in
set_option maxHeartbeats 2000000 in
theorem sat_X7_rangesAgree (l : Launch) (hl : l.stackTraces = false) (p0 : Nat) (hp0 : isTh p0) (s : Mem) : Sat l yX7_rangesAgree (.code yX7_rangesAgree cX7_rangesAgree 4 (some .boolean)) 32 547 (fun x => some (.int x)) [.ref 0, .ref p0] s (m_X7_rangesAgree p0 s) := by
  refine sat_of hl (by decide) (Nat.le_of_ble_eq_true rfl) (fun X V A adV hxl hC hE hx hr => ?_) (n_X7_rangesAgree p0 s)
  subst hxl
  show LX X V A 32 547 (nC s) (nS s) _ 0 [(0, .ref 0), (1, .ref p0)] [] s _
  unfold m_X7_rangesAgree
  refine lx_aload_n hC dX7_rangesAgree_0 rfl 0 rfl ?_
  refine lx_getR (q := 3) hC ly0 rfl 2 (by decide) rfl rfl inX7 wd249 dX7_rangesAgree_1 ?_
  refine lx_aload_n hC dX7_rangesAgree_4 rfl 1 rfl ?_
  refine lx_callX hC hx (sat_X1_fillFrom (xl X) hl p0 hp0 s) (run_V (as := [.ref p0]) (rest := []) hC hE ly3 rfl cw_X1_fillFrom ci_X1_fillFrom wd1257 cs_X1_fillFrom ce_X1_fillFrom cd_X1_fillFrom (by decide) (by decide) (Nat.le_of_ble_eq_true rfl) dX7_rangesAgree_5 rfl) (fun v1 s2 _ => ?_)
  refine lx_iconstv (v := 0) hC dX7_rangesAgree_8 rfl ?_
  refine lx_istore_n hC dX7_rangesAgree_9 rfl (by decide) ?_
  refine lx_sub [1, 2, 0] rfl ?_
  exact lx_lp (lv := fun a => [(0, .ref 0), (1, .ref p0), (2, .int a)]) (st := fun _ => []) (sg := fun a => s2) (fun kf hq a => l_X7_rangesAgree_b10 hC hE hl hx hr p0 hp0 s2 kf hq a) FUEL 0
set_option maxRecDepth 100000 in
set_option maxHeartbeats 2000000 in
theorem l_X6_seatsSuffice_b2 {X : Cx} {V : Vx} {A : Nat → Prop} {adV : Nat → Nat} {c0 s0 : Nat} (hC : Cok X V A yX6_seatsSuffice.cls cX6_seatsSuffice 2) (hE : Env0 V adV A (xs X) (xs X).heap) (hl : (xl X).stackTraces = false) (hx : ∀ x ∈ (xc X).exceptionTable.toList, False) (hr : (xh X).sig.returnType = some .boolean) (q1 : Nat) (hq1 : isTh q1) (s : Mem) (kf2 : Int32 → Option Int32) (hk2 : ∀ a, LX X V A 32 544 c0 s0 (FM X V A (fun x => some (.int x))) 2 [(0, .ref q1), (1, .int a)] [] s (pur s (kf2 a))) (w1 : Int32) : LX X V A 32 544 c0 s0 (FM X V A (fun x => some (.int x))) 2 [(0, .ref q1), (1, .int w1)] [] s (pur s (m_X6_seatsSuffice_b2 q1 s kf2 w1 )) := by
  unfold m_X6_seatsSuffice_b2
  refine lx_iload_n hC dX6_seatsSuffice_2 rfl 1 rfl ?_
  refine lx_aload_n hC dX6_seatsSuffice_3 rfl 0 rfl ?_
  refine lx_getI hC (th_o hq1) rfl 4 (by decide) rfl inX6 wd86 dX6_seatsSuffice_4 ?_
  refine lq_icmp_ge hC 26 dX6_seatsSuffice_7 (by decide) ?_ ?_
  · skip
    refine lx_iconstv (v := 1) hC dX6_seatsSuffice_26 rfl ?_
    exact lx_zret hC rfl hr rfl dX6_seatsSuffice_27
  · skip
    refine lx_aload_n hC dX6_seatsSuffice_10 rfl 0 rfl ?_
    refine lx_iload_n hC dX6_seatsSuffice_11 rfl 1 rfl ?_
    refine lq_call hC hx (sat_X6_emptySeatsIn (xl X) hl q1 w1 hq1 s) (run_V (as := [.int w1]) (rest := []) hC hE (th_o hq1) rfl cw_X6_emptySeatsIn ci_X6_emptySeatsIn wd1296 cs_X6_emptySeatsIn ce_X6_emptySeatsIn cd_X6_emptySeatsIn (by decide) (by decide) (Nat.le_of_ble_eq_true rfl) dX6_seatsSuffice_12 rfl) (fun v2 _ => ?_)
    refine lq_if_ge hC 20 dX6_seatsSuffice_15 (by decide) ?_ ?_
    · skip
      refine lq_iincN (v := 1) hC dX6_seatsSuffice_20 1 rfl (by decide) rfl (fun y3 => ?_)
      refine lx_goto hC 2 dX6_seatsSuffice_23 (by decide) ?_
      exact lx_sub [1, 0] rfl (hk2 y3)
    · skip
      refine lx_iconstv (v := 0) hC dX6_seatsSuffice_18 rfl ?_
      exact lx_zret hC rfl hr rfl dX6_seatsSuffice_19
set_option maxRecDepth 100000 in
set_option maxHeartbeats 2000000 in
theorem sat_X6_seatsSuffice (l : Launch) (hl : l.stackTraces = false) (t : Nat) (ht : isTh t) (s : Mem) : Sat l yX6_seatsSuffice (.code yX6_seatsSuffice cX6_seatsSuffice 2 (some .boolean)) 32 544 (fun x => some (.int x)) [.ref t] s (pur s (m_X6_seatsSuffice t s)) := by
  refine sat_of hl (by decide) (Nat.le_of_ble_eq_true rfl) (fun X V A adV hxl hC hE hx hr => ?_) pur_mono
  subst hxl
  show LX X V A 32 544 (nC s) (nS s) _ 0 [(0, .ref t)] [] s _
  unfold m_X6_seatsSuffice
  refine lx_iconstv (v := 0) hC dX6_seatsSuffice_0 rfl ?_
  refine lx_istore_n hC dX6_seatsSuffice_1 rfl (by decide) ?_
  refine lx_sub [1, 0] rfl ?_
  exact lq_lp (lv := fun a => [(0, .ref t), (1, .int a)]) (st := fun _ => []) (fun kf hq a => l_X6_seatsSuffice_b2 hC hE hl hx hr t ht s kf hq a) FUEL 0
set_option maxRecDepth 100000 in
set_option maxHeartbeats 2000000 in
theorem n_X7_isConsistent (s : Mem) : Mn s (m_X7_isConsistent s) := by
  unfold m_X7_isConsistent
  refine mn_bindP (fun v1 => ?_)
  refine mn_if ?_ mn_none
  refine mn_bind (n_X7_lastHeirsAgree v1 s) (fun v3 s4 => ?_)
  refine mn_if ?_ ?_
  · skip
    exact mn_some
  · skip
    refine mn_bind (n_X7_ranksAgree v1 s4) (fun v5 s6 => ?_)
    refine mn_if ?_ ?_
    · skip
      exact mn_some
    · skip
      refine mn_bind (n_X7_rangesAgree v1 s6) (fun v7 s8 => ?_)
      refine mn_if ?_ ?_
      · skip
        exact mn_some
      · skip
        refine mn_bindP (fun v9 => ?_)
        refine mn_if ?_ ?_
        · skip
          exact mn_some
        · skip
          refine mn_bindP (fun v10 => ?_)
          refine mn_if ?_ ?_
          · skip
            exact mn_some
          · skip
            exact mn_some
set_option maxRecDepth 100000 in
set_option maxHeartbeats 2000000 in
theorem sat_X7_isConsistent (l : Launch) (hl : l.stackTraces = false) (s : Mem) : Sat l yX7_isConsistent (.code yX7_isConsistent cX7_isConsistent 2 (some .boolean)) 34 589 (fun x => some (.int x)) [.ref 0] s (m_X7_isConsistent s) := by
  refine sat_of hl (by decide) (Nat.le_of_ble_eq_true rfl) (fun X V A adV hxl hC hE hx hr => ?_) (n_X7_isConsistent s)
  subst hxl
  show LX X V A 34 589 (nC s) (nS s) _ 0 [(0, .ref 0)] [] s _
  unfold m_X7_isConsistent
  refine lx_aload_n hC dX7_isConsistent_0 rfl 0 rfl ?_
  refine lx_getR (q := 1) hC ly0 rfl 0 (by decide) rfl rfl inX7 wd247 dX7_isConsistent_1 ?_
  refine lx_callP hC hx (sat_X3_present (xl X) hl s) (run_V (as := []) (rest := []) hC hE ly1 rfl cw_X3_present ci_X3_present wd282 cs_X3_present ce_X3_present cd_X3_present (by decide) (by decide) (Nat.le_of_ble_eq_true rfl) dX7_isConsistent_4 rfl) (fun v1 _ => ?_)
  refine lx_if fun h2 => ?_
  refine lx_astore_n hC dX7_isConsistent_7 rfl (by decide) ?_
  refine lx_aload_n hC dX7_isConsistent_8 rfl 1 rfl ?_
  refine lx_aload_n hC dX7_isConsistent_9 rfl 0 rfl ?_
  refine lx_callX hC hx (sat_X7_lastHeirsAgree (xl X) hl v1 h2 s) (run_V (as := [.ref v1]) (rest := []) hC hE ly0 rfl cw_X7_lastHeirsAgree ci_X7_lastHeirsAgree wd1236 cs_X7_lastHeirsAgree ce_X7_lastHeirsAgree cd_X7_lastHeirsAgree (by decide) (by decide) (Nat.le_of_ble_eq_true rfl) dX7_isConsistent_10 rfl) (fun v3 s4 _ => ?_)
  refine lx_if_eq hC 60 dX7_isConsistent_13 (by decide) ?_ ?_
  · skip
    refine lx_iconstv (v := 0) hC dX7_isConsistent_60 rfl ?_
    exact lx_zret hC rfl hr rfl dX7_isConsistent_61
  · skip
    refine lx_aload_n hC dX7_isConsistent_16 rfl 1 rfl ?_
    refine lx_aload_n hC dX7_isConsistent_17 rfl 0 rfl ?_
    refine lx_callX hC hx (sat_X7_ranksAgree (xl X) hl v1 h2 s4) (run_V (as := [.ref v1]) (rest := []) hC hE ly0 rfl cw_X7_ranksAgree ci_X7_ranksAgree wd1253 cs_X7_ranksAgree ce_X7_ranksAgree cd_X7_ranksAgree (by decide) (by decide) (Nat.le_of_ble_eq_true rfl) dX7_isConsistent_18 rfl) (fun v5 s6 _ => ?_)
    refine lx_if_eq hC 60 dX7_isConsistent_21 (by decide) ?_ ?_
    · skip
      refine lx_iconstv (v := 0) hC dX7_isConsistent_60 rfl ?_
      exact lx_zret hC rfl hr rfl dX7_isConsistent_61
    · skip
      refine lx_aload_n hC dX7_isConsistent_24 rfl 1 rfl ?_
      refine lx_aload_n hC dX7_isConsistent_25 rfl 0 rfl ?_
      refine lx_callX hC hx (sat_X7_rangesAgree (xl X) hl v1 h2 s6) (run_V (as := [.ref v1]) (rest := []) hC hE ly0 rfl cw_X7_rangesAgree ci_X7_rangesAgree wd1279 cs_X7_rangesAgree ce_X7_rangesAgree cd_X7_rangesAgree (by decide) (by decide) (Nat.le_of_ble_eq_true rfl) dX7_isConsistent_26 rfl) (fun v7 s8 _ => ?_)
      refine lx_if_eq hC 60 dX7_isConsistent_29 (by decide) ?_ ?_
      · skip
        refine lx_iconstv (v := 0) hC dX7_isConsistent_60 rfl ?_
        exact lx_zret hC rfl hr rfl dX7_isConsistent_61
      · skip
        refine lx_aload_n hC dX7_isConsistent_32 rfl 0 rfl ?_
        refine lx_callP hC hx (sat_X6_seatsSuffice (xl X) hl v1 h2 s8) (run_V (as := []) (rest := []) hC hE (th_o h2) rfl cw_X6_seatsSuffice ci_X6_seatsSuffice wd1292 cs_X6_seatsSuffice ce_X6_seatsSuffice cd_X6_seatsSuffice (by decide) (by decide) (Nat.le_of_ble_eq_true rfl) dX7_isConsistent_33 rfl) (fun v9 _ => ?_)
        refine lx_if_eq hC 60 dX7_isConsistent_36 (by decide) ?_ ?_
        · skip
          refine lx_iconstv (v := 0) hC dX7_isConsistent_60 rfl ?_
          exact lx_zret hC rfl hr rfl dX7_isConsistent_61
        · skip
          refine lx_aload_n hC dX7_isConsistent_39 rfl 0 rfl ?_
          refine lx_getJ hC (th_o h2) rfl 13 (by decide) rfl inX6 wd119 dX7_isConsistent_40 ?_
          refine lx_aload_n hC dX7_isConsistent_43 rfl 0 rfl ?_
          refine lx_callP hC hx (sat_X6_loudnessOfAll (xl X) hl v1 h2 s8) (run_V (as := []) (rest := [.long (gJ s8 v1 13)]) hC hE (th_o h2) rfl cw_X6_loudnessOfAll ci_X6_loudnessOfAll wd1297 cs_X6_loudnessOfAll ce_X6_loudnessOfAll cd_X6_loudnessOfAll (by decide) (by decide) (Nat.le_of_ble_eq_true rfl) dX7_isConsistent_44 rfl) (fun v10 _ => ?_)
          refine lx_aload_n hC dX7_isConsistent_47 rfl 0 rfl ?_
          refine lx_getJ hC (th_o h2) rfl 14 (by decide) rfl inX6 wd122 dX7_isConsistent_48 ?_
          refine lx_ladd hC dX7_isConsistent_51 ?_
          refine lx_lcmp hC dX7_isConsistent_52 ?_
          refine lx_if_ne hC 60 dX7_isConsistent_53 (by decide) ?_ ?_
          · skip
            refine lx_iconstv (v := 0) hC dX7_isConsistent_60 rfl ?_
            exact lx_zret hC rfl hr rfl dX7_isConsistent_61
          · skip
            refine lx_iconstv (v := 1) hC dX7_isConsistent_56 rfl ?_
            refine lx_goto hC 61 dX7_isConsistent_57 (by decide) ?_
            exact lx_zret hC rfl hr rfl dX7_isConsistent_61
