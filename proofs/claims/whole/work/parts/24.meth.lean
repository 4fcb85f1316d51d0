set_option maxRecDepth 100000 in
set_option maxHeartbeats 2000000 in
theorem n_X8_spread (p0 : Int32) (s : Mem) : Mn s (m_X8_spread p0 s) := by
  unfold m_X8_spread
  refine mn_put (fun s1 => ?_)
  refine mn_bindP (fun v2 => ?_)
  refine mn_if ?_ ?_
  · skip
    refine mn_bind (n_X8_remembers s1) (fun v3 s4 => ?_)
    refine mn_bind (n_X8_spreads p0 s4) (fun v5 s6 => ?_)
    exact mn_some
  · skip
    refine mn_bind (n_X8_fails v2 s1) (fun v7 s8 => ?_)
    exact mn_some
set_option maxRecDepth 100000 in
set_option maxHeartbeats 2000000 in
theorem sat_X8_spread (l : Launch) (hl : l.stackTraces = false) (p0 : Int32) (s : Mem) : Sat l yX8_spread (.code yX8_spread cX8_spread 3 (some .int)) 34 590 (fun x => some (.int x)) [.ref 8, .int p0] s (m_X8_spread p0 s) := by
  refine sat_of hl (by decide) (Nat.le_of_ble_eq_true rfl) (fun X V A adV hxl hC hE hx hr => ?_) (n_X8_spread p0 s)
  subst hxl
  show LX X V A 34 590 (nC s) (nS s) _ 0 [(0, .ref 8), (1, .int p0)] [] s _
  unfold m_X8_spread
  refine lx_aload_n hC dX8_spread_0 rfl 0 rfl ?_
  refine lx_iconstv (v := 0) hC dX8_spread_1 rfl ?_
  refine lx_putI hC ly8 rfl 0 (by decide) rfl tyX8 tyX8_ok nmX8 rfl rfl rfl inX8 wd1605 dX8_spread_2 (fun s1 => ?_)
  refine lx_aload_n hC dX8_spread_5 rfl 0 rfl ?_
  refine lx_iload_n hC dX8_spread_6 rfl 1 rfl ?_
  refine lx_callP hC hx (sat_X8_notSpread (xl X) hl p0 s1) (run_V (as := [.int p0]) (rest := []) hC hE ly8 rfl cw_X8_notSpread ci_X8_notSpread wd1859 cs_X8_notSpread ce_X8_notSpread cd_X8_notSpread (by decide) (by decide) (Nat.le_of_ble_eq_true rfl) dX8_spread_7 rfl) (fun v2 _ => ?_)
  refine lx_istore_n hC dX8_spread_10 rfl (by decide) ?_
  refine lx_iload_n hC dX8_spread_11 rfl 0 rfl ?_
  refine lx_if_eq hC 21 dX8_spread_12 (by decide) ?_ ?_
  · skip
    refine lx_aload_n hC dX8_spread_21 rfl 1 rfl ?_
    refine lx_callX hC hx (sat_X8_remembers (xl X) hl s1) (run_V (as := []) (rest := []) hC hE ly8 rfl cw_X8_remembers ci_X8_remembers wd1680 cs_X8_remembers ce_X8_remembers cd_X8_remembers (by decide) (by decide) (Nat.le_of_ble_eq_true rfl) dX8_spread_22 rfl) (fun v3 s4 _ => ?_)
    refine lx_aload_n hC dX8_spread_25 rfl 1 rfl ?_
    refine lx_iload_n hC dX8_spread_26 rfl 2 rfl ?_
    refine lx_callX hC hx (sat_X8_spreads (xl X) hl p0 s4) (run_V (as := [.int p0]) (rest := []) hC hE ly8 rfl cw_X8_spreads ci_X8_spreads wd1863 cs_X8_spreads ce_X8_spreads cd_X8_spreads (by decide) (by decide) (Nat.le_of_ble_eq_true rfl) dX8_spread_27 rfl) (fun v5 s6 _ => ?_)
    exact lx_iret hC rfl hr dX8_spread_30
  · skip
    refine lx_aload_n hC dX8_spread_15 rfl 1 rfl ?_
    refine lx_iload_n hC dX8_spread_16 rfl 0 rfl ?_
    refine lx_callX hC hx (sat_X8_fails (xl X) hl v2 s1) (run_V (as := [.int v2]) (rest := []) hC hE ly8 rfl cw_X8_fails ci_X8_fails wd1676 cs_X8_fails ce_X8_fails cd_X8_fails (by decide) (by decide) (Nat.le_of_ble_eq_true rfl) dX8_spread_17 rfl) (fun v7 s8 _ => ?_)
    exact lx_iret hC rfl hr dX8_spread_20
set_option maxRecDepth 100000 in
set_option maxHeartbeats 2000000 in
theorem n_X8_rowCount (s : Mem) : Mn s (m_X8_rowCount s) := by
  unfold m_X8_rowCount
  refine mn_put (fun s1 => ?_)
  refine mn_if ?_ mn_none
  exact mn_some
set_option maxRecDepth 100000 in
set_option maxHeartbeats 2000000 in
theorem sat_X8_rowCount (l : Launch) (hl : l.stackTraces = false) (s : Mem) : Sat l yX8_rowCount (.code yX8_rowCount cX8_rowCount 1 (some .int)) 30 500 (fun x => some (.int x)) [.ref 8] s (m_X8_rowCount s) := by
  refine sat_of hl (by decide) (Nat.le_of_ble_eq_true rfl) (fun X V A adV hxl hC hE hx hr => ?_) (n_X8_rowCount s)
  subst hxl
  show LX X V A 30 500 (nC s) (nS s) _ 0 [(0, .ref 8)] [] s _
  unfold m_X8_rowCount
  refine lx_aload_n hC dX8_rowCount_0 rfl 0 rfl ?_
  refine lx_iconstv (v := 0) hC dX8_rowCount_1 rfl ?_
  refine lx_putI hC ly8 rfl 0 (by decide) rfl tyX8 tyX8_ok nmX8 rfl rfl rfl inX8 wd1605 dX8_rowCount_2 (fun s1 => ?_)
  refine lx_aload_n hC dX8_rowCount_5 rfl 0 rfl ?_
  refine lx_getR (q := 136) hC ly8 rfl 1 (by decide) rfl rfl inX8 wd1606 dX8_rowCount_6 ?_
  refine lx_iconstv (v := 0) hC dX8_rowCount_9 rfl ?_
  refine lx_iaload hC ly136 dX8_rowCount_10 ?_
  exact lx_iret hC rfl hr dX8_rowCount_11
set_option maxRecDepth 100000 in
set_option maxHeartbeats 2000000 in
theorem n_X8_capacity (p0 : Int32) (s : Mem) : Mn s (m_X8_capacity p0 s) := by
  unfold m_X8_capacity
  refine mn_put (fun s1 => ?_)
  refine mn_bindP (fun v2 => ?_)
  refine mn_if ?_ ?_
  · skip
    refine mn_bind (n_X8_fails 1 s1) (fun v3 s4 => ?_)
    exact mn_some
  · skip
    refine mn_bindP (fun v5 => ?_)
    exact mn_some
set_option maxRecDepth 100000 in
set_option maxHeartbeats 2000000 in
theorem sat_X8_capacity (l : Launch) (hl : l.stackTraces = false) (p0 : Int32) (s : Mem) : Sat l yX8_capacity (.code yX8_capacity cX8_capacity 2 (some .int)) 32 543 (fun x => some (.int x)) [.ref 8, .int p0] s (m_X8_capacity p0 s) := by
  refine sat_of hl (by decide) (Nat.le_of_ble_eq_true rfl) (fun X V A adV hxl hC hE hx hr => ?_) (n_X8_capacity p0 s)
  subst hxl
  show LX X V A 32 543 (nC s) (nS s) _ 0 [(0, .ref 8), (1, .int p0)] [] s _
  unfold m_X8_capacity
  refine lx_aload_n hC dX8_capacity_0 rfl 0 rfl ?_
  refine lx_iconstv (v := 0) hC dX8_capacity_1 rfl ?_
  refine lx_putI hC ly8 rfl 0 (by decide) rfl tyX8 tyX8_ok nmX8 rfl rfl rfl inX8 wd1605 dX8_capacity_2 (fun s1 => ?_)
  refine lx_aload_n hC dX8_capacity_5 rfl 0 rfl ?_
  refine lx_iload_n hC dX8_capacity_6 rfl 1 rfl ?_
  refine lx_callP hC hx (sat_X8_isRow (xl X) hl p0 s1) (run_V (as := [.int p0]) (rest := []) hC hE ly8 rfl cw_X8_isRow ci_X8_isRow wd1708 cs_X8_isRow ce_X8_isRow cd_X8_isRow (by decide) (by decide) (Nat.le_of_ble_eq_true rfl) dX8_capacity_7 rfl) (fun v2 _ => ?_)
  refine lx_if_eq hC 22 dX8_capacity_10 (by decide) ?_ ?_
  · skip
    refine lx_aload_n hC dX8_capacity_22 rfl 0 rfl ?_
    refine lx_iconstv (v := 1) hC dX8_capacity_23 rfl ?_
    refine lx_callX hC hx (sat_X8_fails (xl X) hl 1 s1) (run_V (as := [.int 1]) (rest := []) hC hE ly8 rfl cw_X8_fails ci_X8_fails wd1676 cs_X8_fails ce_X8_fails cd_X8_fails (by decide) (by decide) (Nat.le_of_ble_eq_true rfl) dX8_capacity_24 rfl) (fun v3 s4 _ => ?_)
    exact lx_iret hC rfl hr dX8_capacity_27
  · skip
    refine lx_aload_n hC dX8_capacity_13 rfl 0 rfl ?_
    refine lx_iload_n hC dX8_capacity_14 rfl 1 rfl ?_
    refine lx_iconstv (v := 0) hC dX8_capacity_15 rfl ?_
    refine lx_callP hC hx (sat_X8_of (xl X) hl p0 0 s1) (run_V (as := [.int p0, .int 0]) (rest := []) hC hE ly8 rfl cw_X8_of ci_X8_of wd1716 cs_X8_of ce_X8_of cd_X8_of (by decide) (by decide) (Nat.le_of_ble_eq_true rfl) dX8_capacity_16 rfl) (fun v5 _ => ?_)
    refine lx_goto hC 27 dX8_capacity_19 (by decide) ?_
    exact lx_iret hC rfl hr dX8_capacity_27
set_option maxRecDepth 100000 in
set_option maxHeartbeats 2000000 in
theorem n_X8_phantoms (p0 : Int32) (s : Mem) : Mn s (m_X8_phantoms p0 s) := by
  unfold m_X8_phantoms
  refine mn_put (fun s1 => ?_)
  refine mn_bindP (fun v2 => ?_)
  refine mn_if ?_ ?_
  · skip
    refine mn_bind (n_X8_fails 1 s1) (fun v3 s4 => ?_)
    exact mn_some
  · skip
    refine mn_bindP (fun v5 => ?_)
    exact mn_some
set_option maxRecDepth 100000 in
set_option maxHeartbeats 2000000 in
theorem sat_X8_phantoms (l : Launch) (hl : l.stackTraces = false) (p0 : Int32) (s : Mem) : Sat l yX8_phantoms (.code yX8_phantoms cX8_phantoms 2 (some .int)) 32 543 (fun x => some (.int x)) [.ref 8, .int p0] s (m_X8_phantoms p0 s) := by
  refine sat_of hl (by decide) (Nat.le_of_ble_eq_true rfl) (fun X V A adV hxl hC hE hx hr => ?_) (n_X8_phantoms p0 s)
  subst hxl
  show LX X V A 32 543 (nC s) (nS s) _ 0 [(0, .ref 8), (1, .int p0)] [] s _
  unfold m_X8_phantoms
  refine lx_aload_n hC dX8_phantoms_0 rfl 0 rfl ?_
  refine lx_iconstv (v := 0) hC dX8_phantoms_1 rfl ?_
  refine lx_putI hC ly8 rfl 0 (by decide) rfl tyX8 tyX8_ok nmX8 rfl rfl rfl inX8 wd1605 dX8_phantoms_2 (fun s1 => ?_)
  refine lx_aload_n hC dX8_phantoms_5 rfl 0 rfl ?_
  refine lx_iload_n hC dX8_phantoms_6 rfl 1 rfl ?_
  refine lx_callP hC hx (sat_X8_isRow (xl X) hl p0 s1) (run_V (as := [.int p0]) (rest := []) hC hE ly8 rfl cw_X8_isRow ci_X8_isRow wd1708 cs_X8_isRow ce_X8_isRow cd_X8_isRow (by decide) (by decide) (Nat.le_of_ble_eq_true rfl) dX8_phantoms_7 rfl) (fun v2 _ => ?_)
  refine lx_if_eq hC 22 dX8_phantoms_10 (by decide) ?_ ?_
  · skip
    refine lx_aload_n hC dX8_phantoms_22 rfl 0 rfl ?_
    refine lx_iconstv (v := 1) hC dX8_phantoms_23 rfl ?_
    refine lx_callX hC hx (sat_X8_fails (xl X) hl 1 s1) (run_V (as := [.int 1]) (rest := []) hC hE ly8 rfl cw_X8_fails ci_X8_fails wd1676 cs_X8_fails ce_X8_fails cd_X8_fails (by decide) (by decide) (Nat.le_of_ble_eq_true rfl) dX8_phantoms_24 rfl) (fun v3 s4 _ => ?_)
    exact lx_iret hC rfl hr dX8_phantoms_27
  · skip
    refine lx_aload_n hC dX8_phantoms_13 rfl 0 rfl ?_
    refine lx_iload_n hC dX8_phantoms_14 rfl 1 rfl ?_
    refine lx_iconstv (v := 1) hC dX8_phantoms_15 rfl ?_
    refine lx_callP hC hx (sat_X8_of (xl X) hl p0 1 s1) (run_V (as := [.int p0, .int 1]) (rest := []) hC hE ly8 rfl cw_X8_of ci_X8_of wd1716 cs_X8_of ce_X8_of cd_X8_of (by decide) (by decide) (Nat.le_of_ble_eq_true rfl) dX8_phantoms_16 rfl) (fun v5 _ => ?_)
    refine lx_goto hC 27 dX8_phantoms_19 (by decide) ?_
    exact lx_iret hC rfl hr dX8_phantoms_27
set_option maxRecDepth 100000 in
set_option maxHeartbeats 2000000 in
theorem n_X8_occupancy (p0 : Int32) (s : Mem) : Mn s (m_X8_occupancy p0 s) := by
  unfold m_X8_occupancy
  refine mn_put (fun s1 => ?_)
  refine mn_bindP (fun v2 => ?_)
  refine mn_if ?_ ?_
  · skip
    refine mn_bind (n_X8_fails 1 s1) (fun v3 s4 => ?_)
    exact mn_some
  · skip
    refine mn_bindP (fun v5 => ?_)
    exact mn_some
set_option maxRecDepth 100000 in
set_option maxHeartbeats 2000000 in
theorem sat_X8_occupancy (l : Launch) (hl : l.stackTraces = false) (p0 : Int32) (s : Mem) : Sat l yX8_occupancy (.code yX8_occupancy cX8_occupancy 2 (some .int)) 32 545 (fun x => some (.int x)) [.ref 8, .int p0] s (m_X8_occupancy p0 s) := by
  refine sat_of hl (by decide) (Nat.le_of_ble_eq_true rfl) (fun X V A adV hxl hC hE hx hr => ?_) (n_X8_occupancy p0 s)
  subst hxl
  show LX X V A 32 545 (nC s) (nS s) _ 0 [(0, .ref 8), (1, .int p0)] [] s _
  unfold m_X8_occupancy
  refine lx_aload_n hC dX8_occupancy_0 rfl 0 rfl ?_
  refine lx_iconstv (v := 0) hC dX8_occupancy_1 rfl ?_
  refine lx_putI hC ly8 rfl 0 (by decide) rfl tyX8 tyX8_ok nmX8 rfl rfl rfl inX8 wd1605 dX8_occupancy_2 (fun s1 => ?_)
  refine lx_aload_n hC dX8_occupancy_5 rfl 0 rfl ?_
  refine lx_iload_n hC dX8_occupancy_6 rfl 1 rfl ?_
  refine lx_callP hC hx (sat_X8_isRow (xl X) hl p0 s1) (run_V (as := [.int p0]) (rest := []) hC hE ly8 rfl cw_X8_isRow ci_X8_isRow wd1708 cs_X8_isRow ce_X8_isRow cd_X8_isRow (by decide) (by decide) (Nat.le_of_ble_eq_true rfl) dX8_occupancy_7 rfl) (fun v2 _ => ?_)
  refine lx_if_eq hC 21 dX8_occupancy_10 (by decide) ?_ ?_
  · skip
    refine lx_aload_n hC dX8_occupancy_21 rfl 0 rfl ?_
    refine lx_iconstv (v := 1) hC dX8_occupancy_22 rfl ?_
    refine lx_callX hC hx (sat_X8_fails (xl X) hl 1 s1) (run_V (as := [.int 1]) (rest := []) hC hE ly8 rfl cw_X8_fails ci_X8_fails wd1676 cs_X8_fails ce_X8_fails cd_X8_fails (by decide) (by decide) (Nat.le_of_ble_eq_true rfl) dX8_occupancy_23 rfl) (fun v3 s4 _ => ?_)
    exact lx_iret hC rfl hr dX8_occupancy_26
  · skip
    refine lx_aload_n hC dX8_occupancy_13 rfl 0 rfl ?_
    refine lx_iload_n hC dX8_occupancy_14 rfl 1 rfl ?_
    refine lx_callP hC hx (sat_X8_countIn (xl X) hl p0 s1) (run_V (as := [.int p0]) (rest := []) hC hE ly8 rfl cw_X8_countIn ci_X8_countIn wd1736 cs_X8_countIn ce_X8_countIn cd_X8_countIn (by decide) (by decide) (Nat.le_of_ble_eq_true rfl) dX8_occupancy_15 rfl) (fun v5 _ => ?_)
    refine lx_goto hC 26 dX8_occupancy_18 (by decide) ?_
    exact lx_iret hC rfl hr dX8_occupancy_26
set_option maxRecDepth 100000 in
set_option maxHeartbeats 2000000 in
theorem n_X8_freeSeats (p0 : Int32) (s : Mem) : Mn s (m_X8_freeSeats p0 s) := by
  unfold m_X8_freeSeats
  refine mn_put (fun s1 => ?_)
  refine mn_bindP (fun v2 => ?_)
  refine mn_if ?_ ?_
  · skip
    refine mn_bind (n_X8_fails 1 s1) (fun v3 s4 => ?_)
    exact mn_some
  · skip
    refine mn_bindP (fun v5 => ?_)
    exact mn_some
set_option maxRecDepth 100000 in
set_option maxHeartbeats 2000000 in
theorem sat_X8_freeSeats (l : Launch) (hl : l.stackTraces = false) (p0 : Int32) (s : Mem) : Sat l yX8_freeSeats (.code yX8_freeSeats cX8_freeSeats 2 (some .int)) 33 566 (fun x => some (.int x)) [.ref 8, .int p0] s (m_X8_freeSeats p0 s) := by
  refine sat_of hl (by decide) (Nat.le_of_ble_eq_true rfl) (fun X V A adV hxl hC hE hx hr => ?_) (n_X8_freeSeats p0 s)
  subst hxl
  show LX X V A 33 566 (nC s) (nS s) _ 0 [(0, .ref 8), (1, .int p0)] [] s _
  unfold m_X8_freeSeats
  refine lx_aload_n hC dX8_freeSeats_0 rfl 0 rfl ?_
  refine lx_iconstv (v := 0) hC dX8_freeSeats_1 rfl ?_
  refine lx_putI hC ly8 rfl 0 (by decide) rfl tyX8 tyX8_ok nmX8 rfl rfl rfl inX8 wd1605 dX8_freeSeats_2 (fun s1 => ?_)
  refine lx_aload_n hC dX8_freeSeats_5 rfl 0 rfl ?_
  refine lx_iload_n hC dX8_freeSeats_6 rfl 1 rfl ?_
  refine lx_callP hC hx (sat_X8_isRow (xl X) hl p0 s1) (run_V (as := [.int p0]) (rest := []) hC hE ly8 rfl cw_X8_isRow ci_X8_isRow wd1708 cs_X8_isRow ce_X8_isRow cd_X8_isRow (by decide) (by decide) (Nat.le_of_ble_eq_true rfl) dX8_freeSeats_7 rfl) (fun v2 _ => ?_)
  refine lx_if_eq hC 21 dX8_freeSeats_10 (by decide) ?_ ?_
  · skip
    refine lx_aload_n hC dX8_freeSeats_21 rfl 0 rfl ?_
    refine lx_iconstv (v := 1) hC dX8_freeSeats_22 rfl ?_
    refine lx_callX hC hx (sat_X8_fails (xl X) hl 1 s1) (run_V (as := [.int 1]) (rest := []) hC hE ly8 rfl cw_X8_fails ci_X8_fails wd1676 cs_X8_fails ce_X8_fails cd_X8_fails (by decide) (by decide) (Nat.le_of_ble_eq_true rfl) dX8_freeSeats_23 rfl) (fun v3 s4 _ => ?_)
    exact lx_iret hC rfl hr dX8_freeSeats_26
  · skip
    refine lx_aload_n hC dX8_freeSeats_13 rfl 0 rfl ?_
    refine lx_iload_n hC dX8_freeSeats_14 rfl 1 rfl ?_
    refine lx_callP hC hx (sat_X8_roomIn (xl X) hl p0 s1) (run_V (as := [.int p0]) (rest := []) hC hE ly8 rfl cw_X8_roomIn ci_X8_roomIn wd1732 cs_X8_roomIn ce_X8_roomIn cd_X8_roomIn (by decide) (by decide) (Nat.le_of_ble_eq_true rfl) dX8_freeSeats_15 rfl) (fun v5 _ => ?_)
    refine lx_goto hC 26 dX8_freeSeats_18 (by decide) ?_
    exact lx_iret hC rfl hr dX8_freeSeats_26
set_option maxRecDepth 100000 in
set_option maxHeartbeats 2000000 in
theorem l_X8_loudnessIn_b4 {X : Cx} {V : Vx} {A : Nat → Prop} {adV : Nat → Nat} {c0 s0 : Nat} (hC : Cok X V A yX8_loudnessIn.cls cX8_loudnessIn 4) (hE : Env0 V adV A (xs X) (xs X).heap) (hl : (xl X).stackTraces = false) (hx : ∀ x ∈ (xc X).exceptionTable.toList, False) (hr : (xh X).sig.returnType = some .int) (x1 : Int32) (s : Mem) (kf4 : (Int32 × Int32) → Option Int32) (hk4 : ∀ a, LX X V A 31 522 c0 s0 (FM X V A (fun x => some (.int x))) 4 [(0, .ref 8), (1, .int x1), (2, .int a.1), (3, .int a.2)] [] s (pur s (kf4 a))) (w2 : Int32) (w3 : Int32) : LX X V A 31 522 c0 s0 (FM X V A (fun x => some (.int x))) 4 [(0, .ref 8), (1, .int x1), (2, .int w2), (3, .int w3)] [] s (pur s (m_X8_loudnessIn_b4 x1 s kf4 w2 w3 )) := by
  unfold m_X8_loudnessIn_b4
  refine lx_iload_n hC dX8_loudnessIn_4 rfl 3 rfl ?_
  refine lx_aload_n hC dX8_loudnessIn_5 rfl 0 rfl ?_
  refine lx_getR (q := 136) hC ly8 rfl 1 (by decide) rfl rfl inX8 wd1606 dX8_loudnessIn_6 ?_
  refine lx_iconstv (v := 1) hC dX8_loudnessIn_9 rfl ?_
  refine lq_iaload hC ly136 dX8_loudnessIn_10 ?_
  refine lq_icmp_ge hC 43 dX8_loudnessIn_11 (by decide) ?_ ?_
  · skip
    refine lx_iload_n hC dX8_loudnessIn_43 rfl 2 rfl ?_
    exact lx_iret hC rfl hr dX8_loudnessIn_44
  · skip
    refine lx_iload_n hC dX8_loudnessIn_14 rfl 2 rfl ?_
    refine lx_aload_n hC dX8_loudnessIn_15 rfl 0 rfl ?_
    refine lx_iload_n hC dX8_loudnessIn_16 rfl 3 rfl ?_
    refine lx_iconstv (v := 1) hC dX8_loudnessIn_17 rfl ?_
    refine lq_call hC hx (sat_X8_is (xl X) hl w3 1 s) (run_V (as := [.int w3, .int 1]) (rest := [.int w2]) hC hE ly8 rfl cw_X8_is ci_X8_is wd1740 cs_X8_is ce_X8_is cd_X8_is (by decide) (by decide) (Nat.le_of_ble_eq_true rfl) dX8_loudnessIn_18 rfl) (fun v2 _ => ?_)
    refine lx_iload_n hC dX8_loudnessIn_21 rfl 1 rfl ?_
    refine lq_icmp_ne hC 34 dX8_loudnessIn_22 (by decide) ?_ ?_
    · skip
      refine lx_iconstv (v := 0) hC dX8_loudnessIn_34 rfl ?_
      refine lx_iadd hC dX8_loudnessIn_35 ?_
      refine lq_istore_nN hC dX8_loudnessIn_36 rfl (by decide) (fun y3 => ?_)
      refine lq_iincN (v := 1) hC dX8_loudnessIn_37 3 rfl (by decide) rfl (fun y4 => ?_)
      refine lx_goto hC 4 dX8_loudnessIn_40 (by decide) ?_
      exact lx_sub [2, 3, 1, 0] rfl (hk4 (y3, y4))
    · skip
      refine lx_aload_n hC dX8_loudnessIn_25 rfl 0 rfl ?_
      refine lx_iload_n hC dX8_loudnessIn_26 rfl 3 rfl ?_
      refine lx_iconstv (v := 2) hC dX8_loudnessIn_27 rfl ?_
      refine lq_call hC hx (sat_X8_is (xl X) hl w3 2 s) (run_V (as := [.int w3, .int 2]) (rest := [.int w2]) hC hE ly8 rfl cw_X8_is ci_X8_is wd1740 cs_X8_is ce_X8_is cd_X8_is (by decide) (by decide) (Nat.le_of_ble_eq_true rfl) dX8_loudnessIn_28 rfl) (fun v5 _ => ?_)
      refine lx_goto hC 35 dX8_loudnessIn_31 (by decide) ?_
      refine lx_iadd hC dX8_loudnessIn_35 ?_
      refine lq_istore_nN hC dX8_loudnessIn_36 rfl (by decide) (fun y6 => ?_)
      refine lq_iincN (v := 1) hC dX8_loudnessIn_37 3 rfl (by decide) rfl (fun y7 => ?_)
      refine lx_goto hC 4 dX8_loudnessIn_40 (by decide) ?_
      exact lx_sub [2, 3, 1, 0] rfl (hk4 (y6, y7))
set_option maxRecDepth 100000 in
set_option maxHeartbeats 2000000 in
theorem sat_X8_loudnessIn (l : Launch) (hl : l.stackTraces = false) (p0 : Int32) (s : Mem) : Sat l yX8_loudnessIn (.code yX8_loudnessIn cX8_loudnessIn 4 (some .int)) 31 522 (fun x => some (.int x)) [.ref 8, .int p0] s (pur s (m_X8_loudnessIn p0 s)) := by
  refine sat_of hl (by decide) (Nat.le_of_ble_eq_true rfl) (fun X V A adV hxl hC hE hx hr => ?_) pur_mono
  subst hxl
  show LX X V A 31 522 (nC s) (nS s) _ 0 [(0, .ref 8), (1, .int p0)] [] s _
  unfold m_X8_loudnessIn
  refine lx_iconstv (v := 0) hC dX8_loudnessIn_0 rfl ?_
  refine lx_istore_n hC dX8_loudnessIn_1 rfl (by decide) ?_
  refine lx_iconstv (v := 0) hC dX8_loudnessIn_2 rfl ?_
  refine lx_istore_n hC dX8_loudnessIn_3 rfl (by decide) ?_
  refine lx_sub [2, 3, 1, 0] rfl ?_
  exact lq_lp (lv := fun a => [(0, .ref 8), (1, .int p0), (2, .int a.1), (3, .int a.2)]) (st := fun _ => []) (fun kf hq a => l_X8_loudnessIn_b4 hC hE hl hx hr p0 s kf hq a.1 a.2) FUEL (0, 0)
set_option maxRecDepth 100000 in
set_option maxHeartbeats 2000000 in
theorem n_X8_rowLoudness (p0 : Int32) (s : Mem) : Mn s (m_X8_rowLoudness p0 s) := by
  unfold m_X8_rowLoudness
  refine mn_put (fun s1 => ?_)
  refine mn_bindP (fun v2 => ?_)
  refine mn_if ?_ ?_
  · skip
    refine mn_bind (n_X8_fails 1 s1) (fun v3 s4 => ?_)
    exact mn_some
  · skip
    refine mn_bindP (fun v5 => ?_)
    exact mn_some
set_option maxRecDepth 100000 in
set_option maxHeartbeats 2000000 in
theorem sat_X8_rowLoudness (l : Launch) (hl : l.stackTraces = false) (p0 : Int32) (s : Mem) : Sat l yX8_rowLoudness (.code yX8_rowLoudness cX8_rowLoudness 2 (some .int)) 32 545 (fun x => some (.int x)) [.ref 8, .int p0] s (m_X8_rowLoudness p0 s) := by
  refine sat_of hl (by decide) (Nat.le_of_ble_eq_true rfl) (fun X V A adV hxl hC hE hx hr => ?_) (n_X8_rowLoudness p0 s)
  subst hxl
  show LX X V A 32 545 (nC s) (nS s) _ 0 [(0, .ref 8), (1, .int p0)] [] s _
  unfold m_X8_rowLoudness
  refine lx_aload_n hC dX8_rowLoudness_0 rfl 0 rfl ?_
  refine lx_iconstv (v := 0) hC dX8_rowLoudness_1 rfl ?_
  refine lx_putI hC ly8 rfl 0 (by decide) rfl tyX8 tyX8_ok nmX8 rfl rfl rfl inX8 wd1605 dX8_rowLoudness_2 (fun s1 => ?_)
  refine lx_aload_n hC dX8_rowLoudness_5 rfl 0 rfl ?_
  refine lx_iload_n hC dX8_rowLoudness_6 rfl 1 rfl ?_
  refine lx_callP hC hx (sat_X8_isRow (xl X) hl p0 s1) (run_V (as := [.int p0]) (rest := []) hC hE ly8 rfl cw_X8_isRow ci_X8_isRow wd1708 cs_X8_isRow ce_X8_isRow cd_X8_isRow (by decide) (by decide) (Nat.le_of_ble_eq_true rfl) dX8_rowLoudness_7 rfl) (fun v2 _ => ?_)
  refine lx_if_eq hC 21 dX8_rowLoudness_10 (by decide) ?_ ?_
  · skip
    refine lx_aload_n hC dX8_rowLoudness_21 rfl 0 rfl ?_
    refine lx_iconstv (v := 1) hC dX8_rowLoudness_22 rfl ?_
    refine lx_callX hC hx (sat_X8_fails (xl X) hl 1 s1) (run_V (as := [.int 1]) (rest := []) hC hE ly8 rfl cw_X8_fails ci_X8_fails wd1676 cs_X8_fails ce_X8_fails cd_X8_fails (by decide) (by decide) (Nat.le_of_ble_eq_true rfl) dX8_rowLoudness_23 rfl) (fun v3 s4 _ => ?_)
    exact lx_iret hC rfl hr dX8_rowLoudness_26
  · skip
    refine lx_aload_n hC dX8_rowLoudness_13 rfl 0 rfl ?_
    refine lx_iload_n hC dX8_rowLoudness_14 rfl 1 rfl ?_
    refine lx_callP hC hx (sat_X8_loudnessIn (xl X) hl p0 s1) (run_V (as := [.int p0]) (rest := []) hC hE ly8 rfl cw_X8_loudnessIn ci_X8_loudnessIn wd1903 cs_X8_loudnessIn ce_X8_loudnessIn cd_X8_loudnessIn (by decide) (by decide) (Nat.le_of_ble_eq_true rfl) dX8_rowLoudness_15 rfl) (fun v5 _ => ?_)
    refine lx_goto hC 26 dX8_rowLoudness_18 (by decide) ?_
    exact lx_iret hC rfl hr dX8_rowLoudness_26
set_option maxRecDepth 100000 in
set_option maxHeartbeats 2000000 in
theorem n_X8_isLocked (p0 : Int32) (s : Mem) : Mn s (m_X8_isLocked p0 s) := by
  unfold m_X8_isLocked
  refine mn_put (fun s1 => ?_)
  refine mn_bindP (fun v2 => ?_)
  refine mn_if ?_ ?_
  · skip
    refine mn_bindP (fun v3 => ?_)
    exact mn_if mn_some mn_none
  · skip
    refine mn_bind (n_X8_fails 1 s1) (fun v4 s5 => ?_)
    refine mn_if ?_ ?_
    · skip
      exact mn_some
    · skip
      exact mn_some
set_option maxRecDepth 100000 in
set_option maxHeartbeats 2000000 in
theorem sat_X8_isLocked (l : Launch) (hl : l.stackTraces = false) (p0 : Int32) (s : Mem) : Sat l yX8_isLocked (.code yX8_isLocked cX8_isLocked 2 (some .boolean)) 32 543 (fun x => some (.int x)) [.ref 8, .int p0] s (m_X8_isLocked p0 s) := by
  refine sat_of hl (by decide) (Nat.le_of_ble_eq_true rfl) (fun X V A adV hxl hC hE hx hr => ?_) (n_X8_isLocked p0 s)
  subst hxl
  show LX X V A 32 543 (nC s) (nS s) _ 0 [(0, .ref 8), (1, .int p0)] [] s _
  unfold m_X8_isLocked
  refine lx_aload_n hC dX8_isLocked_0 rfl 0 rfl ?_
  refine lx_iconstv (v := 0) hC dX8_isLocked_1 rfl ?_
  refine lx_putI hC ly8 rfl 0 (by decide) rfl tyX8 tyX8_ok nmX8 rfl rfl rfl inX8 wd1605 dX8_isLocked_2 (fun s1 => ?_)
  refine lx_aload_n hC dX8_isLocked_5 rfl 0 rfl ?_
  refine lx_iload_n hC dX8_isLocked_6 rfl 1 rfl ?_
  refine lx_callP hC hx (sat_X8_isRow (xl X) hl p0 s1) (run_V (as := [.int p0]) (rest := []) hC hE ly8 rfl cw_X8_isRow ci_X8_isRow wd1708 cs_X8_isRow ce_X8_isRow cd_X8_isRow (by decide) (by decide) (Nat.le_of_ble_eq_true rfl) dX8_isLocked_7 rfl) (fun v2 _ => ?_)
  refine lx_if_ne hC 27 dX8_isLocked_10 (by decide) ?_ ?_
  · skip
    refine lx_aload_n hC dX8_isLocked_27 rfl 0 rfl ?_
    refine lx_iload_n hC dX8_isLocked_28 rfl 1 rfl ?_
    refine lx_callP hC hx (sat_X8_isLockedRow (xl X) hl p0 s1) (run_V (as := [.int p0]) (rest := []) hC hE ly8 rfl cw_X8_isLockedRow ci_X8_isLockedRow wd1712 cs_X8_isLockedRow ce_X8_isLockedRow cd_X8_isLockedRow (by decide) (by decide) (Nat.le_of_ble_eq_true rfl) dX8_isLocked_29 rfl) (fun v3 _ => ?_)
    exact lx_zretn hC rfl hr (by simp) dX8_isLocked_32
  · skip
    refine lx_aload_n hC dX8_isLocked_13 rfl 0 rfl ?_
    refine lx_iconstv (v := 1) hC dX8_isLocked_14 rfl ?_
    refine lx_callX hC hx (sat_X8_fails (xl X) hl 1 s1) (run_V (as := [.int 1]) (rest := []) hC hE ly8 rfl cw_X8_fails ci_X8_fails wd1676 cs_X8_fails ce_X8_fails cd_X8_fails (by decide) (by decide) (Nat.le_of_ble_eq_true rfl) dX8_isLocked_15 rfl) (fun v4 s5 _ => ?_)
    refine lx_if_le hC 25 dX8_isLocked_18 (by decide) ?_ ?_
    · skip
      refine lx_iconstv (v := 0) hC dX8_isLocked_25 rfl ?_
      exact lx_zret hC rfl hr rfl dX8_isLocked_26
    · skip
      refine lx_iconstv (v := 1) hC dX8_isLocked_21 rfl ?_
      refine lx_goto hC 26 dX8_isLocked_22 (by decide) ?_
      exact lx_zret hC rfl hr rfl dX8_isLocked_26
set_option maxRecDepth 100000 in
set_option maxHeartbeats 2000000 in
theorem n_X8_isCrowded (p0 : Int32) (s : Mem) : Mn s (m_X8_isCrowded p0 s) := by
  unfold m_X8_isCrowded
  refine mn_put (fun s1 => ?_)
  refine mn_bindP (fun v2 => ?_)
  refine mn_if ?_ ?_
  · skip
    refine mn_bindP (fun v3 => ?_)
    exact mn_if mn_some mn_none
  · skip
    refine mn_bind (n_X8_fails 1 s1) (fun v4 s5 => ?_)
    refine mn_if ?_ ?_
    · skip
      exact mn_some
    · skip
      exact mn_some
set_option maxRecDepth 100000 in
set_option maxHeartbeats 2000000 in
theorem sat_X8_isCrowded (l : Launch) (hl : l.stackTraces = false) (p0 : Int32) (s : Mem) : Sat l yX8_isCrowded (.code yX8_isCrowded cX8_isCrowded 2 (some .boolean)) 33 566 (fun x => some (.int x)) [.ref 8, .int p0] s (m_X8_isCrowded p0 s) := by
  refine sat_of hl (by decide) (Nat.le_of_ble_eq_true rfl) (fun X V A adV hxl hC hE hx hr => ?_) (n_X8_isCrowded p0 s)
  subst hxl
  show LX X V A 33 566 (nC s) (nS s) _ 0 [(0, .ref 8), (1, .int p0)] [] s _
  unfold m_X8_isCrowded
  refine lx_aload_n hC dX8_isCrowded_0 rfl 0 rfl ?_
  refine lx_iconstv (v := 0) hC dX8_isCrowded_1 rfl ?_
  refine lx_putI hC ly8 rfl 0 (by decide) rfl tyX8 tyX8_ok nmX8 rfl rfl rfl inX8 wd1605 dX8_isCrowded_2 (fun s1 => ?_)
  refine lx_aload_n hC dX8_isCrowded_5 rfl 0 rfl ?_
  refine lx_iload_n hC dX8_isCrowded_6 rfl 1 rfl ?_
  refine lx_callP hC hx (sat_X8_isRow (xl X) hl p0 s1) (run_V (as := [.int p0]) (rest := []) hC hE ly8 rfl cw_X8_isRow ci_X8_isRow wd1708 cs_X8_isRow ce_X8_isRow cd_X8_isRow (by decide) (by decide) (Nat.le_of_ble_eq_true rfl) dX8_isCrowded_7 rfl) (fun v2 _ => ?_)
  refine lx_if_ne hC 27 dX8_isCrowded_10 (by decide) ?_ ?_
  · skip
    refine lx_aload_n hC dX8_isCrowded_27 rfl 0 rfl ?_
    refine lx_iload_n hC dX8_isCrowded_28 rfl 1 rfl ?_
    refine lx_callP hC hx (sat_X8_isCrowdedRow (xl X) hl p0 s1) (run_V (as := [.int p0]) (rest := []) hC hE ly8 rfl cw_X8_isCrowdedRow ci_X8_isCrowdedRow wd1867 cs_X8_isCrowdedRow ce_X8_isCrowdedRow cd_X8_isCrowdedRow (by decide) (by decide) (Nat.le_of_ble_eq_true rfl) dX8_isCrowded_29 rfl) (fun v3 _ => ?_)
    exact lx_zretn hC rfl hr (by simp) dX8_isCrowded_32
  · skip
    refine lx_aload_n hC dX8_isCrowded_13 rfl 0 rfl ?_
    refine lx_iconstv (v := 1) hC dX8_isCrowded_14 rfl ?_
    refine lx_callX hC hx (sat_X8_fails (xl X) hl 1 s1) (run_V (as := [.int 1]) (rest := []) hC hE ly8 rfl cw_X8_fails ci_X8_fails wd1676 cs_X8_fails ce_X8_fails cd_X8_fails (by decide) (by decide) (Nat.le_of_ble_eq_true rfl) dX8_isCrowded_15 rfl) (fun v4 s5 _ => ?_)
    refine lx_if_le hC 25 dX8_isCrowded_18 (by decide) ?_ ?_
    · skip
      refine lx_iconstv (v := 0) hC dX8_isCrowded_25 rfl ?_
      exact lx_zret hC rfl hr rfl dX8_isCrowded_26
    · skip
      refine lx_iconstv (v := 1) hC dX8_isCrowded_21 rfl ?_
      refine lx_goto hC 26 dX8_isCrowded_22 (by decide) ?_
      exact lx_zret hC rfl hr rfl dX8_isCrowded_26
set_option maxRecDepth 100000 in
set_option maxHeartbeats 2000000 in
theorem l_X8_slotAt_b5 {X : Cx} {V : Vx} {A : Nat → Prop} {adV : Nat → Nat} {c0 s0 : Nat} (hC : Cok X V A yX8_slotAt.cls cX8_slotAt 5) (hE : Env0 V adV A (xs X) (xs X).heap) (hl : (xl X).stackTraces = false) (hx : ∀ x ∈ (xc X).exceptionTable.toList, False) (hr : (xh X).sig.returnType = some .int) (x1 : Int32) (s : Mem) (kf5 : (Int32 × Int32) → Option Int32) (hk5 : ∀ a, LX X V A 31 522 c0 s0 (FM X V A (fun x => some (.int x))) 5 [(0, .ref 8), (1, .int x1), (3, .int a.1), (4, .int a.2)] [] s (pur s (kf5 a))) (w3 : Int32) (w4 : Int32) : LX X V A 31 522 c0 s0 (FM X V A (fun x => some (.int x))) 5 [(0, .ref 8), (1, .int x1), (3, .int w3), (4, .int w4)] [] s (pur s (m_X8_slotAt_b5 x1 s kf5 w3 w4 )) := by
  unfold m_X8_slotAt_b5
  refine lx_iload hC dX8_slotAt_5 3 rfl ?_
  refine lx_aload_n hC dX8_slotAt_7 rfl 0 rfl ?_
  refine lx_getR (q := 136) hC ly8 rfl 1 (by decide) rfl rfl inX8 wd1606 dX8_slotAt_8 ?_
  refine lx_iconstv (v := 1) hC dX8_slotAt_11 rfl ?_
  refine lq_iaload hC ly136 dX8_slotAt_12 ?_
  refine lq_icmp_ge hC 46 dX8_slotAt_13 (by decide) ?_ ?_
  · skip
    refine lx_iconstv (v := (-1)) hC dX8_slotAt_46 rfl ?_
    exact lx_iret hC rfl hr dX8_slotAt_47
  · skip
    refine lx_aload_n hC dX8_slotAt_16 rfl 0 rfl ?_
    refine lx_iload hC dX8_slotAt_17 3 rfl ?_
    refine lx_iconstv (v := 1) hC dX8_slotAt_19 rfl ?_
    refine lq_call hC hx (sat_X8_is (xl X) hl w4 1 s) (run_V (as := [.int w4, .int 1]) (rest := []) hC hE ly8 rfl cw_X8_is ci_X8_is wd1740 cs_X8_is ce_X8_is cd_X8_is (by decide) (by decide) (Nat.le_of_ble_eq_true rfl) dX8_slotAt_20 rfl) (fun v2 _ => ?_)
    refine lx_iload_n hC dX8_slotAt_23 rfl 1 rfl ?_
    refine lq_icmp_eq hC 30 dX8_slotAt_24 (by decide) ?_ ?_
    · skip
      refine lx_iload_n hC dX8_slotAt_30 rfl 2 rfl ?_
      refine lq_if_ne hC 37 dX8_slotAt_31 (by decide) ?_ ?_
      · skip
        refine lq_iincN (v := (-1)) hC dX8_slotAt_37 2 rfl (by decide) rfl (fun y3 => ?_)
        refine lq_iincN (v := 1) hC dX8_slotAt_40 3 rfl (by decide) rfl (fun y4 => ?_)
        refine lx_goto hC 5 dX8_slotAt_43 (by decide) ?_
        exact lx_sub [2, 3, 1, 0] rfl (hk5 (y3, y4))
      · skip
        refine lx_iload hC dX8_slotAt_34 3 rfl ?_
        exact lx_iret hC rfl hr dX8_slotAt_36
    · skip
      refine lx_goto hC 40 dX8_slotAt_27 (by decide) ?_
      refine lq_iincN (v := 1) hC dX8_slotAt_40 3 rfl (by decide) rfl (fun y5 => ?_)
      refine lx_goto hC 5 dX8_slotAt_43 (by decide) ?_
      exact lx_sub [1, 2, 3, 0] rfl (hk5 (w3, y5))
set_option maxRecDepth 100000 in
set_option maxHeartbeats 2000000 in
theorem sat_X8_slotAt (l : Launch) (hl : l.stackTraces = false) (p0 : Int32) (p1 : Int32) (s : Mem) : Sat l yX8_slotAt (.code yX8_slotAt cX8_slotAt 5 (some .int)) 31 522 (fun x => some (.int x)) [.ref 8, .int p0, .int p1] s (pur s (m_X8_slotAt p0 p1 s)) := by
  refine sat_of hl (by decide) (Nat.le_of_ble_eq_true rfl) (fun X V A adV hxl hC hE hx hr => ?_) pur_mono
  subst hxl
  show LX X V A 31 522 (nC s) (nS s) _ 0 [(0, .ref 8), (1, .int p0), (2, .int p1)] [] s _
  unfold m_X8_slotAt
  refine lx_iload_n hC dX8_slotAt_0 rfl 2 rfl ?_
  refine lx_istore_n hC dX8_slotAt_1 rfl (by decide) ?_
  refine lx_iconstv (v := 0) hC dX8_slotAt_2 rfl ?_
  refine lx_istore hC dX8_slotAt_3 (by decide) ?_
  refine lx_sub [2, 3, 1, 0] rfl ?_
  exact lq_lp (lv := fun a => [(0, .ref 8), (1, .int p0), (3, .int a.1), (4, .int a.2)]) (st := fun _ => []) (fun kf hq a => l_X8_slotAt_b5 hC hE hl hx hr p0 s kf hq a.1 a.2) FUEL (p1, 0)
set_option maxRecDepth 100000 in
set_option maxHeartbeats 2000000 in
theorem n_X8_idInRow (p0 : Int32) (p1 : Int32) (s : Mem) : Mn s (m_X8_idInRow p0 p1 s) := by
  unfold m_X8_idInRow
  refine mn_put (fun s1 => ?_)
  refine mn_bindP (fun v2 => ?_)
  refine mn_if ?_ ?_
  · skip
    refine mn_bindP (fun v3 => ?_)
    refine mn_if ?_ ?_
    · skip
      refine mn_bindP (fun v4 => ?_)
      exact mn_some
    · skip
      refine mn_bind (n_X8_fails 2 s1) (fun v5 s6 => ?_)
      exact mn_some
  · skip
    refine mn_bind (n_X8_fails 1 s1) (fun v7 s8 => ?_)
    exact mn_some
set_option maxRecDepth 100000 in
set_option maxHeartbeats 2000000 in
theorem sat_X8_idInRow (l : Launch) (hl : l.stackTraces = false) (p0 : Int32) (p1 : Int32) (s : Mem) : Sat l yX8_idInRow (.code yX8_idInRow cX8_idInRow 4 (some .int)) 32 546 (fun x => some (.int x)) [.ref 8, .int p0, .int p1] s (m_X8_idInRow p0 p1 s) := by
  refine sat_of hl (by decide) (Nat.le_of_ble_eq_true rfl) (fun X V A adV hxl hC hE hx hr => ?_) (n_X8_idInRow p0 p1 s)
  subst hxl
  show LX X V A 32 546 (nC s) (nS s) _ 0 [(0, .ref 8), (1, .int p0), (2, .int p1)] [] s _
  unfold m_X8_idInRow
  refine lx_aload_n hC dX8_idInRow_0 rfl 0 rfl ?_
  refine lx_iconstv (v := 0) hC dX8_idInRow_1 rfl ?_
  refine lx_putI hC ly8 rfl 0 (by decide) rfl tyX8 tyX8_ok nmX8 rfl rfl rfl inX8 wd1605 dX8_idInRow_2 (fun s1 => ?_)
  refine lx_aload_n hC dX8_idInRow_5 rfl 0 rfl ?_
  refine lx_iload_n hC dX8_idInRow_6 rfl 1 rfl ?_
  refine lx_callP hC hx (sat_X8_isRow (xl X) hl p0 s1) (run_V (as := [.int p0]) (rest := []) hC hE ly8 rfl cw_X8_isRow ci_X8_isRow wd1708 cs_X8_isRow ce_X8_isRow cd_X8_isRow (by decide) (by decide) (Nat.le_of_ble_eq_true rfl) dX8_idInRow_7 rfl) (fun v2 _ => ?_)
  refine lx_if_ne hC 19 dX8_idInRow_10 (by decide) ?_ ?_
  · skip
    refine lx_aload_n hC dX8_idInRow_19 rfl 0 rfl ?_
    refine lx_iload_n hC dX8_idInRow_20 rfl 1 rfl ?_
    refine lx_iload_n hC dX8_idInRow_21 rfl 2 rfl ?_
    refine lx_callP hC hx (sat_X8_slotAt (xl X) hl p0 p1 s1) (run_V (as := [.int p0, .int p1]) (rest := []) hC hE ly8 rfl cw_X8_slotAt ci_X8_slotAt wd1919 cs_X8_slotAt ce_X8_slotAt cd_X8_slotAt (by decide) (by decide) (Nat.le_of_ble_eq_true rfl) dX8_idInRow_22 rfl) (fun v3 _ => ?_)
    refine lx_istore_n hC dX8_idInRow_25 rfl (by decide) ?_
    refine lx_iload_n hC dX8_idInRow_26 rfl 0 rfl ?_
    refine lx_if_ge hC 38 dX8_idInRow_27 (by decide) ?_ ?_
    · skip
      refine lx_aload_n hC dX8_idInRow_38 rfl 1 rfl ?_
      refine lx_iload_n hC dX8_idInRow_39 rfl 0 rfl ?_
      refine lx_iconstv (v := 0) hC dX8_idInRow_40 rfl ?_
      refine lx_callP hC hx (sat_X8_is (xl X) hl v3 0 s1) (run_V (as := [.int v3, .int 0]) (rest := []) hC hE ly8 rfl cw_X8_is ci_X8_is wd1740 cs_X8_is ce_X8_is cd_X8_is (by decide) (by decide) (Nat.le_of_ble_eq_true rfl) dX8_idInRow_41 rfl) (fun v4 _ => ?_)
      exact lx_iret hC rfl hr dX8_idInRow_44
    · skip
      refine lx_aload_n hC dX8_idInRow_30 rfl 1 rfl ?_
      refine lx_iconstv (v := 2) hC dX8_idInRow_31 rfl ?_
      refine lx_callX hC hx (sat_X8_fails (xl X) hl 2 s1) (run_V (as := [.int 2]) (rest := []) hC hE ly8 rfl cw_X8_fails ci_X8_fails wd1676 cs_X8_fails ce_X8_fails cd_X8_fails (by decide) (by decide) (Nat.le_of_ble_eq_true rfl) dX8_idInRow_32 rfl) (fun v5 s6 _ => ?_)
      refine lx_goto hC 44 dX8_idInRow_35 (by decide) ?_
      exact lx_iret hC rfl hr dX8_idInRow_44
  · skip
    refine lx_aload_n hC dX8_idInRow_13 rfl 0 rfl ?_
    refine lx_iconstv (v := 1) hC dX8_idInRow_14 rfl ?_
    refine lx_callX hC hx (sat_X8_fails (xl X) hl 1 s1) (run_V (as := [.int 1]) (rest := []) hC hE ly8 rfl cw_X8_fails ci_X8_fails wd1676 cs_X8_fails ce_X8_fails cd_X8_fails (by decide) (by decide) (Nat.le_of_ble_eq_true rfl) dX8_idInRow_15 rfl) (fun v7 s8 _ => ?_)
    exact lx_iret hC rfl hr dX8_idInRow_18
set_option maxRecDepth 100000 in
set_option maxHeartbeats 2000000 in
theorem n_X8_echoCount (s : Mem) : Mn s (m_X8_echoCount s) := by
  unfold m_X8_echoCount
  refine mn_put (fun s1 => ?_)
  refine mn_if ?_ mn_none
  exact mn_some
set_option maxRecDepth 100000 in
set_option maxHeartbeats 2000000 in
theorem sat_X8_echoCount (l : Launch) (hl : l.stackTraces = false) (s : Mem) : Sat l yX8_echoCount (.code yX8_echoCount cX8_echoCount 1 (some .int)) 30 500 (fun x => some (.int x)) [.ref 8] s (m_X8_echoCount s) := by
  refine sat_of hl (by decide) (Nat.le_of_ble_eq_true rfl) (fun X V A adV hxl hC hE hx hr => ?_) (n_X8_echoCount s)
  subst hxl
  show LX X V A 30 500 (nC s) (nS s) _ 0 [(0, .ref 8)] [] s _
  unfold m_X8_echoCount
  refine lx_aload_n hC dX8_echoCount_0 rfl 0 rfl ?_
  refine lx_iconstv (v := 0) hC dX8_echoCount_1 rfl ?_
  refine lx_putI hC ly8 rfl 0 (by decide) rfl tyX8 tyX8_ok nmX8 rfl rfl rfl inX8 wd1605 dX8_echoCount_2 (fun s1 => ?_)
  refine lx_aload_n hC dX8_echoCount_5 rfl 0 rfl ?_
  refine lx_getR (q := 136) hC ly8 rfl 1 (by decide) rfl rfl inX8 wd1606 dX8_echoCount_6 ?_
  refine lx_iconstv (v := 1) hC dX8_echoCount_9 rfl ?_
  refine lx_iaload hC ly136 dX8_echoCount_10 ?_
  exact lx_iret hC rfl hr dX8_echoCount_11
set_option maxRecDepth 100000 in
set_option maxHeartbeats 2000000 in
theorem n_X8_isActive (p0 : Int32) (s : Mem) : Mn s (m_X8_isActive p0 s) := by
  unfold m_X8_isActive
  refine mn_put (fun s1 => ?_)
  refine mn_bindP (fun v2 => ?_)
  refine mn_if ?_ ?_
  · skip
    exact mn_some
  · skip
    exact mn_some
set_option maxRecDepth 100000 in
set_option maxHeartbeats 2000000 in
theorem sat_X8_isActive (l : Launch) (hl : l.stackTraces = false) (p0 : Int32) (s : Mem) : Sat l yX8_isActive (.code yX8_isActive cX8_isActive 2 (some .boolean)) 32 544 (fun x => some (.int x)) [.ref 8, .int p0] s (m_X8_isActive p0 s) := by
  refine sat_of hl (by decide) (Nat.le_of_ble_eq_true rfl) (fun X V A adV hxl hC hE hx hr => ?_) (n_X8_isActive p0 s)
  subst hxl
  show LX X V A 32 544 (nC s) (nS s) _ 0 [(0, .ref 8), (1, .int p0)] [] s _
  unfold m_X8_isActive
  refine lx_aload_n hC dX8_isActive_0 rfl 0 rfl ?_
  refine lx_iconstv (v := 0) hC dX8_isActive_1 rfl ?_
  refine lx_putI hC ly8 rfl 0 (by decide) rfl tyX8 tyX8_ok nmX8 rfl rfl rfl inX8 wd1605 dX8_isActive_2 (fun s1 => ?_)
  refine lx_aload_n hC dX8_isActive_5 rfl 0 rfl ?_
  refine lx_iload_n hC dX8_isActive_6 rfl 1 rfl ?_
  refine lx_callP hC hx (sat_X8_slotOf (xl X) hl p0 s1) (run_V (as := [.int p0]) (rest := []) hC hE ly8 rfl cw_X8_slotOf ci_X8_slotOf wd1768 cs_X8_slotOf ce_X8_slotOf cd_X8_slotOf (by decide) (by decide) (Nat.le_of_ble_eq_true rfl) dX8_isActive_7 rfl) (fun v2 _ => ?_)
  refine lx_if_lt hC 17 dX8_isActive_10 (by decide) ?_ ?_
  · skip
    refine lx_iconstv (v := 0) hC dX8_isActive_17 rfl ?_
    exact lx_zret hC rfl hr rfl dX8_isActive_18
  · skip
    refine lx_iconstv (v := 1) hC dX8_isActive_13 rfl ?_
    refine lx_goto hC 18 dX8_isActive_14 (by decide) ?_
    exact lx_zret hC rfl hr rfl dX8_isActive_18
set_option maxRecDepth 100000 in
set_option maxHeartbeats 2000000 in
theorem n_X8_asks (p0 : Int32) (p1 : Int32) (s : Mem) : Mn s (m_X8_asks p0 p1 s) := by
  unfold m_X8_asks
  refine mn_put (fun s1 => ?_)
  refine mn_bindP (fun v2 => ?_)
  refine mn_if ?_ ?_
  · skip
    refine mn_bindP (fun v3 => ?_)
    refine mn_bindP (fun v4 => ?_)
    exact mn_some
  · skip
    refine mn_bind (n_X8_fails 1 s1) (fun v5 s6 => ?_)
    exact mn_some
set_option maxRecDepth 100000 in
set_option maxHeartbeats 2000000 in
theorem sat_X8_asks (l : Launch) (hl : l.stackTraces = false) (p0 : Int32) (p1 : Int32) (s : Mem) : Sat l yX8_asks (.code yX8_asks cX8_asks 3 (some .int)) 32 544 (fun x => some (.int x)) [.ref 8, .int p0, .int p1] s (m_X8_asks p0 p1 s) := by
  refine sat_of hl (by decide) (Nat.le_of_ble_eq_true rfl) (fun X V A adV hxl hC hE hx hr => ?_) (n_X8_asks p0 p1 s)
  subst hxl
  show LX X V A 32 544 (nC s) (nS s) _ 0 [(0, .ref 8), (1, .int p0), (2, .int p1)] [] s _
  unfold m_X8_asks
  refine lx_aload_n hC dX8_asks_0 rfl 0 rfl ?_
  refine lx_iconstv (v := 0) hC dX8_asks_1 rfl ?_
  refine lx_putI hC ly8 rfl 0 (by decide) rfl tyX8 tyX8_ok nmX8 rfl rfl rfl inX8 wd1605 dX8_asks_2 (fun s1 => ?_)
  refine lx_aload_n hC dX8_asks_5 rfl 0 rfl ?_
  refine lx_iload_n hC dX8_asks_6 rfl 1 rfl ?_
  refine lx_callP hC hx (sat_X8_slotOf (xl X) hl p0 s1) (run_V (as := [.int p0]) (rest := []) hC hE ly8 rfl cw_X8_slotOf ci_X8_slotOf wd1768 cs_X8_slotOf ce_X8_slotOf cd_X8_slotOf (by decide) (by decide) (Nat.le_of_ble_eq_true rfl) dX8_asks_7 rfl) (fun v2 _ => ?_)
  refine lx_if_ge hC 21 dX8_asks_10 (by decide) ?_ ?_
  · skip
    refine lx_aload_n hC dX8_asks_21 rfl 0 rfl ?_
    refine lx_aload_n hC dX8_asks_22 rfl 0 rfl ?_
    refine lx_iload_n hC dX8_asks_23 rfl 1 rfl ?_
    refine lx_callP hC hx (sat_X8_slotOf (xl X) hl p0 s1) (run_V (as := [.int p0]) (rest := [.ref 8]) hC hE ly8 rfl cw_X8_slotOf ci_X8_slotOf wd1768 cs_X8_slotOf ce_X8_slotOf cd_X8_slotOf (by decide) (by decide) (Nat.le_of_ble_eq_true rfl) dX8_asks_24 rfl) (fun v3 _ => ?_)
    refine lx_iload_n hC dX8_asks_27 rfl 2 rfl ?_
    refine lx_callP hC hx (sat_X8_is (xl X) hl v3 p1 s1) (run_V (as := [.int v3, .int p1]) (rest := []) hC hE ly8 rfl cw_X8_is ci_X8_is wd1740 cs_X8_is ce_X8_is cd_X8_is (by decide) (by decide) (Nat.le_of_ble_eq_true rfl) dX8_asks_28 rfl) (fun v4 _ => ?_)
    exact lx_iret hC rfl hr dX8_asks_31
  · skip
    refine lx_aload_n hC dX8_asks_13 rfl 0 rfl ?_
    refine lx_iconstv (v := 1) hC dX8_asks_14 rfl ?_
    refine lx_callX hC hx (sat_X8_fails (xl X) hl 1 s1) (run_V (as := [.int 1]) (rest := []) hC hE ly8 rfl cw_X8_fails ci_X8_fails wd1676 cs_X8_fails ce_X8_fails cd_X8_fails (by decide) (by decide) (Nat.le_of_ble_eq_true rfl) dX8_asks_15 rfl) (fun v5 s6 _ => ?_)
    refine lx_goto hC 31 dX8_asks_18 (by decide) ?_
    exact lx_iret hC rfl hr dX8_asks_31
set_option maxRecDepth 100000 in
set_option maxHeartbeats 2000000 in
theorem n_X8_rowOf (p0 : Int32) (s : Mem) : Mn s (m_X8_rowOf p0 s) := by
  unfold m_X8_rowOf
  refine mn_bind (n_X8_asks p0 1 s) (fun v1 s2 => ?_)
  exact mn_some
set_option maxRecDepth 100000 in
set_option maxHeartbeats 2000000 in
theorem sat_X8_rowOf (l : Launch) (hl : l.stackTraces = false) (p0 : Int32) (s : Mem) : Sat l yX8_rowOf (.code yX8_rowOf cX8_rowOf 2 (some .int)) 33 566 (fun x => some (.int x)) [.ref 8, .int p0] s (m_X8_rowOf p0 s) := by
  refine sat_of hl (by decide) (Nat.le_of_ble_eq_true rfl) (fun X V A adV hxl hC hE hx hr => ?_) (n_X8_rowOf p0 s)
  subst hxl
  show LX X V A 33 566 (nC s) (nS s) _ 0 [(0, .ref 8), (1, .int p0)] [] s _
  unfold m_X8_rowOf
  refine lx_aload_n hC dX8_rowOf_0 rfl 0 rfl ?_
  refine lx_iload_n hC dX8_rowOf_1 rfl 1 rfl ?_
  refine lx_iconstv (v := 1) hC dX8_rowOf_2 rfl ?_
  refine lx_callX hC hx (sat_X8_asks (xl X) hl p0 1 s) (run_V (as := [.int p0, .int 1]) (rest := []) hC hE ly8 rfl cw_X8_asks ci_X8_asks wd1935 cs_X8_asks ce_X8_asks cd_X8_asks (by decide) (by decide) (Nat.le_of_ble_eq_true rfl) dX8_rowOf_3 rfl) (fun v1 s2 _ => ?_)
  exact lx_iret hC rfl hr dX8_rowOf_6
set_option maxRecDepth 100000 in
set_option maxHeartbeats 2000000 in
theorem n_X8_loudness (p0 : Int32) (s : Mem) : Mn s (m_X8_loudness p0 s) := by
  unfold m_X8_loudness
  refine mn_bind (n_X8_asks p0 2 s) (fun v1 s2 => ?_)
  exact mn_some
set_option maxRecDepth 100000 in
set_option maxHeartbeats 2000000 in
theorem sat_X8_loudness (l : Launch) (hl : l.stackTraces = false) (p0 : Int32) (s : Mem) : Sat l yX8_loudness (.code yX8_loudness cX8_loudness 2 (some .int)) 33 566 (fun x => some (.int x)) [.ref 8, .int p0] s (m_X8_loudness p0 s) := by
  refine sat_of hl (by decide) (Nat.le_of_ble_eq_true rfl) (fun X V A adV hxl hC hE hx hr => ?_) (n_X8_loudness p0 s)
  subst hxl
  show LX X V A 33 566 (nC s) (nS s) _ 0 [(0, .ref 8), (1, .int p0)] [] s _
  unfold m_X8_loudness
  refine lx_aload_n hC dX8_loudness_0 rfl 0 rfl ?_
  refine lx_iload_n hC dX8_loudness_1 rfl 1 rfl ?_
  refine lx_iconstv (v := 2) hC dX8_loudness_2 rfl ?_
  refine lx_callX hC hx (sat_X8_asks (xl X) hl p0 2 s) (run_V (as := [.int p0, .int 2]) (rest := []) hC hE ly8 rfl cw_X8_asks ci_X8_asks wd1935 cs_X8_asks ce_X8_asks cd_X8_asks (by decide) (by decide) (Nat.le_of_ble_eq_true rfl) dX8_loudness_3 rfl) (fun v1 s2 _ => ?_)
  exact lx_iret hC rfl hr dX8_loudness_6
set_option maxRecDepth 100000 in
set_option maxHeartbeats 2000000 in
theorem l_X8_positionOf_b4 {X : Cx} {V : Vx} {A : Nat → Prop} {adV : Nat → Nat} {c0 s0 : Nat} (hC : Cok X V A yX8_positionOf.cls cX8_positionOf 4) (hE : Env0 V adV A (xs X) (xs X).heap) (hl : (xl X).stackTraces = false) (hx : ∀ x ∈ (xc X).exceptionTable.toList, False) (hr : (xh X).sig.returnType = some .int) (x1 : Int32) (s : Mem) (kf4 : (Int32 × Int32) → Option Int32) (hk4 : ∀ a, LX X V A 31 522 c0 s0 (FM X V A (fun x => some (.int x))) 4 [(0, .ref 8), (1, .int x1), (2, .int a.1), (3, .int a.2)] [] s (pur s (kf4 a))) (w2 : Int32) (w3 : Int32) : LX X V A 31 522 c0 s0 (FM X V A (fun x => some (.int x))) 4 [(0, .ref 8), (1, .int x1), (2, .int w2), (3, .int w3)] [] s (pur s (m_X8_positionOf_b4 x1 s kf4 w2 w3 )) := by
  unfold m_X8_positionOf_b4
  refine lx_iload_n hC dX8_positionOf_4 rfl 3 rfl ?_
  refine lx_iload_n hC dX8_positionOf_5 rfl 1 rfl ?_
  refine lq_icmp_ge hC 38 dX8_positionOf_6 (by decide) ?_ ?_
  · skip
    refine lx_iload_n hC dX8_positionOf_38 rfl 2 rfl ?_
    exact lx_iret hC rfl hr dX8_positionOf_39
  · skip
    refine lx_iload_n hC dX8_positionOf_9 rfl 2 rfl ?_
    refine lx_aload_n hC dX8_positionOf_10 rfl 0 rfl ?_
    refine lx_iload_n hC dX8_positionOf_11 rfl 3 rfl ?_
    refine lx_iconstv (v := 1) hC dX8_positionOf_12 rfl ?_
    refine lq_call hC hx (sat_X8_is (xl X) hl w3 1 s) (run_V (as := [.int w3, .int 1]) (rest := [.int w2]) hC hE ly8 rfl cw_X8_is ci_X8_is wd1740 cs_X8_is ce_X8_is cd_X8_is (by decide) (by decide) (Nat.le_of_ble_eq_true rfl) dX8_positionOf_13 rfl) (fun v2 _ => ?_)
    refine lx_aload_n hC dX8_positionOf_16 rfl 0 rfl ?_
    refine lx_iload_n hC dX8_positionOf_17 rfl 1 rfl ?_
    refine lx_iconstv (v := 1) hC dX8_positionOf_18 rfl ?_
    refine lq_call hC hx (sat_X8_is (xl X) hl x1 1 s) (run_V (as := [.int x1, .int 1]) (rest := [.int v2, .int w2]) hC hE ly8 rfl cw_X8_is ci_X8_is wd1740 cs_X8_is ce_X8_is cd_X8_is (by decide) (by decide) (Nat.le_of_ble_eq_true rfl) dX8_positionOf_19 rfl) (fun v3 _ => ?_)
    refine lq_icmp_ne hC 29 dX8_positionOf_22 (by decide) ?_ ?_
    · skip
      refine lx_iconstv (v := 0) hC dX8_positionOf_29 rfl ?_
      refine lx_iadd hC dX8_positionOf_30 ?_
      refine lq_istore_nN hC dX8_positionOf_31 rfl (by decide) (fun y4 => ?_)
      refine lq_iincN (v := 1) hC dX8_positionOf_32 3 rfl (by decide) rfl (fun y5 => ?_)
      refine lx_goto hC 4 dX8_positionOf_35 (by decide) ?_
      exact lx_sub [2, 3, 1, 0] rfl (hk4 (y4, y5))
    · skip
      refine lx_iconstv (v := 1) hC dX8_positionOf_25 rfl ?_
      refine lx_goto hC 30 dX8_positionOf_26 (by decide) ?_
      refine lx_iadd hC dX8_positionOf_30 ?_
      refine lq_istore_nN hC dX8_positionOf_31 rfl (by decide) (fun y6 => ?_)
      refine lq_iincN (v := 1) hC dX8_positionOf_32 3 rfl (by decide) rfl (fun y7 => ?_)
      refine lx_goto hC 4 dX8_positionOf_35 (by decide) ?_
      exact lx_sub [2, 3, 1, 0] rfl (hk4 (y6, y7))
set_option maxRecDepth 100000 in
set_option maxHeartbeats 2000000 in
theorem sat_X8_positionOf (l : Launch) (hl : l.stackTraces = false) (p0 : Int32) (s : Mem) : Sat l yX8_positionOf (.code yX8_positionOf cX8_positionOf 4 (some .int)) 31 522 (fun x => some (.int x)) [.ref 8, .int p0] s (pur s (m_X8_positionOf p0 s)) := by
  refine sat_of hl (by decide) (Nat.le_of_ble_eq_true rfl) (fun X V A adV hxl hC hE hx hr => ?_) pur_mono
  subst hxl
  show LX X V A 31 522 (nC s) (nS s) _ 0 [(0, .ref 8), (1, .int p0)] [] s _
  unfold m_X8_positionOf
  refine lx_iconstv (v := 0) hC dX8_positionOf_0 rfl ?_
  refine lx_istore_n hC dX8_positionOf_1 rfl (by decide) ?_
  refine lx_iconstv (v := 0) hC dX8_positionOf_2 rfl ?_
  refine lx_istore_n hC dX8_positionOf_3 rfl (by decide) ?_
  refine lx_sub [2, 3, 1, 0] rfl ?_
  exact lq_lp (lv := fun a => [(0, .ref 8), (1, .int p0), (2, .int a.1), (3, .int a.2)]) (st := fun _ => []) (fun kf hq a => l_X8_positionOf_b4 hC hE hl hx hr p0 s kf hq a.1 a.2) FUEL (0, 0)
set_option maxRecDepth 100000 in
set_option maxHeartbeats 2000000 in
theorem n_X8_positionInRow (p0 : Int32) (s : Mem) : Mn s (m_X8_positionInRow p0 s) := by
  unfold m_X8_positionInRow
  refine mn_put (fun s1 => ?_)
  refine mn_bindP (fun v2 => ?_)
  refine mn_if ?_ ?_
  · skip
    refine mn_bindP (fun v3 => ?_)
    refine mn_bindP (fun v4 => ?_)
    exact mn_some
  · skip
    refine mn_bind (n_X8_fails 1 s1) (fun v5 s6 => ?_)
    exact mn_some
set_option maxRecDepth 100000 in
set_option maxHeartbeats 2000000 in
theorem sat_X8_positionInRow (l : Launch) (hl : l.stackTraces = false) (p0 : Int32) (s : Mem) : Sat l yX8_positionInRow (.code yX8_positionInRow cX8_positionInRow 2 (some .int)) 32 545 (fun x => some (.int x)) [.ref 8, .int p0] s (m_X8_positionInRow p0 s) := by
  refine sat_of hl (by decide) (Nat.le_of_ble_eq_true rfl) (fun X V A adV hxl hC hE hx hr => ?_) (n_X8_positionInRow p0 s)
  subst hxl
  show LX X V A 32 545 (nC s) (nS s) _ 0 [(0, .ref 8), (1, .int p0)] [] s _
  unfold m_X8_positionInRow
  refine lx_aload_n hC dX8_positionInRow_0 rfl 0 rfl ?_
  refine lx_iconstv (v := 0) hC dX8_positionInRow_1 rfl ?_
  refine lx_putI hC ly8 rfl 0 (by decide) rfl tyX8 tyX8_ok nmX8 rfl rfl rfl inX8 wd1605 dX8_positionInRow_2 (fun s1 => ?_)
  refine lx_aload_n hC dX8_positionInRow_5 rfl 0 rfl ?_
  refine lx_iload_n hC dX8_positionInRow_6 rfl 1 rfl ?_
  refine lx_callP hC hx (sat_X8_slotOf (xl X) hl p0 s1) (run_V (as := [.int p0]) (rest := []) hC hE ly8 rfl cw_X8_slotOf ci_X8_slotOf wd1768 cs_X8_slotOf ce_X8_slotOf cd_X8_slotOf (by decide) (by decide) (Nat.le_of_ble_eq_true rfl) dX8_positionInRow_7 rfl) (fun v2 _ => ?_)
  refine lx_if_ge hC 21 dX8_positionInRow_10 (by decide) ?_ ?_
  · skip
    refine lx_aload_n hC dX8_positionInRow_21 rfl 0 rfl ?_
    refine lx_aload_n hC dX8_positionInRow_22 rfl 0 rfl ?_
    refine lx_iload_n hC dX8_positionInRow_23 rfl 1 rfl ?_
    refine lx_callP hC hx (sat_X8_slotOf (xl X) hl p0 s1) (run_V (as := [.int p0]) (rest := [.ref 8]) hC hE ly8 rfl cw_X8_slotOf ci_X8_slotOf wd1768 cs_X8_slotOf ce_X8_slotOf cd_X8_slotOf (by decide) (by decide) (Nat.le_of_ble_eq_true rfl) dX8_positionInRow_24 rfl) (fun v3 _ => ?_)
    refine lx_callP hC hx (sat_X8_positionOf (xl X) hl v3 s1) (run_V (as := [.int v3]) (rest := []) hC hE ly8 rfl cw_X8_positionOf ci_X8_positionOf wd1947 cs_X8_positionOf ce_X8_positionOf cd_X8_positionOf (by decide) (by decide) (Nat.le_of_ble_eq_true rfl) dX8_positionInRow_27 rfl) (fun v4 _ => ?_)
    exact lx_iret hC rfl hr dX8_positionInRow_30
  · skip
    refine lx_aload_n hC dX8_positionInRow_13 rfl 0 rfl ?_
    refine lx_iconstv (v := 1) hC dX8_positionInRow_14 rfl ?_
    refine lx_callX hC hx (sat_X8_fails (xl X) hl 1 s1) (run_V (as := [.int 1]) (rest := []) hC hE ly8 rfl cw_X8_fails ci_X8_fails wd1676 cs_X8_fails ce_X8_fails cd_X8_fails (by decide) (by decide) (Nat.le_of_ble_eq_true rfl) dX8_positionInRow_15 rfl) (fun v5 s6 _ => ?_)
    refine lx_goto hC 30 dX8_positionInRow_18 (by decide) ?_
    exact lx_iret hC rfl hr dX8_positionInRow_30
set_option maxRecDepth 100000 in
set_option maxHeartbeats 2000000 in
theorem n_X8_hasHeir (p0 : Int32) (s : Mem) : Mn s (m_X8_hasHeir p0 s) := by
  unfold m_X8_hasHeir
  refine mn_bind (n_X8_asks p0 3 s) (fun v1 s2 => ?_)
  refine mn_if ?_ ?_
  · skip
    exact mn_some
  · skip
    exact mn_some
set_option maxRecDepth 100000 in
set_option maxHeartbeats 2000000 in
theorem sat_X8_hasHeir (l : Launch) (hl : l.stackTraces = false) (p0 : Int32) (s : Mem) : Sat l yX8_hasHeir (.code yX8_hasHeir cX8_hasHeir 2 (some .boolean)) 33 566 (fun x => some (.int x)) [.ref 8, .int p0] s (m_X8_hasHeir p0 s) := by
  refine sat_of hl (by decide) (Nat.le_of_ble_eq_true rfl) (fun X V A adV hxl hC hE hx hr => ?_) (n_X8_hasHeir p0 s)
  subst hxl
  show LX X V A 33 566 (nC s) (nS s) _ 0 [(0, .ref 8), (1, .int p0)] [] s _
  unfold m_X8_hasHeir
  refine lx_aload_n hC dX8_hasHeir_0 rfl 0 rfl ?_
  refine lx_iload_n hC dX8_hasHeir_1 rfl 1 rfl ?_
  refine lx_iconstv (v := 3) hC dX8_hasHeir_2 rfl ?_
  refine lx_callX hC hx (sat_X8_asks (xl X) hl p0 3 s) (run_V (as := [.int p0, .int 3]) (rest := []) hC hE ly8 rfl cw_X8_asks ci_X8_asks wd1935 cs_X8_asks ce_X8_asks cd_X8_asks (by decide) (by decide) (Nat.le_of_ble_eq_true rfl) dX8_hasHeir_3 rfl) (fun v1 s2 _ => ?_)
  refine lx_if_le hC 13 dX8_hasHeir_6 (by decide) ?_ ?_
  · skip
    refine lx_iconstv (v := 0) hC dX8_hasHeir_13 rfl ?_
    exact lx_zret hC rfl hr rfl dX8_hasHeir_14
  · skip
    refine lx_iconstv (v := 1) hC dX8_hasHeir_9 rfl ?_
    refine lx_goto hC 14 dX8_hasHeir_10 (by decide) ?_
    exact lx_zret hC rfl hr rfl dX8_hasHeir_14
set_option maxRecDepth 100000 in
set_option maxHeartbeats 2000000 in
theorem n_X8_heir (p0 : Int32) (s : Mem) : Mn s (m_X8_heir p0 s) := by
  unfold m_X8_heir
  refine mn_bind (n_X8_asks p0 3 s) (fun v1 s2 => ?_)
  refine mn_if ?_ ?_
  · skip
    refine mn_if ?_ ?_
    · skip
      exact mn_some
    · skip
      refine mn_bind (n_X8_fails 2 s2) (fun v3 s4 => ?_)
      exact mn_some
  · skip
    exact mn_some
set_option maxRecDepth 100000 in
set_option maxHeartbeats 2000000 in
theorem sat_X8_heir (l : Launch) (hl : l.stackTraces = false) (p0 : Int32) (s : Mem) : Sat l yX8_heir (.code yX8_heir cX8_heir 3 (some .int)) 33 566 (fun x => some (.int x)) [.ref 8, .int p0] s (m_X8_heir p0 s) := by
  refine sat_of hl (by decide) (Nat.le_of_ble_eq_true rfl) (fun X V A adV hxl hC hE hx hr => ?_) (n_X8_heir p0 s)
  subst hxl
  show LX X V A 33 566 (nC s) (nS s) _ 0 [(0, .ref 8), (1, .int p0)] [] s _
  unfold m_X8_heir
  refine lx_aload_n hC dX8_heir_0 rfl 0 rfl ?_
  refine lx_iload_n hC dX8_heir_1 rfl 1 rfl ?_
  refine lx_iconstv (v := 3) hC dX8_heir_2 rfl ?_
  refine lx_callX hC hx (sat_X8_asks (xl X) hl p0 3 s) (run_V (as := [.int p0, .int 3]) (rest := []) hC hE ly8 rfl cw_X8_asks ci_X8_asks wd1935 cs_X8_asks ce_X8_asks cd_X8_asks (by decide) (by decide) (Nat.le_of_ble_eq_true rfl) dX8_heir_3 rfl) (fun v1 s2 _ => ?_)
  refine lx_istore_n hC dX8_heir_6 rfl (by decide) ?_
  refine lx_aload_n hC dX8_heir_7 rfl 1 rfl ?_
  refine lx_getI hC ly8 rfl 0 (by decide) rfl inX8 wd1605 dX8_heir_8 ?_
  refine lx_if_eq hC 16 dX8_heir_11 (by decide) ?_ ?_
  · skip
    refine lx_iload_n hC dX8_heir_16 rfl 0 rfl ?_
    refine lx_if_ne hC 28 dX8_heir_17 (by decide) ?_ ?_
    · skip
      refine lx_iload_n hC dX8_heir_28 rfl 0 rfl ?_
      refine lx_iconstv (v := 1) hC dX8_heir_29 rfl ?_
      refine lx_isub hC dX8_heir_30 ?_
      exact lx_iret hC rfl hr dX8_heir_31
    · skip
      refine lx_aload_n hC dX8_heir_20 rfl 1 rfl ?_
      refine lx_iconstv (v := 2) hC dX8_heir_21 rfl ?_
      refine lx_callX hC hx (sat_X8_fails (xl X) hl 2 s2) (run_V (as := [.int 2]) (rest := []) hC hE ly8 rfl cw_X8_fails ci_X8_fails wd1676 cs_X8_fails ce_X8_fails cd_X8_fails (by decide) (by decide) (Nat.le_of_ble_eq_true rfl) dX8_heir_22 rfl) (fun v3 s4 _ => ?_)
      refine lx_goto hC 31 dX8_heir_25 (by decide) ?_
      exact lx_iret hC rfl hr dX8_heir_31
  · skip
    refine lx_iconstv (v := 0) hC dX8_heir_14 rfl ?_
    exact lx_iret hC rfl hr dX8_heir_15
set_option maxRecDepth 100000 in
set_option maxHeartbeats 2000000 in
theorem n_X8_lastHeir (p0 : Int32) (s : Mem) : Mn s (m_X8_lastHeir p0 s) := by
  unfold m_X8_lastHeir
  refine mn_put (fun s1 => ?_)
  refine mn_bindP (fun v2 => ?_)
  refine mn_if ?_ ?_
  · skip
    refine mn_bindP (fun v3 => ?_)
    refine mn_bindP (fun v4 => ?_)
    refine mn_bindP (fun v5 => ?_)
    exact mn_some
  · skip
    refine mn_bind (n_X8_fails 1 s1) (fun v6 s7 => ?_)
    exact mn_some
set_option maxRecDepth 100000 in
set_option maxHeartbeats 2000000 in
theorem sat_X8_lastHeir (l : Launch) (hl : l.stackTraces = false) (p0 : Int32) (s : Mem) : Sat l yX8_lastHeir (.code yX8_lastHeir cX8_lastHeir 2 (some .int)) 33 566 (fun x => some (.int x)) [.ref 8, .int p0] s (m_X8_lastHeir p0 s) := by
  refine sat_of hl (by decide) (Nat.le_of_ble_eq_true rfl) (fun X V A adV hxl hC hE hx hr => ?_) (n_X8_lastHeir p0 s)
  subst hxl
  show LX X V A 33 566 (nC s) (nS s) _ 0 [(0, .ref 8), (1, .int p0)] [] s _
  unfold m_X8_lastHeir
  refine lx_aload_n hC dX8_lastHeir_0 rfl 0 rfl ?_
  refine lx_iconstv (v := 0) hC dX8_lastHeir_1 rfl ?_
  refine lx_putI hC ly8 rfl 0 (by decide) rfl tyX8 tyX8_ok nmX8 rfl rfl rfl inX8 wd1605 dX8_lastHeir_2 (fun s1 => ?_)
  refine lx_aload_n hC dX8_lastHeir_5 rfl 0 rfl ?_
  refine lx_iload_n hC dX8_lastHeir_6 rfl 1 rfl ?_
  refine lx_callP hC hx (sat_X8_slotOf (xl X) hl p0 s1) (run_V (as := [.int p0]) (rest := []) hC hE ly8 rfl cw_X8_slotOf ci_X8_slotOf wd1768 cs_X8_slotOf ce_X8_slotOf cd_X8_slotOf (by decide) (by decide) (Nat.le_of_ble_eq_true rfl) dX8_lastHeir_7 rfl) (fun v2 _ => ?_)
  refine lx_if_ge hC 21 dX8_lastHeir_10 (by decide) ?_ ?_
  · skip
    refine lx_aload_n hC dX8_lastHeir_21 rfl 0 rfl ?_
    refine lx_aload_n hC dX8_lastHeir_22 rfl 0 rfl ?_
    refine lx_aload_n hC dX8_lastHeir_23 rfl 0 rfl ?_
    refine lx_iload_n hC dX8_lastHeir_24 rfl 1 rfl ?_
    refine lx_callP hC hx (sat_X8_slotOf (xl X) hl p0 s1) (run_V (as := [.int p0]) (rest := [.ref 8, .ref 8]) hC hE ly8 rfl cw_X8_slotOf ci_X8_slotOf wd1768 cs_X8_slotOf ce_X8_slotOf cd_X8_slotOf (by decide) (by decide) (Nat.le_of_ble_eq_true rfl) dX8_lastHeir_25 rfl) (fun v3 _ => ?_)
    refine lx_callP hC hx (sat_X8_lastHeirOf (xl X) hl v3 s1) (run_V (as := [.int v3]) (rest := [.ref 8]) hC hE ly8 rfl cw_X8_lastHeirOf ci_X8_lastHeirOf wd1963 cs_X8_lastHeirOf ce_X8_lastHeirOf cd_X8_lastHeirOf (by decide) (by decide) (Nat.le_of_ble_eq_true rfl) dX8_lastHeir_28 rfl) (fun v4 _ => ?_)
    refine lx_iconstv (v := 0) hC dX8_lastHeir_31 rfl ?_
    refine lx_callP hC hx (sat_X8_is (xl X) hl v4 0 s1) (run_V (as := [.int v4, .int 0]) (rest := []) hC hE ly8 rfl cw_X8_is ci_X8_is wd1740 cs_X8_is ce_X8_is cd_X8_is (by decide) (by decide) (Nat.le_of_ble_eq_true rfl) dX8_lastHeir_32 rfl) (fun v5 _ => ?_)
    exact lx_iret hC rfl hr dX8_lastHeir_35
  · skip
    refine lx_aload_n hC dX8_lastHeir_13 rfl 0 rfl ?_
    refine lx_iconstv (v := 1) hC dX8_lastHeir_14 rfl ?_
    refine lx_callX hC hx (sat_X8_fails (xl X) hl 1 s1) (run_V (as := [.int 1]) (rest := []) hC hE ly8 rfl cw_X8_fails ci_X8_fails wd1676 cs_X8_fails ce_X8_fails cd_X8_fails (by decide) (by decide) (Nat.le_of_ble_eq_true rfl) dX8_lastHeir_15 rfl) (fun v6 s7 _ => ?_)
    refine lx_goto hC 35 dX8_lastHeir_18 (by decide) ?_
    exact lx_iret hC rfl hr dX8_lastHeir_35
set_option maxRecDepth 100000 in
set_option maxHeartbeats 2000000 in
theorem n_X8_lastHeirByDoubling (p0 : Int32) (s : Mem) : Mn s (m_X8_lastHeirByDoubling p0 s) := by
  unfold m_X8_lastHeirByDoubling
  refine mn_bind (n_X8_lastHeir p0 s) (fun v1 s2 => ?_)
  exact mn_some
set_option maxRecDepth 100000 in
set_option maxHeartbeats 2000000 in
theorem sat_X8_lastHeirByDoubling (l : Launch) (hl : l.stackTraces = false) (p0 : Int32) (s : Mem) : Sat l yX8_lastHeirByDoubling (.code yX8_lastHeirByDoubling cX8_lastHeirByDoubling 2 (some .int)) 34 587 (fun x => some (.int x)) [.ref 8, .int p0] s (m_X8_lastHeirByDoubling p0 s) := by
  refine sat_of hl (by decide) (Nat.le_of_ble_eq_true rfl) (fun X V A adV hxl hC hE hx hr => ?_) (n_X8_lastHeirByDoubling p0 s)
  subst hxl
  show LX X V A 34 587 (nC s) (nS s) _ 0 [(0, .ref 8), (1, .int p0)] [] s _
  unfold m_X8_lastHeirByDoubling
  refine lx_aload_n hC dX8_lastHeirByDoubling_0 rfl 0 rfl ?_
  refine lx_iload_n hC dX8_lastHeirByDoubling_1 rfl 1 rfl ?_
  refine lx_callX hC hx (sat_X8_lastHeir (xl X) hl p0 s) (run_V (as := [.int p0]) (rest := []) hC hE ly8 rfl cw_X8_lastHeir ci_X8_lastHeir wd1971 cs_X8_lastHeir ce_X8_lastHeir cd_X8_lastHeir (by decide) (by decide) (Nat.le_of_ble_eq_true rfl) dX8_lastHeirByDoubling_2 rfl) (fun v1 s2 _ => ?_)
  exact lx_iret hC rfl hr dX8_lastHeirByDoubling_5
set_option maxRecDepth 100000 in
set_option maxHeartbeats 2000000 in
theorem l_X8_stepsToLastHeir_b27 {X : Cx} {V : Vx} {A : Nat → Prop} {adV : Nat → Nat} {c0 s0 : Nat} (hC : Cok X V A yX8_stepsToLastHeir.cls cX8_stepsToLastHeir 4) (hE : Env0 V adV A (xs X) (xs X).heap) (hl : (xl X).stackTraces = false) (hx : ∀ x ∈ (xc X).exceptionTable.toList, False) (hr : (xh X).sig.returnType = some .int) (s : Mem) (kf27 : (Int32 × Int32) → Res Int32) (hk27 : ∀ a, LX X V A 32 544 c0 s0 (FM X V A (fun x => some (.int x))) 27 [(0, .ref 8), (2, .int a.1), (3, .int a.2)] [] s (kf27 a)) (w2 : Int32) (w3 : Int32) : LX X V A 32 544 c0 s0 (FM X V A (fun x => some (.int x))) 27 [(0, .ref 8), (2, .int w2), (3, .int w3)] [] s (m_X8_stepsToLastHeir_b27 s kf27 w2 w3 ) := by
  unfold m_X8_stepsToLastHeir_b27
  refine lx_aload_n hC dX8_stepsToLastHeir_27 rfl 0 rfl ?_
  refine lx_iload_n hC dX8_stepsToLastHeir_28 rfl 2 rfl ?_
  refine lx_iconstv (v := 3) hC dX8_stepsToLastHeir_29 rfl ?_
  refine lx_callP hC hx (sat_X8_is (xl X) hl w3 3 s) (run_V (as := [.int w3, .int 3]) (rest := []) hC hE ly8 rfl cw_X8_is ci_X8_is wd1740 cs_X8_is ce_X8_is cd_X8_is (by decide) (by decide) (Nat.le_of_ble_eq_true rfl) dX8_stepsToLastHeir_30 rfl) (fun v4 _ => ?_)
  refine lx_if_eq hC 55 dX8_stepsToLastHeir_33 (by decide) ?_ ?_
  · skip
    refine lx_iload_n hC dX8_stepsToLastHeir_55 rfl 1 rfl ?_
    exact lx_iret hC rfl hr dX8_stepsToLastHeir_56
  · skip
    refine lx_iincN (v := 1) hC dX8_stepsToLastHeir_36 1 rfl (by decide) rfl (fun y5 => ?_)
    refine lx_aload_n hC dX8_stepsToLastHeir_39 rfl 1 rfl ?_
    refine lx_aload_n hC dX8_stepsToLastHeir_40 rfl 1 rfl ?_
    refine lx_iload_n hC dX8_stepsToLastHeir_41 rfl 2 rfl ?_
    refine lx_iconstv (v := 3) hC dX8_stepsToLastHeir_42 rfl ?_
    refine lx_callP hC hx (sat_X8_is (xl X) hl w3 3 s) (run_V (as := [.int w3, .int 3]) (rest := [.ref 8]) hC hE ly8 rfl cw_X8_is ci_X8_is wd1740 cs_X8_is ce_X8_is cd_X8_is (by decide) (by decide) (Nat.le_of_ble_eq_true rfl) dX8_stepsToLastHeir_43 rfl) (fun v6 _ => ?_)
    refine lx_iconstv (v := 1) hC dX8_stepsToLastHeir_46 rfl ?_
    refine lx_isub hC dX8_stepsToLastHeir_47 ?_
    refine lx_callP hC hx (sat_X8_slotOf (xl X) hl (v6 - 1) s) (run_V (as := [.int (v6 - 1)]) (rest := []) hC hE ly8 rfl cw_X8_slotOf ci_X8_slotOf wd1768 cs_X8_slotOf ce_X8_slotOf cd_X8_slotOf (by decide) (by decide) (Nat.le_of_ble_eq_true rfl) dX8_stepsToLastHeir_48 rfl) (fun v7 _ => ?_)
    refine lx_istore_n hC dX8_stepsToLastHeir_51 rfl (by decide) ?_
    refine lx_goto hC 27 dX8_stepsToLastHeir_52 (by decide) ?_
    exact lx_sub [2, 1, 0] rfl (hk27 (y5, v7))
set_option maxRecDepth 100000 in
set_option maxHeartbeats 2000000 in
theorem n_X8_stepsToLastHeir_b27 (s : Mem) (kf27 : (Int32 × Int32) → Res Int32) (hm27 : ∀ a, Mn s (kf27 a)) (w2 : Int32) (w3 : Int32) : Mn s (m_X8_stepsToLastHeir_b27 s kf27 w2 w3 ) := by
  unfold m_X8_stepsToLastHeir_b27
  refine mn_bindP (fun v4 => ?_)
  refine mn_if ?_ ?_
  · skip
    exact mn_some
  · skip
    refine mn_vl (fun y5 => ?_)
    refine mn_bindP (fun v6 => ?_)
    refine mn_bindP (fun v7 => ?_)
    exact hm27 (y5, v7)
set_option maxRecDepth 100000 in
set_option maxHeartbeats 2000000 in
theorem n_X8_stepsToLastHeir (p0 : Int32) (s : Mem) : Mn s (m_X8_stepsToLastHeir p0 s) := by
  unfold m_X8_stepsToLastHeir
  refine mn_put (fun s1 => ?_)
  refine mn_bindP (fun v2 => ?_)
  refine mn_if ?_ ?_
  · skip
    refine mn_bindP (fun v3 => ?_)
    exact mn_lp (sg := fun a => s1) (fun kf hq a => n_X8_stepsToLastHeir_b27 s1 kf hq a.1 a.2) FUEL (0, v3)
  · skip
    refine mn_bind (n_X8_fails 1 s1) (fun v8 s9 => ?_)
    exact mn_some
set_option maxRecDepth 100000 in
set_option maxHeartbeats 2000000 in
theorem sat_X8_stepsToLastHeir (l : Launch) (hl : l.stackTraces = false) (p0 : Int32) (s : Mem) : Sat l yX8_stepsToLastHeir (.code yX8_stepsToLastHeir cX8_stepsToLastHeir 4 (some .int)) 32 544 (fun x => some (.int x)) [.ref 8, .int p0] s (m_X8_stepsToLastHeir p0 s) := by
  refine sat_of hl (by decide) (Nat.le_of_ble_eq_true rfl) (fun X V A adV hxl hC hE hx hr => ?_) (n_X8_stepsToLastHeir p0 s)
  subst hxl
  show LX X V A 32 544 (nC s) (nS s) _ 0 [(0, .ref 8), (1, .int p0)] [] s _
  unfold m_X8_stepsToLastHeir
  refine lx_aload_n hC dX8_stepsToLastHeir_0 rfl 0 rfl ?_
  refine lx_iconstv (v := 0) hC dX8_stepsToLastHeir_1 rfl ?_
  refine lx_putI hC ly8 rfl 0 (by decide) rfl tyX8 tyX8_ok nmX8 rfl rfl rfl inX8 wd1605 dX8_stepsToLastHeir_2 (fun s1 => ?_)
  refine lx_aload_n hC dX8_stepsToLastHeir_5 rfl 0 rfl ?_
  refine lx_iload_n hC dX8_stepsToLastHeir_6 rfl 1 rfl ?_
  refine lx_callP hC hx (sat_X8_slotOf (xl X) hl p0 s1) (run_V (as := [.int p0]) (rest := []) hC hE ly8 rfl cw_X8_slotOf ci_X8_slotOf wd1768 cs_X8_slotOf ce_X8_slotOf cd_X8_slotOf (by decide) (by decide) (Nat.le_of_ble_eq_true rfl) dX8_stepsToLastHeir_7 rfl) (fun v2 _ => ?_)
  refine lx_if_ge hC 19 dX8_stepsToLastHeir_10 (by decide) ?_ ?_
  · skip
    refine lx_iconstv (v := 0) hC dX8_stepsToLastHeir_19 rfl ?_
    refine lx_istore_n hC dX8_stepsToLastHeir_20 rfl (by decide) ?_
    refine lx_aload_n hC dX8_stepsToLastHeir_21 rfl 1 rfl ?_
    refine lx_iload_n hC dX8_stepsToLastHeir_22 rfl 2 rfl ?_
    refine lx_callP hC hx (sat_X8_slotOf (xl X) hl p0 s1) (run_V (as := [.int p0]) (rest := []) hC hE ly8 rfl cw_X8_slotOf ci_X8_slotOf wd1768 cs_X8_slotOf ce_X8_slotOf cd_X8_slotOf (by decide) (by decide) (Nat.le_of_ble_eq_true rfl) dX8_stepsToLastHeir_23 rfl) (fun v3 _ => ?_)
    refine lx_istore_n hC dX8_stepsToLastHeir_26 rfl (by decide) ?_
    refine lx_sub [2, 1, 0] rfl ?_
    exact lx_lp (lv := fun a => [(0, .ref 8), (2, .int a.1), (3, .int a.2)]) (st := fun _ => []) (sg := fun a => s1) (fun kf hq a => l_X8_stepsToLastHeir_b27 hC hE hl hx hr s1 kf hq a.1 a.2) FUEL (0, v3)
  · skip
    refine lx_aload_n hC dX8_stepsToLastHeir_13 rfl 0 rfl ?_
    refine lx_iconstv (v := 1) hC dX8_stepsToLastHeir_14 rfl ?_
    refine lx_callX hC hx (sat_X8_fails (xl X) hl 1 s1) (run_V (as := [.int 1]) (rest := []) hC hE ly8 rfl cw_X8_fails ci_X8_fails wd1676 cs_X8_fails ce_X8_fails cd_X8_fails (by decide) (by decide) (Nat.le_of_ble_eq_true rfl) dX8_stepsToLastHeir_15 rfl) (fun v8 s9 _ => ?_)
    exact lx_iret hC rfl hr dX8_stepsToLastHeir_18
set_option maxRecDepth 100000 in
set_option maxHeartbeats 2000000 in
theorem l_X8_bequeathers_b23 {X : Cx} {V : Vx} {A : Nat → Prop} {adV : Nat → Nat} {c0 s0 : Nat} (hC : Cok X V A yX8_bequeathers.cls cX8_bequeathers 4) (hE : Env0 V adV A (xs X) (xs X).heap) (hl : (xl X).stackTraces = false) (hx : ∀ x ∈ (xc X).exceptionTable.toList, False) (hr : (xh X).sig.returnType = some .int) (x3 : Int32) (s : Mem) (kf23 : (Int32 × Int32) → Res Int32) (hk23 : ∀ a, LX X V A 32 544 c0 s0 (FM X V A (fun x => some (.int x))) 23 [(0, .ref 8), (1, .int x3), (2, .int a.1), (3, .int a.2)] [] s (kf23 a)) (w2 : Int32) (w3 : Int32) : LX X V A 32 544 c0 s0 (FM X V A (fun x => some (.int x))) 23 [(0, .ref 8), (1, .int x3), (2, .int w2), (3, .int w3)] [] s (m_X8_bequeathers_b23 x3 s kf23 w2 w3 ) := by
  unfold m_X8_bequeathers_b23
  refine lx_iload_n hC dX8_bequeathers_23 rfl 3 rfl ?_
  refine lx_aload_n hC dX8_bequeathers_24 rfl 0 rfl ?_
  refine lx_getR (q := 136) hC ly8 rfl 1 (by decide) rfl rfl inX8 wd1606 dX8_bequeathers_25 ?_
  refine lx_iconstv (v := 1) hC dX8_bequeathers_28 rfl ?_
  refine lx_iaload hC ly136 dX8_bequeathers_29 ?_
  refine lx_icmp_ge hC 59 dX8_bequeathers_30 (by decide) ?_ ?_
  · skip
    refine lx_iload_n hC dX8_bequeathers_59 rfl 2 rfl ?_
    exact lx_iret hC rfl hr dX8_bequeathers_60
  · skip
    refine lx_iload_n hC dX8_bequeathers_33 rfl 2 rfl ?_
    refine lx_aload_n hC dX8_bequeathers_34 rfl 0 rfl ?_
    refine lx_iload_n hC dX8_bequeathers_35 rfl 3 rfl ?_
    refine lx_iconstv (v := 3) hC dX8_bequeathers_36 rfl ?_
    refine lx_callP hC hx (sat_X8_is (xl X) hl w3 3 s) (run_V (as := [.int w3, .int 3]) (rest := [.int w2]) hC hE ly8 rfl cw_X8_is ci_X8_is wd1740 cs_X8_is ce_X8_is cd_X8_is (by decide) (by decide) (Nat.le_of_ble_eq_true rfl) dX8_bequeathers_37 rfl) (fun v4 _ => ?_)
    refine lx_iload_n hC dX8_bequeathers_40 rfl 1 rfl ?_
    refine lx_iconstv (v := 1) hC dX8_bequeathers_41 rfl ?_
    refine lx_iadd hC dX8_bequeathers_42 ?_
    refine lx_icmp_ne hC 50 dX8_bequeathers_43 (by decide) ?_ ?_
    · skip
      refine lx_iconstv (v := 0) hC dX8_bequeathers_50 rfl ?_
      refine lx_iadd hC dX8_bequeathers_51 ?_
      refine lx_istore_nN hC dX8_bequeathers_52 rfl (by decide) (fun y5 => ?_)
      refine lx_iincN (v := 1) hC dX8_bequeathers_53 3 rfl (by decide) rfl (fun y6 => ?_)
      refine lx_goto hC 23 dX8_bequeathers_56 (by decide) ?_
      exact lx_sub [2, 3, 1, 0] rfl (hk23 (y5, y6))
    · skip
      refine lx_iconstv (v := 1) hC dX8_bequeathers_46 rfl ?_
      refine lx_goto hC 51 dX8_bequeathers_47 (by decide) ?_
      refine lx_iadd hC dX8_bequeathers_51 ?_
      refine lx_istore_nN hC dX8_bequeathers_52 rfl (by decide) (fun y7 => ?_)
      refine lx_iincN (v := 1) hC dX8_bequeathers_53 3 rfl (by decide) rfl (fun y8 => ?_)
      refine lx_goto hC 23 dX8_bequeathers_56 (by decide) ?_
      exact lx_sub [2, 3, 1, 0] rfl (hk23 (y7, y8))
set_option maxRecDepth 100000 in
set_option maxHeartbeats 2000000 in
theorem n_X8_bequeathers_b23 (x3 : Int32) (s : Mem) (kf23 : (Int32 × Int32) → Res Int32) (hm23 : ∀ a, Mn s (kf23 a)) (w2 : Int32) (w3 : Int32) : Mn s (m_X8_bequeathers_b23 x3 s kf23 w2 w3 ) := by
  unfold m_X8_bequeathers_b23
  refine mn_if ?_ mn_none
  refine mn_if ?_ ?_
  · skip
    exact mn_some
  · skip
    refine mn_bindP (fun v4 => ?_)
    refine mn_if ?_ ?_
    · skip
      refine mn_vl (fun y5 => ?_)
      refine mn_vl (fun y6 => ?_)
      exact hm23 (y5, y6)
    · skip
      refine mn_vl (fun y7 => ?_)
      refine mn_vl (fun y8 => ?_)
      exact hm23 (y7, y8)
set_option maxRecDepth 100000 in
set_option maxHeartbeats 2000000 in
theorem n_X8_bequeathers (p0 : Int32) (s : Mem) : Mn s (m_X8_bequeathers p0 s) := by
  unfold m_X8_bequeathers
  refine mn_put (fun s1 => ?_)
  refine mn_bindP (fun v2 => ?_)
  refine mn_if ?_ ?_
  · skip
    exact mn_lp (sg := fun a => s1) (fun kf hq a => n_X8_bequeathers_b23 p0 s1 kf hq a.1 a.2) FUEL (0, 0)
  · skip
    refine mn_bind (n_X8_fails 1 s1) (fun v9 s10 => ?_)
    exact mn_some
set_option maxRecDepth 100000 in
set_option maxHeartbeats 2000000 in
theorem sat_X8_bequeathers (l : Launch) (hl : l.stackTraces = false) (p0 : Int32) (s : Mem) : Sat l yX8_bequeathers (.code yX8_bequeathers cX8_bequeathers 4 (some .int)) 32 544 (fun x => some (.int x)) [.ref 8, .int p0] s (m_X8_bequeathers p0 s) := by
  refine sat_of hl (by decide) (Nat.le_of_ble_eq_true rfl) (fun X V A adV hxl hC hE hx hr => ?_) (n_X8_bequeathers p0 s)
  subst hxl
  show LX X V A 32 544 (nC s) (nS s) _ 0 [(0, .ref 8), (1, .int p0)] [] s _
  unfold m_X8_bequeathers
  refine lx_aload_n hC dX8_bequeathers_0 rfl 0 rfl ?_
  refine lx_iconstv (v := 0) hC dX8_bequeathers_1 rfl ?_
  refine lx_putI hC ly8 rfl 0 (by decide) rfl tyX8 tyX8_ok nmX8 rfl rfl rfl inX8 wd1605 dX8_bequeathers_2 (fun s1 => ?_)
  refine lx_aload_n hC dX8_bequeathers_5 rfl 0 rfl ?_
  refine lx_iload_n hC dX8_bequeathers_6 rfl 1 rfl ?_
  refine lx_callP hC hx (sat_X8_slotOf (xl X) hl p0 s1) (run_V (as := [.int p0]) (rest := []) hC hE ly8 rfl cw_X8_slotOf ci_X8_slotOf wd1768 cs_X8_slotOf ce_X8_slotOf cd_X8_slotOf (by decide) (by decide) (Nat.le_of_ble_eq_true rfl) dX8_bequeathers_7 rfl) (fun v2 _ => ?_)
  refine lx_if_ge hC 19 dX8_bequeathers_10 (by decide) ?_ ?_
  · skip
    refine lx_iconstv (v := 0) hC dX8_bequeathers_19 rfl ?_
    refine lx_istore_n hC dX8_bequeathers_20 rfl (by decide) ?_
    refine lx_iconstv (v := 0) hC dX8_bequeathers_21 rfl ?_
    refine lx_istore_n hC dX8_bequeathers_22 rfl (by decide) ?_
    refine lx_sub [2, 3, 1, 0] rfl ?_
    exact lx_lp (lv := fun a => [(0, .ref 8), (1, .int p0), (2, .int a.1), (3, .int a.2)]) (st := fun _ => []) (sg := fun a => s1) (fun kf hq a => l_X8_bequeathers_b23 hC hE hl hx hr p0 s1 kf hq a.1 a.2) FUEL (0, 0)
  · skip
    refine lx_aload_n hC dX8_bequeathers_13 rfl 0 rfl ?_
    refine lx_iconstv (v := 1) hC dX8_bequeathers_14 rfl ?_
    refine lx_callX hC hx (sat_X8_fails (xl X) hl 1 s1) (run_V (as := [.int 1]) (rest := []) hC hE ly8 rfl cw_X8_fails ci_X8_fails wd1676 cs_X8_fails ce_X8_fails cd_X8_fails (by decide) (by decide) (Nat.le_of_ble_eq_true rfl) dX8_bequeathers_15 rfl) (fun v9 s10 _ => ?_)
    exact lx_iret hC rfl hr dX8_bequeathers_18
set_option maxRecDepth 100000 in
set_option maxHeartbeats 2000000 in
theorem l_X8_countInRows_b43 {X : Cx} {V : Vx} {A : Nat → Prop} {adV : Nat → Nat} {c0 s0 : Nat} (hC : Cok X V A yX8_countInRows.cls cX8_countInRows 5) (hE : Env0 V adV A (xs X) (xs X).heap) (hl : (xl X).stackTraces = false) (hx : ∀ x ∈ (xc X).exceptionTable.toList, False) (hr : (xh X).sig.returnType = some .int) (x6 : Int32) (s : Mem) (kf43 : (Int32 × Int32) → Res Int32) (hk43 : ∀ a, LX X V A 32 545 c0 s0 (FM X V A (fun x => some (.int x))) 43 [(0, .ref 8), (2, .int x6), (3, .int a.1), (4, .int a.2)] [] s (kf43 a)) (w3 : Int32) (w4 : Int32) : LX X V A 32 545 c0 s0 (FM X V A (fun x => some (.int x))) 43 [(0, .ref 8), (2, .int x6), (3, .int w3), (4, .int w4)] [] s (m_X8_countInRows_b43 x6 s kf43 w3 w4 ) := by
  unfold m_X8_countInRows_b43
  refine lx_iload hC dX8_countInRows_43 3 rfl ?_
  refine lx_iload_n hC dX8_countInRows_45 rfl 1 rfl ?_
  refine lx_icmp_gt hC 64 dX8_countInRows_46 (by decide) ?_ ?_
  · skip
    refine lx_iload_n hC dX8_countInRows_64 rfl 2 rfl ?_
    exact lx_iret hC rfl hr dX8_countInRows_65
  · skip
    refine lx_iload_n hC dX8_countInRows_49 rfl 2 rfl ?_
    refine lx_aload_n hC dX8_countInRows_50 rfl 0 rfl ?_
    refine lx_iload hC dX8_countInRows_51 3 rfl ?_
    refine lx_callP hC hx (sat_X8_countIn (xl X) hl w4 s) (run_V (as := [.int w4]) (rest := [.int w3]) hC hE ly8 rfl cw_X8_countIn ci_X8_countIn wd1736 cs_X8_countIn ce_X8_countIn cd_X8_countIn (by decide) (by decide) (Nat.le_of_ble_eq_true rfl) dX8_countInRows_53 rfl) (fun v7 _ => ?_)
    refine lx_iadd hC dX8_countInRows_56 ?_
    refine lx_istore_nN hC dX8_countInRows_57 rfl (by decide) (fun y8 => ?_)
    refine lx_iincN (v := 1) hC dX8_countInRows_58 3 rfl (by decide) rfl (fun y9 => ?_)
    refine lx_goto hC 43 dX8_countInRows_61 (by decide) ?_
    exact lx_sub [2, 3, 1, 0] rfl (hk43 (y8, y9))
set_option maxRecDepth 100000 in
set_option maxHeartbeats 2000000 in
theorem n_X8_countInRows_b43 (x6 : Int32) (s : Mem) (kf43 : (Int32 × Int32) → Res Int32) (hm43 : ∀ a, Mn s (kf43 a)) (w3 : Int32) (w4 : Int32) : Mn s (m_X8_countInRows_b43 x6 s kf43 w3 w4 ) := by
  unfold m_X8_countInRows_b43
  refine mn_if ?_ ?_
  · skip
    exact mn_some
  · skip
    refine mn_bindP (fun v7 => ?_)
    refine mn_vl (fun y8 => ?_)
    refine mn_vl (fun y9 => ?_)
    exact hm43 (y8, y9)
set_option maxRecDepth 100000 in
set_option maxHeartbeats 2000000 in
theorem n_X8_countInRows (p0 : Int32) (p1 : Int32) (s : Mem) : Mn s (m_X8_countInRows p0 p1 s) := by
  unfold m_X8_countInRows
  refine mn_put (fun s1 => ?_)
  refine mn_bindP (fun v2 => ?_)
  refine mn_if ?_ ?_
  · skip
    refine mn_bind (n_X8_fails 1 s1) (fun v3 s4 => ?_)
    exact mn_some
  · skip
    refine mn_bindP (fun v5 => ?_)
    refine mn_if ?_ ?_
    · skip
      refine mn_if ?_ ?_
      · skip
        exact mn_lp (sg := fun a => s1) (fun kf hq a => n_X8_countInRows_b43 p1 s1 kf hq a.1 a.2) FUEL (0, p0)
      · skip
        refine mn_bind (n_X8_fails 2 s1) (fun v10 s11 => ?_)
        exact mn_some
    · skip
      refine mn_bind (n_X8_fails 1 s1) (fun v12 s13 => ?_)
      exact mn_some
set_option maxRecDepth 100000 in
set_option maxHeartbeats 2000000 in
theorem sat_X8_countInRows (l : Launch) (hl : l.stackTraces = false) (p0 : Int32) (p1 : Int32) (s : Mem) : Sat l yX8_countInRows (.code yX8_countInRows cX8_countInRows 5 (some .int)) 32 545 (fun x => some (.int x)) [.ref 8, .int p0, .int p1] s (m_X8_countInRows p0 p1 s) := by
  refine sat_of hl (by decide) (Nat.le_of_ble_eq_true rfl) (fun X V A adV hxl hC hE hx hr => ?_) (n_X8_countInRows p0 p1 s)
  subst hxl
  show LX X V A 32 545 (nC s) (nS s) _ 0 [(0, .ref 8), (1, .int p0), (2, .int p1)] [] s _
  unfold m_X8_countInRows
  refine lx_aload_n hC dX8_countInRows_0 rfl 0 rfl ?_
  refine lx_iconstv (v := 0) hC dX8_countInRows_1 rfl ?_
  refine lx_putI hC ly8 rfl 0 (by decide) rfl tyX8 tyX8_ok nmX8 rfl rfl rfl inX8 wd1605 dX8_countInRows_2 (fun s1 => ?_)
  refine lx_aload_n hC dX8_countInRows_5 rfl 0 rfl ?_
  refine lx_iload_n hC dX8_countInRows_6 rfl 1 rfl ?_
  refine lx_callP hC hx (sat_X8_isRow (xl X) hl p0 s1) (run_V (as := [.int p0]) (rest := []) hC hE ly8 rfl cw_X8_isRow ci_X8_isRow wd1708 cs_X8_isRow ce_X8_isRow cd_X8_isRow (by decide) (by decide) (Nat.le_of_ble_eq_true rfl) dX8_countInRows_7 rfl) (fun v2 _ => ?_)
  refine lx_if_eq hC 21 dX8_countInRows_10 (by decide) ?_ ?_
  · skip
    refine lx_aload_n hC dX8_countInRows_21 rfl 0 rfl ?_
    refine lx_iconstv (v := 1) hC dX8_countInRows_22 rfl ?_
    refine lx_callX hC hx (sat_X8_fails (xl X) hl 1 s1) (run_V (as := [.int 1]) (rest := []) hC hE ly8 rfl cw_X8_fails ci_X8_fails wd1676 cs_X8_fails ce_X8_fails cd_X8_fails (by decide) (by decide) (Nat.le_of_ble_eq_true rfl) dX8_countInRows_23 rfl) (fun v3 s4 _ => ?_)
    exact lx_iret hC rfl hr dX8_countInRows_26
  · skip
    refine lx_aload_n hC dX8_countInRows_13 rfl 0 rfl ?_
    refine lx_iload_n hC dX8_countInRows_14 rfl 2 rfl ?_
    refine lx_callP hC hx (sat_X8_isRow (xl X) hl p1 s1) (run_V (as := [.int p1]) (rest := []) hC hE ly8 rfl cw_X8_isRow ci_X8_isRow wd1708 cs_X8_isRow ce_X8_isRow cd_X8_isRow (by decide) (by decide) (Nat.le_of_ble_eq_true rfl) dX8_countInRows_15 rfl) (fun v5 _ => ?_)
    refine lx_if_ne hC 27 dX8_countInRows_18 (by decide) ?_ ?_
    · skip
      refine lx_iload_n hC dX8_countInRows_27 rfl 1 rfl ?_
      refine lx_iload_n hC dX8_countInRows_28 rfl 2 rfl ?_
      refine lx_icmp_le hC 38 dX8_countInRows_29 (by decide) ?_ ?_
      · skip
        refine lx_iconstv (v := 0) hC dX8_countInRows_38 rfl ?_
        refine lx_istore_n hC dX8_countInRows_39 rfl (by decide) ?_
        refine lx_iload_n hC dX8_countInRows_40 rfl 2 rfl ?_
        refine lx_istore hC dX8_countInRows_41 (by decide) ?_
        refine lx_sub [2, 4, 1, 0] rfl ?_
        exact lx_lp (lv := fun a => [(0, .ref 8), (2, .int p1), (3, .int a.1), (4, .int a.2)]) (st := fun _ => []) (sg := fun a => s1) (fun kf hq a => l_X8_countInRows_b43 hC hE hl hx hr p1 s1 kf hq a.1 a.2) FUEL (0, p0)
      · skip
        refine lx_aload_n hC dX8_countInRows_32 rfl 0 rfl ?_
        refine lx_iconstv (v := 2) hC dX8_countInRows_33 rfl ?_
        refine lx_callX hC hx (sat_X8_fails (xl X) hl 2 s1) (run_V (as := [.int 2]) (rest := []) hC hE ly8 rfl cw_X8_fails ci_X8_fails wd1676 cs_X8_fails ce_X8_fails cd_X8_fails (by decide) (by decide) (Nat.le_of_ble_eq_true rfl) dX8_countInRows_34 rfl) (fun v10 s11 _ => ?_)
        exact lx_iret hC rfl hr dX8_countInRows_37
    · skip
      refine lx_aload_n hC dX8_countInRows_21 rfl 0 rfl ?_
      refine lx_iconstv (v := 1) hC dX8_countInRows_22 rfl ?_
      refine lx_callX hC hx (sat_X8_fails (xl X) hl 1 s1) (run_V (as := [.int 1]) (rest := []) hC hE ly8 rfl cw_X8_fails ci_X8_fails wd1676 cs_X8_fails ce_X8_fails cd_X8_fails (by decide) (by decide) (Nat.le_of_ble_eq_true rfl) dX8_countInRows_23 rfl) (fun v12 s13 _ => ?_)
      exact lx_iret hC rfl hr dX8_countInRows_26
set_option maxRecDepth 100000 in
set_option maxHeartbeats 2000000 in
theorem n_X8_countInRowsByTree (p0 : Int32) (p1 : Int32) (s : Mem) : Mn s (m_X8_countInRowsByTree p0 p1 s) := by
  unfold m_X8_countInRowsByTree
  refine mn_bind (n_X8_countInRows p0 p1 s) (fun v1 s2 => ?_)
  exact mn_some
set_option maxRecDepth 100000 in
set_option maxHeartbeats 2000000 in
theorem sat_X8_countInRowsByTree (l : Launch) (hl : l.stackTraces = false) (p0 : Int32) (p1 : Int32) (s : Mem) : Sat l yX8_countInRowsByTree (.code yX8_countInRowsByTree cX8_countInRowsByTree 3 (some .int)) 33 569 (fun x => some (.int x)) [.ref 8, .int p0, .int p1] s (m_X8_countInRowsByTree p0 p1 s) := by
  refine sat_of hl (by decide) (Nat.le_of_ble_eq_true rfl) (fun X V A adV hxl hC hE hx hr => ?_) (n_X8_countInRowsByTree p0 p1 s)
  subst hxl
  show LX X V A 33 569 (nC s) (nS s) _ 0 [(0, .ref 8), (1, .int p0), (2, .int p1)] [] s _
  unfold m_X8_countInRowsByTree
  refine lx_aload_n hC dX8_countInRowsByTree_0 rfl 0 rfl ?_
  refine lx_iload_n hC dX8_countInRowsByTree_1 rfl 1 rfl ?_
  refine lx_iload_n hC dX8_countInRowsByTree_2 rfl 2 rfl ?_
  refine lx_callX hC hx (sat_X8_countInRows (xl X) hl p0 p1 s) (run_V (as := [.int p0, .int p1]) (rest := []) hC hE ly8 rfl cw_X8_countInRows ci_X8_countInRows wd1988 cs_X8_countInRows ce_X8_countInRows cd_X8_countInRows (by decide) (by decide) (Nat.le_of_ble_eq_true rfl) dX8_countInRowsByTree_3 rfl) (fun v1 s2 _ => ?_)
  exact lx_iret hC rfl hr dX8_countInRowsByTree_6
set_option maxRecDepth 100000 in
set_option maxHeartbeats 2000000 in
theorem l_X8_rankOf_b8 {X : Cx} {V : Vx} {A : Nat → Prop} {adV : Nat → Nat} {c0 s0 : Nat} (hC : Cok X V A yX8_rankOf.cls cX8_rankOf 4) (hE : Env0 V adV A (xs X) (xs X).heap) (hl : (xl X).stackTraces = false) (hx : ∀ x ∈ (xc X).exceptionTable.toList, False) (hr : (xh X).sig.returnType = some .int) (x2 : Int32) (s : Mem) (kf8 : (Int32 × Int32) → Option Int32) (hk8 : ∀ a, LX X V A 32 545 c0 s0 (FM X V A (fun x => some (.int x))) 8 [(0, .ref 8), (1, .int x2), (2, .int a.1), (3, .int a.2)] [] s (pur s (kf8 a))) (w2 : Int32) (w3 : Int32) : LX X V A 32 545 c0 s0 (FM X V A (fun x => some (.int x))) 8 [(0, .ref 8), (1, .int x2), (2, .int w2), (3, .int w3)] [] s (pur s (m_X8_rankOf_b8 x2 s kf8 w2 w3 )) := by
  unfold m_X8_rankOf_b8
  refine lx_iload_n hC dX8_rankOf_8 rfl 3 rfl ?_
  refine lx_aload_n hC dX8_rankOf_9 rfl 0 rfl ?_
  refine lx_iload_n hC dX8_rankOf_10 rfl 1 rfl ?_
  refine lx_iconstv (v := 1) hC dX8_rankOf_11 rfl ?_
  refine lq_call hC hx (sat_X8_is (xl X) hl x2 1 s) (run_V (as := [.int x2, .int 1]) (rest := [.int w3]) hC hE ly8 rfl cw_X8_is ci_X8_is wd1740 cs_X8_is ce_X8_is cd_X8_is (by decide) (by decide) (Nat.le_of_ble_eq_true rfl) dX8_rankOf_12 rfl) (fun v3 _ => ?_)
  refine lq_icmp_ge hC 32 dX8_rankOf_15 (by decide) ?_ ?_
  · skip
    refine lx_iload_n hC dX8_rankOf_32 rfl 2 rfl ?_
    exact lx_iret hC rfl hr dX8_rankOf_33
  · skip
    refine lx_iload_n hC dX8_rankOf_18 rfl 2 rfl ?_
    refine lx_aload_n hC dX8_rankOf_19 rfl 0 rfl ?_
    refine lx_iload_n hC dX8_rankOf_20 rfl 3 rfl ?_
    refine lq_call hC hx (sat_X8_countIn (xl X) hl w3 s) (run_V (as := [.int w3]) (rest := [.int w2]) hC hE ly8 rfl cw_X8_countIn ci_X8_countIn wd1736 cs_X8_countIn ce_X8_countIn cd_X8_countIn (by decide) (by decide) (Nat.le_of_ble_eq_true rfl) dX8_rankOf_21 rfl) (fun v4 _ => ?_)
    refine lx_iadd hC dX8_rankOf_24 ?_
    refine lq_istore_nN hC dX8_rankOf_25 rfl (by decide) (fun y5 => ?_)
    refine lq_iincN (v := 1) hC dX8_rankOf_26 3 rfl (by decide) rfl (fun y6 => ?_)
    refine lx_goto hC 8 dX8_rankOf_29 (by decide) ?_
    exact lx_sub [2, 3, 1, 0] rfl (hk8 (y5, y6))
set_option maxRecDepth 100000 in
set_option maxHeartbeats 2000000 in
theorem sat_X8_rankOf (l : Launch) (hl : l.stackTraces = false) (p0 : Int32) (s : Mem) : Sat l yX8_rankOf (.code yX8_rankOf cX8_rankOf 4 (some .int)) 32 545 (fun x => some (.int x)) [.ref 8, .int p0] s (pur s (m_X8_rankOf p0 s)) := by
  refine sat_of hl (by decide) (Nat.le_of_ble_eq_true rfl) (fun X V A adV hxl hC hE hx hr => ?_) pur_mono
  subst hxl
  show LX X V A 32 545 (nC s) (nS s) _ 0 [(0, .ref 8), (1, .int p0)] [] s _
  unfold m_X8_rankOf
  refine lx_aload_n hC dX8_rankOf_0 rfl 0 rfl ?_
  refine lx_iload_n hC dX8_rankOf_1 rfl 1 rfl ?_
  refine lq_call hC hx (sat_X8_positionOf (xl X) hl p0 s) (run_V (as := [.int p0]) (rest := []) hC hE ly8 rfl cw_X8_positionOf ci_X8_positionOf wd1947 cs_X8_positionOf ce_X8_positionOf cd_X8_positionOf (by decide) (by decide) (Nat.le_of_ble_eq_true rfl) dX8_rankOf_2 rfl) (fun v1 _ => ?_)
  refine lx_istore_n hC dX8_rankOf_5 rfl (by decide) ?_
  refine lx_iconstv (v := 0) hC dX8_rankOf_6 rfl ?_
  refine lx_istore_n hC dX8_rankOf_7 rfl (by decide) ?_
  refine lx_sub [2, 3, 1, 0] rfl ?_
  exact lq_lp (lv := fun a => [(0, .ref 8), (1, .int p0), (2, .int a.1), (3, .int a.2)]) (st := fun _ => []) (fun kf hq a => l_X8_rankOf_b8 hC hE hl hx hr p0 s kf hq a.1 a.2) FUEL (v1, 0)
set_option maxRecDepth 100000 in
set_option maxHeartbeats 2000000 in
theorem l_X8_idByRank_b7 {X : Cx} {V : Vx} {A : Nat → Prop} {adV : Nat → Nat} {c0 s0 : Nat} (hC : Cok X V A yX8_idByRank.cls cX8_idByRank 3) (hE : Env0 V adV A (xs X) (xs X).heap) (hl : (xl X).stackTraces = false) (hx : ∀ x ∈ (xc X).exceptionTable.toList, False) (hr : (xh X).sig.returnType = some .int) (x2 : Int32) (s : Mem) (kf7 : Int32 → Res Int32) (hk7 : ∀ a, LX X V A 33 568 c0 s0 (FM X V A (fun x => some (.int x))) 7 [(0, .ref 8), (1, .int x2), (2, .int a)] [] s (kf7 a)) (w2 : Int32) : LX X V A 33 568 c0 s0 (FM X V A (fun x => some (.int x))) 7 [(0, .ref 8), (1, .int x2), (2, .int w2)] [] s (m_X8_idByRank_b7 x2 s kf7 w2 ) := by
  unfold m_X8_idByRank_b7
  refine lx_iload_n hC dX8_idByRank_7 rfl 2 rfl ?_
  refine lx_aload_n hC dX8_idByRank_8 rfl 0 rfl ?_
  refine lx_getR (q := 136) hC ly8 rfl 1 (by decide) rfl rfl inX8 wd1606 dX8_idByRank_9 ?_
  refine lx_iconstv (v := 1) hC dX8_idByRank_12 rfl ?_
  refine lx_iaload hC ly136 dX8_idByRank_13 ?_
  refine lx_icmp_ge hC 39 dX8_idByRank_14 (by decide) ?_ ?_
  · skip
    refine lx_aload_n hC dX8_idByRank_39 rfl 0 rfl ?_
    refine lx_iconstv (v := 1) hC dX8_idByRank_40 rfl ?_
    refine lx_callX hC hx (sat_X8_fails (xl X) hl 1 s) (run_V (as := [.int 1]) (rest := []) hC hE ly8 rfl cw_X8_fails ci_X8_fails wd1676 cs_X8_fails ce_X8_fails cd_X8_fails (by decide) (by decide) (Nat.le_of_ble_eq_true rfl) dX8_idByRank_41 rfl) (fun v3 s4 _ => ?_)
    exact lx_iret hC rfl hr dX8_idByRank_44
  · skip
    refine lx_aload_n hC dX8_idByRank_17 rfl 0 rfl ?_
    refine lx_iload_n hC dX8_idByRank_18 rfl 2 rfl ?_
    refine lx_callP hC hx (sat_X8_rankOf (xl X) hl w2 s) (run_V (as := [.int w2]) (rest := []) hC hE ly8 rfl cw_X8_rankOf ci_X8_rankOf wd1993 cs_X8_rankOf ce_X8_rankOf cd_X8_rankOf (by decide) (by decide) (Nat.le_of_ble_eq_true rfl) dX8_idByRank_19 rfl) (fun v5 _ => ?_)
    refine lx_iload_n hC dX8_idByRank_22 rfl 1 rfl ?_
    refine lx_icmp_ne hC 33 dX8_idByRank_23 (by decide) ?_ ?_
    · skip
      refine lx_iincN (v := 1) hC dX8_idByRank_33 2 rfl (by decide) rfl (fun y6 => ?_)
      refine lx_goto hC 7 dX8_idByRank_36 (by decide) ?_
      exact lx_sub [1, 2, 0] rfl (hk7 y6)
    · skip
      refine lx_aload_n hC dX8_idByRank_26 rfl 0 rfl ?_
      refine lx_iload_n hC dX8_idByRank_27 rfl 2 rfl ?_
      refine lx_iconstv (v := 0) hC dX8_idByRank_28 rfl ?_
      refine lx_callP hC hx (sat_X8_is (xl X) hl w2 0 s) (run_V (as := [.int w2, .int 0]) (rest := []) hC hE ly8 rfl cw_X8_is ci_X8_is wd1740 cs_X8_is ce_X8_is cd_X8_is (by decide) (by decide) (Nat.le_of_ble_eq_true rfl) dX8_idByRank_29 rfl) (fun v7 _ => ?_)
      exact lx_iret hC rfl hr dX8_idByRank_32
set_option maxRecDepth 100000 in
set_option maxHeartbeats 2000000 in
theorem n_X8_idByRank_b7 (x2 : Int32) (s : Mem) (kf7 : Int32 → Res Int32) (hm7 : ∀ a, Mn s (kf7 a)) (w2 : Int32) : Mn s (m_X8_idByRank_b7 x2 s kf7 w2 ) := by
  unfold m_X8_idByRank_b7
  refine mn_if ?_ mn_none
  refine mn_if ?_ ?_
  · skip
    refine mn_bind (n_X8_fails 1 s) (fun v3 s4 => ?_)
    exact mn_some
  · skip
    refine mn_bindP (fun v5 => ?_)
    refine mn_if ?_ ?_
    · skip
      refine mn_vl (fun y6 => ?_)
      exact hm7 y6
    · skip
      refine mn_bindP (fun v7 => ?_)
      exact mn_some
set_option maxRecDepth 100000 in
set_option maxHeartbeats 2000000 in
theorem n_X8_idByRank (p0 : Int32) (s : Mem) : Mn s (m_X8_idByRank p0 s) := by
  unfold m_X8_idByRank
  refine mn_put (fun s1 => ?_)
  exact mn_lp (sg := fun a => s1) (fun kf hq a => n_X8_idByRank_b7 p0 s1 kf hq a) FUEL 0
set_option maxRecDepth 100000 in
set_option maxHeartbeats 2000000 in
theorem sat_X8_idByRank (l : Launch) (hl : l.stackTraces = false) (p0 : Int32) (s : Mem) : Sat l yX8_idByRank (.code yX8_idByRank cX8_idByRank 3 (some .int)) 33 568 (fun x => some (.int x)) [.ref 8, .int p0] s (m_X8_idByRank p0 s) := by
  refine sat_of hl (by decide) (Nat.le_of_ble_eq_true rfl) (fun X V A adV hxl hC hE hx hr => ?_) (n_X8_idByRank p0 s)
  subst hxl
  show LX X V A 33 568 (nC s) (nS s) _ 0 [(0, .ref 8), (1, .int p0)] [] s _
  unfold m_X8_idByRank
  refine lx_aload_n hC dX8_idByRank_0 rfl 0 rfl ?_
  refine lx_iconstv (v := 0) hC dX8_idByRank_1 rfl ?_
  refine lx_putI hC ly8 rfl 0 (by decide) rfl tyX8 tyX8_ok nmX8 rfl rfl rfl inX8 wd1605 dX8_idByRank_2 (fun s1 => ?_)
  refine lx_iconstv (v := 0) hC dX8_idByRank_5 rfl ?_
  refine lx_istore_n hC dX8_idByRank_6 rfl (by decide) ?_
  refine lx_sub [1, 2, 0] rfl ?_
  exact lx_lp (lv := fun a => [(0, .ref 8), (1, .int p0), (2, .int a)]) (st := fun _ => []) (sg := fun a => s1) (fun kf hq a => l_X8_idByRank_b7 hC hE hl hx hr p0 s1 kf hq a) FUEL 0
set_option maxRecDepth 100000 in
set_option maxHeartbeats 2000000 in
theorem n_X8_idByRankByTree (p0 : Int32) (s : Mem) : Mn s (m_X8_idByRankByTree p0 s) := by
  unfold m_X8_idByRankByTree
  refine mn_bind (n_X8_idByRank p0 s) (fun v1 s2 => ?_)
  exact mn_some
set_option maxRecDepth 100000 in
set_option maxHeartbeats 2000000 in
theorem sat_X8_idByRankByTree (l : Launch) (hl : l.stackTraces = false) (p0 : Int32) (s : Mem) : Sat l yX8_idByRankByTree (.code yX8_idByRankByTree cX8_idByRankByTree 2 (some .int)) 34 590 (fun x => some (.int x)) [.ref 8, .int p0] s (m_X8_idByRankByTree p0 s) := by
  refine sat_of hl (by decide) (Nat.le_of_ble_eq_true rfl) (fun X V A adV hxl hC hE hx hr => ?_) (n_X8_idByRankByTree p0 s)
  subst hxl
  show LX X V A 34 590 (nC s) (nS s) _ 0 [(0, .ref 8), (1, .int p0)] [] s _
  unfold m_X8_idByRankByTree
  refine lx_aload_n hC dX8_idByRankByTree_0 rfl 0 rfl ?_
  refine lx_iload_n hC dX8_idByRankByTree_1 rfl 1 rfl ?_
  refine lx_callX hC hx (sat_X8_idByRank (xl X) hl p0 s) (run_V (as := [.int p0]) (rest := []) hC hE ly8 rfl cw_X8_idByRank ci_X8_idByRank wd2001 cs_X8_idByRank ce_X8_idByRank cd_X8_idByRank (by decide) (by decide) (Nat.le_of_ble_eq_true rfl) dX8_idByRankByTree_2 rfl) (fun v1 s2 _ => ?_)
  exact lx_iret hC rfl hr dX8_idByRankByTree_5
set_option maxRecDepth 100000 in
set_option maxHeartbeats 2000000 in
theorem n_X8_rank (p0 : Int32) (s : Mem) : Mn s (m_X8_rank p0 s) := by
  unfold m_X8_rank
  refine mn_put (fun s1 => ?_)
  refine mn_bindP (fun v2 => ?_)
  refine mn_if ?_ ?_
  · skip
    refine mn_bindP (fun v3 => ?_)
    refine mn_bindP (fun v4 => ?_)
    exact mn_some
  · skip
    refine mn_bind (n_X8_fails 1 s1) (fun v5 s6 => ?_)
    exact mn_some
set_option maxRecDepth 100000 in
set_option maxHeartbeats 2000000 in
theorem sat_X8_rank (l : Launch) (hl : l.stackTraces = false) (p0 : Int32) (s : Mem) : Sat l yX8_rank (.code yX8_rank cX8_rank 2 (some .int)) 33 568 (fun x => some (.int x)) [.ref 8, .int p0] s (m_X8_rank p0 s) := by
  refine sat_of hl (by decide) (Nat.le_of_ble_eq_true rfl) (fun X V A adV hxl hC hE hx hr => ?_) (n_X8_rank p0 s)
  subst hxl
  show LX X V A 33 568 (nC s) (nS s) _ 0 [(0, .ref 8), (1, .int p0)] [] s _
  unfold m_X8_rank
  refine lx_aload_n hC dX8_rank_0 rfl 0 rfl ?_
  refine lx_iconstv (v := 0) hC dX8_rank_1 rfl ?_
  refine lx_putI hC ly8 rfl 0 (by decide) rfl tyX8 tyX8_ok nmX8 rfl rfl rfl inX8 wd1605 dX8_rank_2 (fun s1 => ?_)
  refine lx_aload_n hC dX8_rank_5 rfl 0 rfl ?_
  refine lx_iload_n hC dX8_rank_6 rfl 1 rfl ?_
  refine lx_callP hC hx (sat_X8_slotOf (xl X) hl p0 s1) (run_V (as := [.int p0]) (rest := []) hC hE ly8 rfl cw_X8_slotOf ci_X8_slotOf wd1768 cs_X8_slotOf ce_X8_slotOf cd_X8_slotOf (by decide) (by decide) (Nat.le_of_ble_eq_true rfl) dX8_rank_7 rfl) (fun v2 _ => ?_)
  refine lx_if_ge hC 21 dX8_rank_10 (by decide) ?_ ?_
  · skip
    refine lx_aload_n hC dX8_rank_21 rfl 0 rfl ?_
    refine lx_aload_n hC dX8_rank_22 rfl 0 rfl ?_
    refine lx_iload_n hC dX8_rank_23 rfl 1 rfl ?_
    refine lx_callP hC hx (sat_X8_slotOf (xl X) hl p0 s1) (run_V (as := [.int p0]) (rest := [.ref 8]) hC hE ly8 rfl cw_X8_slotOf ci_X8_slotOf wd1768 cs_X8_slotOf ce_X8_slotOf cd_X8_slotOf (by decide) (by decide) (Nat.le_of_ble_eq_true rfl) dX8_rank_24 rfl) (fun v3 _ => ?_)
    refine lx_callP hC hx (sat_X8_rankOf (xl X) hl v3 s1) (run_V (as := [.int v3]) (rest := []) hC hE ly8 rfl cw_X8_rankOf ci_X8_rankOf wd1993 cs_X8_rankOf ce_X8_rankOf cd_X8_rankOf (by decide) (by decide) (Nat.le_of_ble_eq_true rfl) dX8_rank_27 rfl) (fun v4 _ => ?_)
    exact lx_iret hC rfl hr dX8_rank_30
  · skip
    refine lx_aload_n hC dX8_rank_13 rfl 0 rfl ?_
    refine lx_iconstv (v := 1) hC dX8_rank_14 rfl ?_
    refine lx_callX hC hx (sat_X8_fails (xl X) hl 1 s1) (run_V (as := [.int 1]) (rest := []) hC hE ly8 rfl cw_X8_fails ci_X8_fails wd1676 cs_X8_fails ce_X8_fails cd_X8_fails (by decide) (by decide) (Nat.le_of_ble_eq_true rfl) dX8_rank_15 rfl) (fun v5 s6 _ => ?_)
    refine lx_goto hC 30 dX8_rank_18 (by decide) ?_
    exact lx_iret hC rfl hr dX8_rank_30
set_option maxRecDepth 100000 in
set_option maxHeartbeats 2000000 in
theorem n_X8_loudest (s : Mem) : Mn s (m_X8_loudest s) := by
  unfold m_X8_loudest
  refine mn_put (fun s1 => ?_)
  refine mn_bindP (fun v2 => ?_)
  refine mn_if ?_ ?_
  · skip
    refine mn_bindP (fun v3 => ?_)
    exact mn_some
  · skip
    refine mn_bind (n_X8_fails 1 s1) (fun v4 s5 => ?_)
    exact mn_some
set_option maxRecDepth 100000 in
set_option maxHeartbeats 2000000 in
theorem sat_X8_loudest (l : Launch) (hl : l.stackTraces = false) (s : Mem) : Sat l yX8_loudest (.code yX8_loudest cX8_loudest 2 (some .int)) 32 546 (fun x => some (.int x)) [.ref 8] s (m_X8_loudest s) := by
  refine sat_of hl (by decide) (Nat.le_of_ble_eq_true rfl) (fun X V A adV hxl hC hE hx hr => ?_) (n_X8_loudest s)
  subst hxl
  show LX X V A 32 546 (nC s) (nS s) _ 0 [(0, .ref 8)] [] s _
  unfold m_X8_loudest
  refine lx_aload_n hC dX8_loudest_0 rfl 0 rfl ?_
  refine lx_iconstv (v := 0) hC dX8_loudest_1 rfl ?_
  refine lx_putI hC ly8 rfl 0 (by decide) rfl tyX8 tyX8_ok nmX8 rfl rfl rfl inX8 wd1605 dX8_loudest_2 (fun s1 => ?_)
  refine lx_aload_n hC dX8_loudest_5 rfl 0 rfl ?_
  refine lx_iconstv (v := (-1)) hC dX8_loudest_6 rfl ?_
  refine lx_callP hC hx (sat_X8_loudestIn (xl X) hl (-1) s1) (run_V (as := [.int (-1)]) (rest := []) hC hE ly8 rfl cw_X8_loudestIn ci_X8_loudestIn wd1875 cs_X8_loudestIn ce_X8_loudestIn cd_X8_loudestIn (by decide) (by decide) (Nat.le_of_ble_eq_true rfl) dX8_loudest_7 rfl) (fun v2 _ => ?_)
  refine lx_istore_n hC dX8_loudest_10 rfl (by decide) ?_
  refine lx_iload_n hC dX8_loudest_11 rfl 0 rfl ?_
  refine lx_if_ge hC 23 dX8_loudest_12 (by decide) ?_ ?_
  · skip
    refine lx_aload_n hC dX8_loudest_23 rfl 1 rfl ?_
    refine lx_iload_n hC dX8_loudest_24 rfl 0 rfl ?_
    refine lx_iconstv (v := 0) hC dX8_loudest_25 rfl ?_
    refine lx_callP hC hx (sat_X8_is (xl X) hl v2 0 s1) (run_V (as := [.int v2, .int 0]) (rest := []) hC hE ly8 rfl cw_X8_is ci_X8_is wd1740 cs_X8_is ce_X8_is cd_X8_is (by decide) (by decide) (Nat.le_of_ble_eq_true rfl) dX8_loudest_26 rfl) (fun v3 _ => ?_)
    exact lx_iret hC rfl hr dX8_loudest_29
  · skip
    refine lx_aload_n hC dX8_loudest_15 rfl 1 rfl ?_
    refine lx_iconstv (v := 1) hC dX8_loudest_16 rfl ?_
    refine lx_callX hC hx (sat_X8_fails (xl X) hl 1 s1) (run_V (as := [.int 1]) (rest := []) hC hE ly8 rfl cw_X8_fails ci_X8_fails wd1676 cs_X8_fails ce_X8_fails cd_X8_fails (by decide) (by decide) (Nat.le_of_ble_eq_true rfl) dX8_loudest_17 rfl) (fun v4 s5 _ => ?_)
    refine lx_goto hC 29 dX8_loudest_20 (by decide) ?_
    exact lx_iret hC rfl hr dX8_loudest_29
set_option maxRecDepth 100000 in
set_option maxHeartbeats 2000000 in
theorem l_X8_quietestRow_b24 {X : Cx} {V : Vx} {A : Nat → Prop} {adV : Nat → Nat} {c0 s0 : Nat} (hC : Cok X V A yX8_quietestRow.cls cX8_quietestRow 3) (hE : Env0 V adV A (xs X) (xs X).heap) (hl : (xl X).stackTraces = false) (hx : ∀ x ∈ (xc X).exceptionTable.toList, False) (hr : (xh X).sig.returnType = some .int) (s : Mem) (kf24 : (Int32 × Int32) → Res Int32) (hk24 : ∀ a, LX X V A 32 545 c0 s0 (FM X V A (fun x => some (.int x))) 24 [(0, .ref 8), (1, .int a.1), (2, .int a.2)] [] s (kf24 a)) (w1 : Int32) (w2 : Int32) : LX X V A 32 545 c0 s0 (FM X V A (fun x => some (.int x))) 24 [(0, .ref 8), (1, .int w1), (2, .int w2)] [] s (m_X8_quietestRow_b24 s kf24 w1 w2 ) := by
  unfold m_X8_quietestRow_b24
  refine lx_iload_n hC dX8_quietestRow_24 rfl 2 rfl ?_
  refine lx_aload_n hC dX8_quietestRow_25 rfl 0 rfl ?_
  refine lx_getR (q := 136) hC ly8 rfl 1 (by decide) rfl rfl inX8 wd1606 dX8_quietestRow_26 ?_
  refine lx_iconstv (v := 0) hC dX8_quietestRow_29 rfl ?_
  refine lx_iaload hC ly136 dX8_quietestRow_30 ?_
  refine lx_icmp_ge hC 59 dX8_quietestRow_31 (by decide) ?_ ?_
  · skip
    refine lx_iload_n hC dX8_quietestRow_59 rfl 1 rfl ?_
    exact lx_iret hC rfl hr dX8_quietestRow_60
  · skip
    refine lx_aload_n hC dX8_quietestRow_34 rfl 0 rfl ?_
    refine lx_iload_n hC dX8_quietestRow_35 rfl 2 rfl ?_
    refine lx_callP hC hx (sat_X8_loudnessIn (xl X) hl w2 s) (run_V (as := [.int w2]) (rest := []) hC hE ly8 rfl cw_X8_loudnessIn ci_X8_loudnessIn wd1903 cs_X8_loudnessIn ce_X8_loudnessIn cd_X8_loudnessIn (by decide) (by decide) (Nat.le_of_ble_eq_true rfl) dX8_quietestRow_36 rfl) (fun v2 _ => ?_)
    refine lx_aload_n hC dX8_quietestRow_39 rfl 0 rfl ?_
    refine lx_iload_n hC dX8_quietestRow_40 rfl 1 rfl ?_
    refine lx_callP hC hx (sat_X8_loudnessIn (xl X) hl w1 s) (run_V (as := [.int w1]) (rest := [.int v2]) hC hE ly8 rfl cw_X8_loudnessIn ci_X8_loudnessIn wd1903 cs_X8_loudnessIn ce_X8_loudnessIn cd_X8_loudnessIn (by decide) (by decide) (Nat.le_of_ble_eq_true rfl) dX8_quietestRow_41 rfl) (fun v3 _ => ?_)
    refine lx_icmp_ge hC 51 dX8_quietestRow_44 (by decide) ?_ ?_
    · skip
      refine lx_iload_n hC dX8_quietestRow_51 rfl 1 rfl ?_
      refine lx_istore_n hC dX8_quietestRow_52 rfl (by decide) ?_
      refine lx_iincN (v := 1) hC dX8_quietestRow_53 2 rfl (by decide) rfl (fun y4 => ?_)
      refine lx_goto hC 24 dX8_quietestRow_56 (by decide) ?_
      exact lx_sub [2, 1, 0] rfl (hk24 (w1, y4))
    · skip
      refine lx_iload_n hC dX8_quietestRow_47 rfl 2 rfl ?_
      refine lx_goto hC 52 dX8_quietestRow_48 (by decide) ?_
      refine lx_istore_n hC dX8_quietestRow_52 rfl (by decide) ?_
      refine lx_iincN (v := 1) hC dX8_quietestRow_53 2 rfl (by decide) rfl (fun y5 => ?_)
      refine lx_goto hC 24 dX8_quietestRow_56 (by decide) ?_
      exact lx_sub [2, 1, 0] rfl (hk24 (w2, y5))
set_option maxRecDepth 100000 in
set_option maxHeartbeats 2000000 in
theorem n_X8_quietestRow_b24 (s : Mem) (kf24 : (Int32 × Int32) → Res Int32) (hm24 : ∀ a, Mn s (kf24 a)) (w1 : Int32) (w2 : Int32) : Mn s (m_X8_quietestRow_b24 s kf24 w1 w2 ) := by
  unfold m_X8_quietestRow_b24
  refine mn_if ?_ mn_none
  refine mn_if ?_ ?_
  · skip
    exact mn_some
  · skip
    refine mn_bindP (fun v2 => ?_)
    refine mn_bindP (fun v3 => ?_)
    refine mn_if ?_ ?_
    · skip
      refine mn_vl (fun y4 => ?_)
      exact hm24 (w1, y4)
    · skip
      refine mn_vl (fun y5 => ?_)
      exact hm24 (w2, y5)
set_option maxRecDepth 100000 in
set_option maxHeartbeats 2000000 in
theorem n_X8_quietestRow (s : Mem) : Mn s (m_X8_quietestRow s) := by
  unfold m_X8_quietestRow
  refine mn_put (fun s1 => ?_)
  refine mn_if ?_ mn_none
  refine mn_if ?_ ?_
  · skip
    exact mn_lp (sg := fun a => s1) (fun kf hq a => n_X8_quietestRow_b24 s1 kf hq a.1 a.2) FUEL (0, 1)
  · skip
    refine mn_bind (n_X8_fails 1 s1) (fun v6 s7 => ?_)
    exact mn_some
set_option maxRecDepth 100000 in
set_option maxHeartbeats 2000000 in
theorem sat_X8_quietestRow (l : Launch) (hl : l.stackTraces = false) (s : Mem) : Sat l yX8_quietestRow (.code yX8_quietestRow cX8_quietestRow 3 (some .int)) 32 545 (fun x => some (.int x)) [.ref 8] s (m_X8_quietestRow s) := by
  refine sat_of hl (by decide) (Nat.le_of_ble_eq_true rfl) (fun X V A adV hxl hC hE hx hr => ?_) (n_X8_quietestRow s)
  subst hxl
  show LX X V A 32 545 (nC s) (nS s) _ 0 [(0, .ref 8)] [] s _
  unfold m_X8_quietestRow
  refine lx_aload_n hC dX8_quietestRow_0 rfl 0 rfl ?_
  refine lx_iconstv (v := 0) hC dX8_quietestRow_1 rfl ?_
  refine lx_putI hC ly8 rfl 0 (by decide) rfl tyX8 tyX8_ok nmX8 rfl rfl rfl inX8 wd1605 dX8_quietestRow_2 (fun s1 => ?_)
  refine lx_aload_n hC dX8_quietestRow_5 rfl 0 rfl ?_
  refine lx_getR (q := 136) hC ly8 rfl 1 (by decide) rfl rfl inX8 wd1606 dX8_quietestRow_6 ?_
  refine lx_iconstv (v := 0) hC dX8_quietestRow_9 rfl ?_
  refine lx_iaload hC ly136 dX8_quietestRow_10 ?_
  refine lx_if_ne hC 20 dX8_quietestRow_11 (by decide) ?_ ?_
  · skip
    refine lx_iconstv (v := 0) hC dX8_quietestRow_20 rfl ?_
    refine lx_istore_n hC dX8_quietestRow_21 rfl (by decide) ?_
    refine lx_iconstv (v := 1) hC dX8_quietestRow_22 rfl ?_
    refine lx_istore_n hC dX8_quietestRow_23 rfl (by decide) ?_
    refine lx_sub [2, 1, 0] rfl ?_
    exact lx_lp (lv := fun a => [(0, .ref 8), (1, .int a.1), (2, .int a.2)]) (st := fun _ => []) (sg := fun a => s1) (fun kf hq a => l_X8_quietestRow_b24 hC hE hl hx hr s1 kf hq a.1 a.2) FUEL (0, 1)
  · skip
    refine lx_aload_n hC dX8_quietestRow_14 rfl 0 rfl ?_
    refine lx_iconstv (v := 1) hC dX8_quietestRow_15 rfl ?_
    refine lx_callX hC hx (sat_X8_fails (xl X) hl 1 s1) (run_V (as := [.int 1]) (rest := []) hC hE ly8 rfl cw_X8_fails ci_X8_fails wd1676 cs_X8_fails ce_X8_fails cd_X8_fails (by decide) (by decide) (Nat.le_of_ble_eq_true rfl) dX8_quietestRow_16 rfl) (fun v6 s7 _ => ?_)
    exact lx_iret hC rfl hr dX8_quietestRow_19
set_option maxRecDepth 100000 in
set_option maxHeartbeats 2000000 in
theorem n_X8_isNamed (p0 : Int32) (s : Mem) : Mn s (m_X8_isNamed p0 s) := by
  unfold m_X8_isNamed
  refine mn_put (fun s1 => ?_)
  refine mn_bindP (fun v2 => ?_)
  refine mn_if ?_ ?_
  · skip
    refine mn_if ?_ mn_none
    refine mn_if ?_ ?_
    · skip
      exact mn_some
    · skip
      exact mn_some
  · skip
    refine mn_bind (n_X8_fails 1 s1) (fun v3 s4 => ?_)
    refine mn_if ?_ ?_
    · skip
      exact mn_some
    · skip
      exact mn_some
set_option maxRecDepth 100000 in
set_option maxHeartbeats 2000000 in
theorem sat_X8_isNamed (l : Launch) (hl : l.stackTraces = false) (p0 : Int32) (s : Mem) : Sat l yX8_isNamed (.code yX8_isNamed cX8_isNamed 2 (some .boolean)) 32 542 (fun x => some (.int x)) [.ref 8, .int p0] s (m_X8_isNamed p0 s) := by
  refine sat_of hl (by decide) (Nat.le_of_ble_eq_true rfl) (fun X V A adV hxl hC hE hx hr => ?_) (n_X8_isNamed p0 s)
  subst hxl
  show LX X V A 32 542 (nC s) (nS s) _ 0 [(0, .ref 8), (1, .int p0)] [] s _
  unfold m_X8_isNamed
  refine lx_aload_n hC dX8_isNamed_0 rfl 0 rfl ?_
  refine lx_iconstv (v := 0) hC dX8_isNamed_1 rfl ?_
  refine lx_putI hC ly8 rfl 0 (by decide) rfl tyX8 tyX8_ok nmX8 rfl rfl rfl inX8 wd1605 dX8_isNamed_2 (fun s1 => ?_)
  refine lx_iload_n hC dX8_isNamed_5 rfl 1 rfl ?_
  refine lx_callP hC hx (sat_X8_isBox (xl X) hl p0 s1) (run_S (as := [.int p0]) (rest := []) hC hE cw_X8_isBox ci_X8_isBox wd1848 cs_X8_isBox cd_X8_isBox (by decide) (by decide) (Nat.le_of_ble_eq_true rfl) dX8_isNamed_6 rfl) (fun v2 _ => ?_)
  refine lx_if_ne hC 26 dX8_isNamed_9 (by decide) ?_ ?_
  · skip
    refine lx_aload_n hC dX8_isNamed_26 rfl 0 rfl ?_
    refine lx_getR (q := 136) hC ly8 rfl 1 (by decide) rfl rfl inX8 wd1606 dX8_isNamed_27 ?_
    refine lx_bipush (v := 7) hC dX8_isNamed_30 (by decide) ?_
    refine lx_iload_n hC dX8_isNamed_32 rfl 1 rfl ?_
    refine lx_iadd hC dX8_isNamed_33 ?_
    refine lx_bipush (v := 97) hC dX8_isNamed_34 (by decide) ?_
    refine lx_isub hC dX8_isNamed_36 ?_
    refine lx_iaload hC ly136 dX8_isNamed_37 ?_
    refine lx_if_le hC 45 dX8_isNamed_38 (by decide) ?_ ?_
    · skip
      refine lx_iconstv (v := 0) hC dX8_isNamed_45 rfl ?_
      exact lx_zret hC rfl hr rfl dX8_isNamed_46
    · skip
      refine lx_iconstv (v := 1) hC dX8_isNamed_41 rfl ?_
      refine lx_goto hC 46 dX8_isNamed_42 (by decide) ?_
      exact lx_zret hC rfl hr rfl dX8_isNamed_46
  · skip
    refine lx_aload_n hC dX8_isNamed_12 rfl 0 rfl ?_
    refine lx_iconstv (v := 1) hC dX8_isNamed_13 rfl ?_
    refine lx_callX hC hx (sat_X8_fails (xl X) hl 1 s1) (run_V (as := [.int 1]) (rest := []) hC hE ly8 rfl cw_X8_fails ci_X8_fails wd1676 cs_X8_fails ce_X8_fails cd_X8_fails (by decide) (by decide) (Nat.le_of_ble_eq_true rfl) dX8_isNamed_14 rfl) (fun v3 s4 _ => ?_)
    refine lx_if_le hC 24 dX8_isNamed_17 (by decide) ?_ ?_
    · skip
      refine lx_iconstv (v := 0) hC dX8_isNamed_24 rfl ?_
      exact lx_zret hC rfl hr rfl dX8_isNamed_25
    · skip
      refine lx_iconstv (v := 1) hC dX8_isNamed_20 rfl ?_
      refine lx_goto hC 25 dX8_isNamed_21 (by decide) ?_
      exact lx_zret hC rfl hr rfl dX8_isNamed_25
set_option maxRecDepth 100000 in
set_option maxHeartbeats 2000000 in
theorem n_X8_namedRow (p0 : Int32) (s : Mem) : Mn s (m_X8_namedRow p0 s) := by
  unfold m_X8_namedRow
  refine mn_put (fun s1 => ?_)
  refine mn_bindP (fun v2 => ?_)
  refine mn_if ?_ ?_
  · skip
    refine mn_if ?_ mn_none
    refine mn_vl (fun y3 => ?_)
    refine mn_if ?_ ?_
    · skip
      exact mn_some
    · skip
      refine mn_bind (n_X8_fails 2 s1) (fun v4 s5 => ?_)
      exact mn_some
  · skip
    refine mn_bind (n_X8_fails 1 s1) (fun v6 s7 => ?_)
    exact mn_some
set_option maxRecDepth 100000 in
set_option maxHeartbeats 2000000 in
theorem sat_X8_namedRow (l : Launch) (hl : l.stackTraces = false) (p0 : Int32) (s : Mem) : Sat l yX8_namedRow (.code yX8_namedRow cX8_namedRow 3 (some .int)) 32 542 (fun x => some (.int x)) [.ref 8, .int p0] s (m_X8_namedRow p0 s) := by
  refine sat_of hl (by decide) (Nat.le_of_ble_eq_true rfl) (fun X V A adV hxl hC hE hx hr => ?_) (n_X8_namedRow p0 s)
  subst hxl
  show LX X V A 32 542 (nC s) (nS s) _ 0 [(0, .ref 8), (1, .int p0)] [] s _
  unfold m_X8_namedRow
  refine lx_aload_n hC dX8_namedRow_0 rfl 0 rfl ?_
  refine lx_iconstv (v := 0) hC dX8_namedRow_1 rfl ?_
  refine lx_putI hC ly8 rfl 0 (by decide) rfl tyX8 tyX8_ok nmX8 rfl rfl rfl inX8 wd1605 dX8_namedRow_2 (fun s1 => ?_)
  refine lx_iload_n hC dX8_namedRow_5 rfl 1 rfl ?_
  refine lx_callP hC hx (sat_X8_isBox (xl X) hl p0 s1) (run_S (as := [.int p0]) (rest := []) hC hE cw_X8_isBox ci_X8_isBox wd1848 cs_X8_isBox cd_X8_isBox (by decide) (by decide) (Nat.le_of_ble_eq_true rfl) dX8_namedRow_6 rfl) (fun v2 _ => ?_)
  refine lx_if_ne hC 18 dX8_namedRow_9 (by decide) ?_ ?_
  · skip
    refine lx_aload_n hC dX8_namedRow_18 rfl 0 rfl ?_
    refine lx_getR (q := 136) hC ly8 rfl 1 (by decide) rfl rfl inX8 wd1606 dX8_namedRow_19 ?_
    refine lx_bipush (v := 7) hC dX8_namedRow_22 (by decide) ?_
    refine lx_iload_n hC dX8_namedRow_24 rfl 1 rfl ?_
    refine lx_iadd hC dX8_namedRow_25 ?_
    refine lx_bipush (v := 97) hC dX8_namedRow_26 (by decide) ?_
    refine lx_isub hC dX8_namedRow_28 ?_
    refine lx_iaload hC ly136 dX8_namedRow_29 ?_
    refine lx_istore_nN hC dX8_namedRow_30 rfl (by decide) (fun y3 => ?_)
    refine lx_iload_n hC dX8_namedRow_31 rfl 0 rfl ?_
    refine lx_if_ne hC 43 dX8_namedRow_32 (by decide) ?_ ?_
    · skip
      refine lx_iload_n hC dX8_namedRow_43 rfl 0 rfl ?_
      refine lx_iconstv (v := 1) hC dX8_namedRow_44 rfl ?_
      refine lx_isub hC dX8_namedRow_45 ?_
      exact lx_iret hC rfl hr dX8_namedRow_46
    · skip
      refine lx_aload_n hC dX8_namedRow_35 rfl 1 rfl ?_
      refine lx_iconstv (v := 2) hC dX8_namedRow_36 rfl ?_
      refine lx_callX hC hx (sat_X8_fails (xl X) hl 2 s1) (run_V (as := [.int 2]) (rest := []) hC hE ly8 rfl cw_X8_fails ci_X8_fails wd1676 cs_X8_fails ce_X8_fails cd_X8_fails (by decide) (by decide) (Nat.le_of_ble_eq_true rfl) dX8_namedRow_37 rfl) (fun v4 s5 _ => ?_)
      refine lx_goto hC 46 dX8_namedRow_40 (by decide) ?_
      exact lx_iret hC rfl hr dX8_namedRow_46
  · skip
    refine lx_aload_n hC dX8_namedRow_12 rfl 0 rfl ?_
    refine lx_iconstv (v := 1) hC dX8_namedRow_13 rfl ?_
    refine lx_callX hC hx (sat_X8_fails (xl X) hl 1 s1) (run_V (as := [.int 1]) (rest := []) hC hE ly8 rfl cw_X8_fails ci_X8_fails wd1676 cs_X8_fails ce_X8_fails cd_X8_fails (by decide) (by decide) (Nat.le_of_ble_eq_true rfl) dX8_namedRow_14 rfl) (fun v6 s7 _ => ?_)
    exact lx_iret hC rfl hr dX8_namedRow_17
set_option maxRecDepth 100000 in
set_option maxHeartbeats 2000000 in
theorem l_X8_boxCount_b23 {X : Cx} {V : Vx} {A : Nat → Prop} {adV : Nat → Nat} {c0 s0 : Nat} (hC : Cok X V A yX8_boxCount.cls cX8_boxCount 4) (hE : Env0 V adV A (xs X) (xs X).heap) (hl : (xl X).stackTraces = false) (hx : ∀ x ∈ (xc X).exceptionTable.toList, False) (hr : (xh X).sig.returnType = some .int) (x3 : Int32) (s : Mem) (kf23 : (Int32 × Int32) → Res Int32) (hk23 : ∀ a, LX X V A 32 543 c0 s0 (FM X V A (fun x => some (.int x))) 23 [(0, .ref 8), (1, .int x3), (2, .int a.1), (3, .int a.2)] [] s (kf23 a)) (w2 : Int32) (w3 : Int32) : LX X V A 32 543 c0 s0 (FM X V A (fun x => some (.int x))) 23 [(0, .ref 8), (1, .int x3), (2, .int w2), (3, .int w3)] [] s (m_X8_boxCount_b23 x3 s kf23 w2 w3 ) := by
  unfold m_X8_boxCount_b23
  refine lx_iload_n hC dX8_boxCount_23 rfl 3 rfl ?_
  refine lx_bipush (v := 8) hC dX8_boxCount_24 (by decide) ?_
  refine lx_icmp_ge hC 58 dX8_boxCount_26 (by decide) ?_ ?_
  · skip
    refine lx_iload_n hC dX8_boxCount_58 rfl 2 rfl ?_
    exact lx_iret hC rfl hr dX8_boxCount_59
  · skip
    refine lx_iload_n hC dX8_boxCount_29 rfl 2 rfl ?_
    refine lx_aload_n hC dX8_boxCount_30 rfl 0 rfl ?_
    refine lx_getR (q := 136) hC ly8 rfl 1 (by decide) rfl rfl inX8 wd1606 dX8_boxCount_31 ?_
    refine lx_bipush (v := 7) hC dX8_boxCount_34 (by decide) ?_
    refine lx_iload_n hC dX8_boxCount_36 rfl 3 rfl ?_
    refine lx_iadd hC dX8_boxCount_37 ?_
    refine lx_iaload hC ly136 dX8_boxCount_38 ?_
    refine lx_iload_n hC dX8_boxCount_39 rfl 1 rfl ?_
    refine lx_iconstv (v := 1) hC dX8_boxCount_40 rfl ?_
    refine lx_iadd hC dX8_boxCount_41 ?_
    refine lx_icmp_ne hC 49 dX8_boxCount_42 (by decide) ?_ ?_
    · skip
      refine lx_iconstv (v := 0) hC dX8_boxCount_49 rfl ?_
      refine lx_iadd hC dX8_boxCount_50 ?_
      refine lx_istore_nN hC dX8_boxCount_51 rfl (by decide) (fun y4 => ?_)
      refine lx_iincN (v := 1) hC dX8_boxCount_52 3 rfl (by decide) rfl (fun y5 => ?_)
      refine lx_goto hC 23 dX8_boxCount_55 (by decide) ?_
      exact lx_sub [2, 3, 1, 0] rfl (hk23 (y4, y5))
    · skip
      refine lx_iconstv (v := 1) hC dX8_boxCount_45 rfl ?_
      refine lx_goto hC 50 dX8_boxCount_46 (by decide) ?_
      refine lx_iadd hC dX8_boxCount_50 ?_
      refine lx_istore_nN hC dX8_boxCount_51 rfl (by decide) (fun y6 => ?_)
      refine lx_iincN (v := 1) hC dX8_boxCount_52 3 rfl (by decide) rfl (fun y7 => ?_)
      refine lx_goto hC 23 dX8_boxCount_55 (by decide) ?_
      exact lx_sub [2, 3, 1, 0] rfl (hk23 (y6, y7))
set_option maxRecDepth 100000 in
set_option maxHeartbeats 2000000 in
theorem n_X8_boxCount_b23 (x3 : Int32) (s : Mem) (kf23 : (Int32 × Int32) → Res Int32) (hm23 : ∀ a, Mn s (kf23 a)) (w2 : Int32) (w3 : Int32) : Mn s (m_X8_boxCount_b23 x3 s kf23 w2 w3 ) := by
  unfold m_X8_boxCount_b23
  refine mn_if ?_ ?_
  · skip
    exact mn_some
  · skip
    refine mn_if ?_ mn_none
    refine mn_if ?_ ?_
    · skip
      refine mn_vl (fun y4 => ?_)
      refine mn_vl (fun y5 => ?_)
      exact hm23 (y4, y5)
    · skip
      refine mn_vl (fun y6 => ?_)
      refine mn_vl (fun y7 => ?_)
      exact hm23 (y6, y7)
set_option maxRecDepth 100000 in
set_option maxHeartbeats 2000000 in
theorem n_X8_boxCount (p0 : Int32) (s : Mem) : Mn s (m_X8_boxCount p0 s) := by
  unfold m_X8_boxCount
  refine mn_put (fun s1 => ?_)
  refine mn_bindP (fun v2 => ?_)
  refine mn_if ?_ ?_
  · skip
    exact mn_lp (sg := fun a => s1) (fun kf hq a => n_X8_boxCount_b23 p0 s1 kf hq a.1 a.2) FUEL (0, 0)
  · skip
    refine mn_bind (n_X8_fails 1 s1) (fun v8 s9 => ?_)
    exact mn_some
set_option maxRecDepth 100000 in
set_option maxHeartbeats 2000000 in
theorem sat_X8_boxCount (l : Launch) (hl : l.stackTraces = false) (p0 : Int32) (s : Mem) : Sat l yX8_boxCount (.code yX8_boxCount cX8_boxCount 4 (some .int)) 32 543 (fun x => some (.int x)) [.ref 8, .int p0] s (m_X8_boxCount p0 s) := by
  refine sat_of hl (by decide) (Nat.le_of_ble_eq_true rfl) (fun X V A adV hxl hC hE hx hr => ?_) (n_X8_boxCount p0 s)
  subst hxl
  show LX X V A 32 543 (nC s) (nS s) _ 0 [(0, .ref 8), (1, .int p0)] [] s _
  unfold m_X8_boxCount
  refine lx_aload_n hC dX8_boxCount_0 rfl 0 rfl ?_
  refine lx_iconstv (v := 0) hC dX8_boxCount_1 rfl ?_
  refine lx_putI hC ly8 rfl 0 (by decide) rfl tyX8 tyX8_ok nmX8 rfl rfl rfl inX8 wd1605 dX8_boxCount_2 (fun s1 => ?_)
  refine lx_aload_n hC dX8_boxCount_5 rfl 0 rfl ?_
  refine lx_iload_n hC dX8_boxCount_6 rfl 1 rfl ?_
  refine lx_callP hC hx (sat_X8_isRow (xl X) hl p0 s1) (run_V (as := [.int p0]) (rest := []) hC hE ly8 rfl cw_X8_isRow ci_X8_isRow wd1708 cs_X8_isRow ce_X8_isRow cd_X8_isRow (by decide) (by decide) (Nat.le_of_ble_eq_true rfl) dX8_boxCount_7 rfl) (fun v2 _ => ?_)
  refine lx_if_ne hC 19 dX8_boxCount_10 (by decide) ?_ ?_
  · skip
    refine lx_iconstv (v := 0) hC dX8_boxCount_19 rfl ?_
    refine lx_istore_n hC dX8_boxCount_20 rfl (by decide) ?_
    refine lx_iconstv (v := 0) hC dX8_boxCount_21 rfl ?_
    refine lx_istore_n hC dX8_boxCount_22 rfl (by decide) ?_
    refine lx_sub [2, 3, 1, 0] rfl ?_
    exact lx_lp (lv := fun a => [(0, .ref 8), (1, .int p0), (2, .int a.1), (3, .int a.2)]) (st := fun _ => []) (sg := fun a => s1) (fun kf hq a => l_X8_boxCount_b23 hC hE hl hx hr p0 s1 kf hq a.1 a.2) FUEL (0, 0)
  · skip
    refine lx_aload_n hC dX8_boxCount_13 rfl 0 rfl ?_
    refine lx_iconstv (v := 1) hC dX8_boxCount_14 rfl ?_
    refine lx_callX hC hx (sat_X8_fails (xl X) hl 1 s1) (run_V (as := [.int 1]) (rest := []) hC hE ly8 rfl cw_X8_fails ci_X8_fails wd1676 cs_X8_fails ce_X8_fails cd_X8_fails (by decide) (by decide) (Nat.le_of_ble_eq_true rfl) dX8_boxCount_15 rfl) (fun v8 s9 _ => ?_)
    exact lx_iret hC rfl hr dX8_boxCount_18
set_option maxRecDepth 100000 in
set_option maxHeartbeats 2000000 in
theorem n_X8_moveCount (s : Mem) : Mn s (m_X8_moveCount s) := by
  unfold m_X8_moveCount
  refine mn_put (fun s1 => ?_)
  refine mn_if ?_ mn_none
  exact mn_some
set_option maxRecDepth 100000 in
set_option maxHeartbeats 2000000 in
theorem sat_X8_moveCount (l : Launch) (hl : l.stackTraces = false) (s : Mem) : Sat l yX8_moveCount (.code yX8_moveCount cX8_moveCount 1 (some .int)) 30 500 (fun x => some (.int x)) [.ref 8] s (m_X8_moveCount s) := by
  refine sat_of hl (by decide) (Nat.le_of_ble_eq_true rfl) (fun X V A adV hxl hC hE hx hr => ?_) (n_X8_moveCount s)
  subst hxl
  show LX X V A 30 500 (nC s) (nS s) _ 0 [(0, .ref 8)] [] s _
  unfold m_X8_moveCount
  refine lx_aload_n hC dX8_moveCount_0 rfl 0 rfl ?_
  refine lx_iconstv (v := 0) hC dX8_moveCount_1 rfl ?_
  refine lx_putI hC ly8 rfl 0 (by decide) rfl tyX8 tyX8_ok nmX8 rfl rfl rfl inX8 wd1605 dX8_moveCount_2 (fun s1 => ?_)
  refine lx_aload_n hC dX8_moveCount_5 rfl 0 rfl ?_
  refine lx_getR (q := 136) hC ly8 rfl 1 (by decide) rfl rfl inX8 wd1606 dX8_moveCount_6 ?_
  refine lx_iconstv (v := 3) hC dX8_moveCount_9 rfl ?_
  refine lx_iaload hC ly136 dX8_moveCount_10 ?_
  exact lx_iret hC rfl hr dX8_moveCount_11
set_option maxRecDepth 100000 in
set_option maxHeartbeats 2000000 in
theorem n_X8_removeCount (s : Mem) : Mn s (m_X8_removeCount s) := by
  unfold m_X8_removeCount
  refine mn_put (fun s1 => ?_)
  refine mn_if ?_ mn_none
  exact mn_some
set_option maxRecDepth 100000 in
set_option maxHeartbeats 2000000 in
theorem sat_X8_removeCount (l : Launch) (hl : l.stackTraces = false) (s : Mem) : Sat l yX8_removeCount (.code yX8_removeCount cX8_removeCount 1 (some .int)) 30 500 (fun x => some (.int x)) [.ref 8] s (m_X8_removeCount s) := by
  refine sat_of hl (by decide) (Nat.le_of_ble_eq_true rfl) (fun X V A adV hxl hC hE hx hr => ?_) (n_X8_removeCount s)
  subst hxl
  show LX X V A 30 500 (nC s) (nS s) _ 0 [(0, .ref 8)] [] s _
  unfold m_X8_removeCount
  refine lx_aload_n hC dX8_removeCount_0 rfl 0 rfl ?_
  refine lx_iconstv (v := 0) hC dX8_removeCount_1 rfl ?_
  refine lx_putI hC ly8 rfl 0 (by decide) rfl tyX8 tyX8_ok nmX8 rfl rfl rfl inX8 wd1605 dX8_removeCount_2 (fun s1 => ?_)
  refine lx_aload_n hC dX8_removeCount_5 rfl 0 rfl ?_
  refine lx_getR (q := 136) hC ly8 rfl 1 (by decide) rfl rfl inX8 wd1606 dX8_removeCount_6 ?_
  refine lx_iconstv (v := 4) hC dX8_removeCount_9 rfl ?_
  refine lx_iaload hC ly136 dX8_removeCount_10 ?_
  exact lx_iret hC rfl hr dX8_removeCount_11
set_option maxRecDepth 100000 in
set_option maxHeartbeats 2000000 in
theorem n_X8_addedLoudness (s : Mem) : Mn s (m_X8_addedLoudness s) := by
  unfold m_X8_addedLoudness
  refine mn_put (fun s1 => ?_)
  refine mn_if ?_ mn_none
  exact mn_some
set_option maxRecDepth 100000 in
set_option maxHeartbeats 2000000 in
theorem sat_X8_addedLoudness (l : Launch) (hl : l.stackTraces = false) (s : Mem) : Sat l yX8_addedLoudness (.code yX8_addedLoudness cX8_addedLoudness 1 (some .long)) 30 500 (fun x => some (.long x)) [.ref 8] s (m_X8_addedLoudness s) := by
  refine sat_of hl (by decide) (Nat.le_of_ble_eq_true rfl) (fun X V A adV hxl hC hE hx hr => ?_) (n_X8_addedLoudness s)
  subst hxl
  show LX X V A 30 500 (nC s) (nS s) _ 0 [(0, .ref 8)] [] s _
  unfold m_X8_addedLoudness
  refine lx_aload_n hC dX8_addedLoudness_0 rfl 0 rfl ?_
  refine lx_iconstv (v := 0) hC dX8_addedLoudness_1 rfl ?_
  refine lx_putI hC ly8 rfl 0 (by decide) rfl tyX8 tyX8_ok nmX8 rfl rfl rfl inX8 wd1605 dX8_addedLoudness_2 (fun s1 => ?_)
  refine lx_aload_n hC dX8_addedLoudness_5 rfl 0 rfl ?_
  refine lx_getR (q := 136) hC ly8 rfl 1 (by decide) rfl rfl inX8 wd1606 dX8_addedLoudness_6 ?_
  refine lx_iconstv (v := 5) hC dX8_addedLoudness_9 rfl ?_
  refine lx_iaload hC ly136 dX8_addedLoudness_10 ?_
  refine lx_i2l hC dX8_addedLoudness_11 ?_
  exact lx_lret hC rfl hr dX8_addedLoudness_12
set_option maxRecDepth 100000 in
set_option maxHeartbeats 2000000 in
theorem n_X8_lostLoudness (s : Mem) : Mn s (m_X8_lostLoudness s) := by
  unfold m_X8_lostLoudness
  refine mn_put (fun s1 => ?_)
  refine mn_if ?_ mn_none
  exact mn_some
set_option maxRecDepth 100000 in
set_option maxHeartbeats 2000000 in
theorem sat_X8_lostLoudness (l : Launch) (hl : l.stackTraces = false) (s : Mem) : Sat l yX8_lostLoudness (.code yX8_lostLoudness cX8_lostLoudness 1 (some .long)) 30 500 (fun x => some (.long x)) [.ref 8] s (m_X8_lostLoudness s) := by
  refine sat_of hl (by decide) (Nat.le_of_ble_eq_true rfl) (fun X V A adV hxl hC hE hx hr => ?_) (n_X8_lostLoudness s)
  subst hxl
  show LX X V A 30 500 (nC s) (nS s) _ 0 [(0, .ref 8)] [] s _
  unfold m_X8_lostLoudness
  refine lx_aload_n hC dX8_lostLoudness_0 rfl 0 rfl ?_
  refine lx_iconstv (v := 0) hC dX8_lostLoudness_1 rfl ?_
  refine lx_putI hC ly8 rfl 0 (by decide) rfl tyX8 tyX8_ok nmX8 rfl rfl rfl inX8 wd1605 dX8_lostLoudness_2 (fun s1 => ?_)
  refine lx_aload_n hC dX8_lostLoudness_5 rfl 0 rfl ?_
  refine lx_getR (q := 136) hC ly8 rfl 1 (by decide) rfl rfl inX8 wd1606 dX8_lostLoudness_6 ?_
  refine lx_bipush (v := 6) hC dX8_lostLoudness_9 (by decide) ?_
  refine lx_iaload hC ly136 dX8_lostLoudness_11 ?_
  refine lx_i2l hC dX8_lostLoudness_12 ?_
  exact lx_lret hC rfl hr dX8_lostLoudness_13
set_option maxRecDepth 100000 in
set_option maxHeartbeats 2000000 in
theorem l_X8_activeSum_b4 {X : Cx} {V : Vx} {A : Nat → Prop} {adV : Nat → Nat} {c0 s0 : Nat} (hC : Cok X V A yX8_activeSum.cls cX8_activeSum 3) (hE : Env0 V adV A (xs X) (xs X).heap) (hl : (xl X).stackTraces = false) (hx : ∀ x ∈ (xc X).exceptionTable.toList, False) (hr : (xh X).sig.returnType = some .int) (s : Mem) (kf4 : (Int32 × Int32) → Option Int32) (hk4 : ∀ a, LX X V A 31 522 c0 s0 (FM X V A (fun x => some (.int x))) 4 [(0, .ref 8), (1, .int a.1), (2, .int a.2)] [] s (pur s (kf4 a))) (w1 : Int32) (w2 : Int32) : LX X V A 31 522 c0 s0 (FM X V A (fun x => some (.int x))) 4 [(0, .ref 8), (1, .int w1), (2, .int w2)] [] s (pur s (m_X8_activeSum_b4 s kf4 w1 w2 )) := by
  unfold m_X8_activeSum_b4
  refine lx_iload_n hC dX8_activeSum_4 rfl 2 rfl ?_
  refine lx_aload_n hC dX8_activeSum_5 rfl 0 rfl ?_
  refine lx_getR (q := 136) hC ly8 rfl 1 (by decide) rfl rfl inX8 wd1606 dX8_activeSum_6 ?_
  refine lx_iconstv (v := 1) hC dX8_activeSum_9 rfl ?_
  refine lq_iaload hC ly136 dX8_activeSum_10 ?_
  refine lq_icmp_ge hC 29 dX8_activeSum_11 (by decide) ?_ ?_
  · skip
    refine lx_iload_n hC dX8_activeSum_29 rfl 1 rfl ?_
    exact lx_iret hC rfl hr dX8_activeSum_30
  · skip
    refine lx_iload_n hC dX8_activeSum_14 rfl 1 rfl ?_
    refine lx_aload_n hC dX8_activeSum_15 rfl 0 rfl ?_
    refine lx_iload_n hC dX8_activeSum_16 rfl 2 rfl ?_
    refine lx_iconstv (v := 2) hC dX8_activeSum_17 rfl ?_
    refine lq_call hC hx (sat_X8_is (xl X) hl w2 2 s) (run_V (as := [.int w2, .int 2]) (rest := [.int w1]) hC hE ly8 rfl cw_X8_is ci_X8_is wd1740 cs_X8_is ce_X8_is cd_X8_is (by decide) (by decide) (Nat.le_of_ble_eq_true rfl) dX8_activeSum_18 rfl) (fun v1 _ => ?_)
    refine lx_iadd hC dX8_activeSum_21 ?_
    refine lq_istore_nN hC dX8_activeSum_22 rfl (by decide) (fun y2 => ?_)
    refine lq_iincN (v := 1) hC dX8_activeSum_23 2 rfl (by decide) rfl (fun y3 => ?_)
    refine lx_goto hC 4 dX8_activeSum_26 (by decide) ?_
    exact lx_sub [2, 1, 0] rfl (hk4 (y2, y3))
set_option maxRecDepth 100000 in
set_option maxHeartbeats 2000000 in
theorem sat_X8_activeSum (l : Launch) (hl : l.stackTraces = false) (s : Mem) : Sat l yX8_activeSum (.code yX8_activeSum cX8_activeSum 3 (some .int)) 31 522 (fun x => some (.int x)) [.ref 8] s (pur s (m_X8_activeSum s)) := by
  refine sat_of hl (by decide) (Nat.le_of_ble_eq_true rfl) (fun X V A adV hxl hC hE hx hr => ?_) pur_mono
  subst hxl
  show LX X V A 31 522 (nC s) (nS s) _ 0 [(0, .ref 8)] [] s _
  unfold m_X8_activeSum
  refine lx_iconstv (v := 0) hC dX8_activeSum_0 rfl ?_
  refine lx_istore_n hC dX8_activeSum_1 rfl (by decide) ?_
  refine lx_iconstv (v := 0) hC dX8_activeSum_2 rfl ?_
  refine lx_istore_n hC dX8_activeSum_3 rfl (by decide) ?_
  refine lx_sub [2, 1, 0] rfl ?_
  exact lq_lp (lv := fun a => [(0, .ref 8), (1, .int a.1), (2, .int a.2)]) (st := fun _ => []) (fun kf hq a => l_X8_activeSum_b4 hC hE hl hx hr s kf hq a.1 a.2) FUEL (0, 0)
set_option maxRecDepth 100000 in
set_option maxHeartbeats 2000000 in
theorem n_X8_activeLoudness (s : Mem) : Mn s (m_X8_activeLoudness s) := by
  unfold m_X8_activeLoudness
  refine mn_put (fun s1 => ?_)
  refine mn_bindP (fun v2 => ?_)
  exact mn_some
set_option maxRecDepth 100000 in
set_option maxHeartbeats 2000000 in
theorem sat_X8_activeLoudness (l : Launch) (hl : l.stackTraces = false) (s : Mem) : Sat l yX8_activeLoudness (.code yX8_activeLoudness cX8_activeLoudness 1 (some .long)) 32 544 (fun x => some (.long x)) [.ref 8] s (m_X8_activeLoudness s) := by
  refine sat_of hl (by decide) (Nat.le_of_ble_eq_true rfl) (fun X V A adV hxl hC hE hx hr => ?_) (n_X8_activeLoudness s)
  subst hxl
  show LX X V A 32 544 (nC s) (nS s) _ 0 [(0, .ref 8)] [] s _
  unfold m_X8_activeLoudness
  refine lx_aload_n hC dX8_activeLoudness_0 rfl 0 rfl ?_
  refine lx_iconstv (v := 0) hC dX8_activeLoudness_1 rfl ?_
  refine lx_putI hC ly8 rfl 0 (by decide) rfl tyX8 tyX8_ok nmX8 rfl rfl rfl inX8 wd1605 dX8_activeLoudness_2 (fun s1 => ?_)
  refine lx_aload_n hC dX8_activeLoudness_5 rfl 0 rfl ?_
  refine lx_callP hC hx (sat_X8_activeSum (xl X) hl s1) (run_V (as := []) (rest := []) hC hE ly8 rfl cw_X8_activeSum ci_X8_activeSum wd2046 cs_X8_activeSum ce_X8_activeSum cd_X8_activeSum (by decide) (by decide) (Nat.le_of_ble_eq_true rfl) dX8_activeLoudness_6 rfl) (fun v2 _ => ?_)
  refine lx_i2l hC dX8_activeLoudness_9 ?_
  exact lx_lret hC rfl hr dX8_activeLoudness_10
set_option maxRecDepth 100000 in
set_option maxHeartbeats 2000000 in
theorem n_X8_meanOccupancy (s : Mem) : Mn s (m_X8_meanOccupancy s) := by
  unfold m_X8_meanOccupancy
  refine mn_put (fun s1 => ?_)
  refine mn_if ?_ mn_none
  refine mn_if ?_ ?_
  · skip
    refine mn_if ?_ mn_none
    refine mn_if ?_ mn_none
    refine mn_if ?_ mn_none
    exact mn_some
  · skip
    refine mn_bind (n_X8_fails 1 s1) (fun v3 s4 => ?_)
    exact mn_some
set_option maxRecDepth 100000 in
set_option maxHeartbeats 2000000 in
theorem sat_X8_meanOccupancy (l : Launch) (hl : l.stackTraces = false) (s : Mem) : Sat l yX8_meanOccupancy (.code yX8_meanOccupancy cX8_meanOccupancy 1 (some .double)) 31 521 (fun x => some (.double x)) [.ref 8] s (m_X8_meanOccupancy s) := by
  refine sat_of hl (by decide) (Nat.le_of_ble_eq_true rfl) (fun X V A adV hxl hC hE hx hr => ?_) (n_X8_meanOccupancy s)
  subst hxl
  show LX X V A 31 521 (nC s) (nS s) _ 0 [(0, .ref 8)] [] s _
  unfold m_X8_meanOccupancy
  refine lx_aload_n hC dX8_meanOccupancy_0 rfl 0 rfl ?_
  refine lx_iconstv (v := 0) hC dX8_meanOccupancy_1 rfl ?_
  refine lx_putI hC ly8 rfl 0 (by decide) rfl tyX8 tyX8_ok nmX8 rfl rfl rfl inX8 wd1605 dX8_meanOccupancy_2 (fun s1 => ?_)
  refine lx_aload_n hC dX8_meanOccupancy_5 rfl 0 rfl ?_
  refine lx_getR (q := 136) hC ly8 rfl 1 (by decide) rfl rfl inX8 wd1606 dX8_meanOccupancy_6 ?_
  refine lx_iconstv (v := 0) hC dX8_meanOccupancy_9 rfl ?_
  refine lx_iaload hC ly136 dX8_meanOccupancy_10 ?_
  refine lx_if_ne hC 23 dX8_meanOccupancy_11 (by decide) ?_ ?_
  · skip
    refine lx_aload_n hC dX8_meanOccupancy_23 rfl 0 rfl ?_
    refine lx_getR (q := 136) hC ly8 rfl 1 (by decide) rfl rfl inX8 wd1606 dX8_meanOccupancy_24 ?_
    refine lx_iconstv (v := 1) hC dX8_meanOccupancy_27 rfl ?_
    refine lx_iaload hC ly136 dX8_meanOccupancy_28 ?_
    refine lx_i2d hC dX8_meanOccupancy_29 ?_
    refine lx_aload_n hC dX8_meanOccupancy_30 rfl 0 rfl ?_
    refine lx_getR (q := 136) hC ly8 rfl 1 (by decide) rfl rfl inX8 wd1606 dX8_meanOccupancy_31 ?_
    refine lx_iconstv (v := 0) hC dX8_meanOccupancy_34 rfl ?_
    refine lx_iaload hC ly136 dX8_meanOccupancy_35 ?_
    refine lx_i2d hC dX8_meanOccupancy_36 ?_
    refine lx_if fun h2 => lx_ddiv hC dX8_meanOccupancy_37 h2 ?_
    exact lx_dret hC rfl hr dX8_meanOccupancy_38
  · skip
    refine lx_aload_n hC dX8_meanOccupancy_14 rfl 0 rfl ?_
    refine lx_iconstv (v := 1) hC dX8_meanOccupancy_15 rfl ?_
    refine lx_callX hC hx (sat_X8_fails (xl X) hl 1 s1) (run_V (as := [.int 1]) (rest := []) hC hE ly8 rfl cw_X8_fails ci_X8_fails wd1676 cs_X8_fails ce_X8_fails cd_X8_fails (by decide) (by decide) (Nat.le_of_ble_eq_true rfl) dX8_meanOccupancy_16 rfl) (fun v3 s4 _ => ?_)
    refine lx_i2d hC dX8_meanOccupancy_19 ?_
    refine lx_goto hC 38 dX8_meanOccupancy_20 (by decide) ?_
    exact lx_dret hC rfl hr dX8_meanOccupancy_38
set_option maxRecDepth 100000 in
set_option maxHeartbeats 2000000 in
theorem l_X8_realShare_b25 {X : Cx} {V : Vx} {A : Nat → Prop} {adV : Nat → Nat} {c0 s0 : Nat} (hC : Cok X V A yX8_realShare.cls cX8_realShare 3) (hE : Env0 V adV A (xs X) (xs X).heap) (hl : (xl X).stackTraces = false) (hx : ∀ x ∈ (xc X).exceptionTable.toList, False) (hr : (xh X).sig.returnType = some .float) (s : Mem) (kf25 : (Int32 × Int32) → Res UInt32) (hk25 : ∀ a, LX X V A 31 522 c0 s0 (FM X V A (fun x => some (.float x))) 25 [(0, .ref 8), (1, .int a.1), (2, .int a.2)] [] s (kf25 a)) (w1 : Int32) (w2 : Int32) : LX X V A 31 522 c0 s0 (FM X V A (fun x => some (.float x))) 25 [(0, .ref 8), (1, .int w1), (2, .int w2)] [] s (m_X8_realShare_b25 s kf25 w1 w2 ) := by
  unfold m_X8_realShare_b25
  refine lx_iload_n hC dX8_realShare_25 rfl 2 rfl ?_
  refine lx_aload_n hC dX8_realShare_26 rfl 0 rfl ?_
  refine lx_getR (q := 136) hC ly8 rfl 1 (by decide) rfl rfl inX8 wd1606 dX8_realShare_27 ?_
  refine lx_iconstv (v := 0) hC dX8_realShare_30 rfl ?_
  refine lx_iaload hC ly136 dX8_realShare_31 ?_
  refine lx_icmp_ge hC 50 dX8_realShare_32 (by decide) ?_ ?_
  · skip
    refine lx_aload_n hC dX8_realShare_50 rfl 0 rfl ?_
    refine lx_getR (q := 136) hC ly8 rfl 1 (by decide) rfl rfl inX8 wd1606 dX8_realShare_51 ?_
    refine lx_iconstv (v := 1) hC dX8_realShare_54 rfl ?_
    refine lx_iaload hC ly136 dX8_realShare_55 ?_
    refine lx_i2f hC dX8_realShare_56 ?_
    refine lx_iload_n hC dX8_realShare_57 rfl 1 rfl ?_
    refine lx_i2f hC dX8_realShare_58 ?_
    refine lx_if fun h2 => lx_fdiv hC dX8_realShare_59 h2 ?_
    exact lx_fret hC rfl hr dX8_realShare_60
  · skip
    refine lx_iload_n hC dX8_realShare_35 rfl 1 rfl ?_
    refine lx_aload_n hC dX8_realShare_36 rfl 0 rfl ?_
    refine lx_iload_n hC dX8_realShare_37 rfl 2 rfl ?_
    refine lx_iconstv (v := 0) hC dX8_realShare_38 rfl ?_
    refine lx_callP hC hx (sat_X8_of (xl X) hl w2 0 s) (run_V (as := [.int w2, .int 0]) (rest := [.int w1]) hC hE ly8 rfl cw_X8_of ci_X8_of wd1716 cs_X8_of ce_X8_of cd_X8_of (by decide) (by decide) (Nat.le_of_ble_eq_true rfl) dX8_realShare_39 rfl) (fun v3 _ => ?_)
    refine lx_iadd hC dX8_realShare_42 ?_
    refine lx_istore_nN hC dX8_realShare_43 rfl (by decide) (fun y4 => ?_)
    refine lx_iincN (v := 1) hC dX8_realShare_44 2 rfl (by decide) rfl (fun y5 => ?_)
    refine lx_goto hC 25 dX8_realShare_47 (by decide) ?_
    exact lx_sub [2, 1, 0] rfl (hk25 (y4, y5))
set_option maxRecDepth 100000 in
set_option maxHeartbeats 2000000 in
theorem n_X8_realShare_b25 (s : Mem) (kf25 : (Int32 × Int32) → Res UInt32) (hm25 : ∀ a, Mn s (kf25 a)) (w1 : Int32) (w2 : Int32) : Mn s (m_X8_realShare_b25 s kf25 w1 w2 ) := by
  unfold m_X8_realShare_b25
  refine mn_if ?_ mn_none
  refine mn_if ?_ ?_
  · skip
    refine mn_if ?_ mn_none
    refine mn_if ?_ mn_none
    exact mn_some
  · skip
    refine mn_bindP (fun v3 => ?_)
    refine mn_vl (fun y4 => ?_)
    refine mn_vl (fun y5 => ?_)
    exact hm25 (y4, y5)
set_option maxRecDepth 100000 in
set_option maxHeartbeats 2000000 in
theorem n_X8_realShare (s : Mem) : Mn s (m_X8_realShare s) := by
  unfold m_X8_realShare
  refine mn_put (fun s1 => ?_)
  refine mn_if ?_ mn_none
  refine mn_if ?_ ?_
  · skip
    exact mn_lp (sg := fun a => s1) (fun kf hq a => n_X8_realShare_b25 s1 kf hq a.1 a.2) FUEL (0, 0)
  · skip
    refine mn_bind (n_X8_fails 1 s1) (fun v6 s7 => ?_)
    exact mn_some
set_option maxRecDepth 100000 in
set_option maxHeartbeats 2000000 in
theorem sat_X8_realShare (l : Launch) (hl : l.stackTraces = false) (s : Mem) : Sat l yX8_realShare (.code yX8_realShare cX8_realShare 3 (some .float)) 31 522 (fun x => some (.float x)) [.ref 8] s (m_X8_realShare s) := by
  refine sat_of hl (by decide) (Nat.le_of_ble_eq_true rfl) (fun X V A adV hxl hC hE hx hr => ?_) (n_X8_realShare s)
  subst hxl
  show LX X V A 31 522 (nC s) (nS s) _ 0 [(0, .ref 8)] [] s _
  unfold m_X8_realShare
  refine lx_aload_n hC dX8_realShare_0 rfl 0 rfl ?_
  refine lx_iconstv (v := 0) hC dX8_realShare_1 rfl ?_
  refine lx_putI hC ly8 rfl 0 (by decide) rfl tyX8 tyX8_ok nmX8 rfl rfl rfl inX8 wd1605 dX8_realShare_2 (fun s1 => ?_)
  refine lx_aload_n hC dX8_realShare_5 rfl 0 rfl ?_
  refine lx_getR (q := 136) hC ly8 rfl 1 (by decide) rfl rfl inX8 wd1606 dX8_realShare_6 ?_
  refine lx_iconstv (v := 0) hC dX8_realShare_9 rfl ?_
  refine lx_iaload hC ly136 dX8_realShare_10 ?_
  refine lx_if_ne hC 21 dX8_realShare_11 (by decide) ?_ ?_
  · skip
    refine lx_iconstv (v := 0) hC dX8_realShare_21 rfl ?_
    refine lx_istore_n hC dX8_realShare_22 rfl (by decide) ?_
    refine lx_iconstv (v := 0) hC dX8_realShare_23 rfl ?_
    refine lx_istore_n hC dX8_realShare_24 rfl (by decide) ?_
    refine lx_sub [2, 1, 0] rfl ?_
    exact lx_lp (lv := fun a => [(0, .ref 8), (1, .int a.1), (2, .int a.2)]) (st := fun _ => []) (sg := fun a => s1) (fun kf hq a => l_X8_realShare_b25 hC hE hl hx hr s1 kf hq a.1 a.2) FUEL (0, 0)
  · skip
    refine lx_aload_n hC dX8_realShare_14 rfl 0 rfl ?_
    refine lx_iconstv (v := 1) hC dX8_realShare_15 rfl ?_
    refine lx_callX hC hx (sat_X8_fails (xl X) hl 1 s1) (run_V (as := [.int 1]) (rest := []) hC hE ly8 rfl cw_X8_fails ci_X8_fails wd1676 cs_X8_fails ce_X8_fails cd_X8_fails (by decide) (by decide) (Nat.le_of_ble_eq_true rfl) dX8_realShare_16 rfl) (fun v6 s7 _ => ?_)
    refine lx_i2f hC dX8_realShare_19 ?_
    exact lx_fret hC rfl hr dX8_realShare_20
set_option maxRecDepth 100000 in
set_option maxHeartbeats 2000000 in
theorem l_X8_isConsistent_b7 {X : Cx} {V : Vx} {A : Nat → Prop} {adV : Nat → Nat} {c0 s0 : Nat} (hC : Cok X V A yX8_isConsistent.cls cX8_isConsistent 2) (hE : Env0 V adV A (xs X) (xs X).heap) (hl : (xl X).stackTraces = false) (hx : ∀ x ∈ (xc X).exceptionTable.toList, False) (hr : (xh X).sig.returnType = some .boolean) (s : Mem) (kf7 : Int32 → Res Int32) (hk7 : ∀ a, LX X V A 33 566 c0 s0 (FM X V A (fun x => some (.int x))) 7 [(0, .ref 8), (1, .int a)] [] s (kf7 a)) (w1 : Int32) : LX X V A 33 566 c0 s0 (FM X V A (fun x => some (.int x))) 7 [(0, .ref 8), (1, .int w1)] [] s (m_X8_isConsistent_b7 s kf7 w1 ) := by
  unfold m_X8_isConsistent_b7
  refine lx_iload_n hC dX8_isConsistent_7 rfl 1 rfl ?_
  refine lx_aload_n hC dX8_isConsistent_8 rfl 0 rfl ?_
  refine lx_getR (q := 136) hC ly8 rfl 1 (by decide) rfl rfl inX8 wd1606 dX8_isConsistent_9 ?_
  refine lx_iconstv (v := 0) hC dX8_isConsistent_12 rfl ?_
  refine lx_iaload hC ly136 dX8_isConsistent_13 ?_
  refine lx_icmp_ge hC 33 dX8_isConsistent_14 (by decide) ?_ ?_
  · skip
    refine lx_aload_n hC dX8_isConsistent_33 rfl 0 rfl ?_
    refine lx_getR (q := 136) hC ly8 rfl 1 (by decide) rfl rfl inX8 wd1606 dX8_isConsistent_34 ?_
    refine lx_iconstv (v := 5) hC dX8_isConsistent_37 rfl ?_
    refine lx_iaload hC ly136 dX8_isConsistent_38 ?_
    refine lx_aload_n hC dX8_isConsistent_39 rfl 0 rfl ?_
    refine lx_callP hC hx (sat_X8_activeSum (xl X) hl s) (run_V (as := []) (rest := [.int (gI s 136 (5 : Int32).toNatClampNeg)]) hC hE ly8 rfl cw_X8_activeSum ci_X8_activeSum wd2046 cs_X8_activeSum ce_X8_activeSum cd_X8_activeSum (by decide) (by decide) (Nat.le_of_ble_eq_true rfl) dX8_isConsistent_40 rfl) (fun v2 _ => ?_)
    refine lx_aload_n hC dX8_isConsistent_43 rfl 0 rfl ?_
    refine lx_getR (q := 136) hC ly8 rfl 1 (by decide) rfl rfl inX8 wd1606 dX8_isConsistent_44 ?_
    refine lx_bipush (v := 6) hC dX8_isConsistent_47 (by decide) ?_
    refine lx_iaload hC ly136 dX8_isConsistent_49 ?_
    refine lx_iadd hC dX8_isConsistent_50 ?_
    refine lx_icmp_ne hC 58 dX8_isConsistent_51 (by decide) ?_ ?_
    · skip
      refine lx_iconstv (v := 0) hC dX8_isConsistent_58 rfl ?_
      exact lx_zret hC rfl hr rfl dX8_isConsistent_59
    · skip
      refine lx_iconstv (v := 1) hC dX8_isConsistent_54 rfl ?_
      refine lx_goto hC 59 dX8_isConsistent_55 (by decide) ?_
      exact lx_zret hC rfl hr rfl dX8_isConsistent_59
  · skip
    refine lx_aload_n hC dX8_isConsistent_17 rfl 0 rfl ?_
    refine lx_iload_n hC dX8_isConsistent_18 rfl 1 rfl ?_
    refine lx_callP hC hx (sat_X8_roomIn (xl X) hl w1 s) (run_V (as := [.int w1]) (rest := []) hC hE ly8 rfl cw_X8_roomIn ci_X8_roomIn wd1732 cs_X8_roomIn ce_X8_roomIn cd_X8_roomIn (by decide) (by decide) (Nat.le_of_ble_eq_true rfl) dX8_isConsistent_19 rfl) (fun v3 _ => ?_)
    refine lx_if_ge hC 27 dX8_isConsistent_22 (by decide) ?_ ?_
    · skip
      refine lx_iincN (v := 1) hC dX8_isConsistent_27 1 rfl (by decide) rfl (fun y4 => ?_)
      refine lx_goto hC 7 dX8_isConsistent_30 (by decide) ?_
      exact lx_sub [1, 0] rfl (hk7 y4)
    · skip
      refine lx_iconstv (v := 0) hC dX8_isConsistent_25 rfl ?_
      exact lx_zret hC rfl hr rfl dX8_isConsistent_26
set_option maxRecDepth 100000 in
set_option maxHeartbeats 2000000 in
theorem n_X8_isConsistent_b7 (s : Mem) (kf7 : Int32 → Res Int32) (hm7 : ∀ a, Mn s (kf7 a)) (w1 : Int32) : Mn s (m_X8_isConsistent_b7 s kf7 w1 ) := by
  unfold m_X8_isConsistent_b7
  refine mn_if ?_ mn_none
  refine mn_if ?_ ?_
  · skip
    refine mn_if ?_ mn_none
    refine mn_bindP (fun v2 => ?_)
    refine mn_if ?_ mn_none
    refine mn_if ?_ ?_
    · skip
      exact mn_some
    · skip
      exact mn_some
  · skip
    refine mn_bindP (fun v3 => ?_)
    refine mn_if ?_ ?_
    · skip
      refine mn_vl (fun y4 => ?_)
      exact hm7 y4
    · skip
      exact mn_some
set_option maxRecDepth 100000 in
set_option maxHeartbeats 2000000 in
theorem n_X8_isConsistent (s : Mem) : Mn s (m_X8_isConsistent s) := by
  unfold m_X8_isConsistent
  refine mn_put (fun s1 => ?_)
  exact mn_lp (sg := fun a => s1) (fun kf hq a => n_X8_isConsistent_b7 s1 kf hq a) FUEL 0
set_option maxRecDepth 100000 in
set_option maxHeartbeats 2000000 in
theorem sat_X8_isConsistent (l : Launch) (hl : l.stackTraces = false) (s : Mem) : Sat l yX8_isConsistent (.code yX8_isConsistent cX8_isConsistent 2 (some .boolean)) 33 566 (fun x => some (.int x)) [.ref 8] s (m_X8_isConsistent s) := by
  refine sat_of hl (by decide) (Nat.le_of_ble_eq_true rfl) (fun X V A adV hxl hC hE hx hr => ?_) (n_X8_isConsistent s)
  subst hxl
  show LX X V A 33 566 (nC s) (nS s) _ 0 [(0, .ref 8)] [] s _
  unfold m_X8_isConsistent
  refine lx_aload_n hC dX8_isConsistent_0 rfl 0 rfl ?_
  refine lx_iconstv (v := 0) hC dX8_isConsistent_1 rfl ?_
  refine lx_putI hC ly8 rfl 0 (by decide) rfl tyX8 tyX8_ok nmX8 rfl rfl rfl inX8 wd1605 dX8_isConsistent_2 (fun s1 => ?_)
  refine lx_iconstv (v := 0) hC dX8_isConsistent_5 rfl ?_
  refine lx_istore_n hC dX8_isConsistent_6 rfl (by decide) ?_
  refine lx_sub [1, 0] rfl ?_
  exact lx_lp (lv := fun a => [(0, .ref 8), (1, .int a)]) (st := fun _ => []) (sg := fun a => s1) (fun kf hq a => l_X8_isConsistent_b7 hC hE hl hx hr s1 kf hq a) FUEL 0
set_option maxRecDepth 100000 in
set_option maxHeartbeats 2000000 in
theorem n_X8_writes (p0 : Int32) (s : Mem) : Mn s (m_X8_writes p0 s) := by
  unfold m_X8_writes
  refine mn_if ?_ mn_none
  refine mn_put (fun s1 => ?_)
  refine mn_put (fun s2 => ?_)
  exact mn_some
set_option maxRecDepth 100000 in
set_option maxHeartbeats 2000000 in
theorem sat_X8_writes (l : Launch) (hl : l.stackTraces = false) (p0 : Int32) (s : Mem) : Sat l yX8_writes (.code yX8_writes cX8_writes 2 (none)) 30 500 (fun _ => none) [.ref 8, .int p0] s (m_X8_writes p0 s) := by
  refine sat_of hl (by decide) (Nat.le_of_ble_eq_true rfl) (fun X V A adV hxl hC hE hx hr => ?_) (n_X8_writes p0 s)
  subst hxl
  show LX X V A 30 500 (nC s) (nS s) _ 0 [(0, .ref 8), (1, .int p0)] [] s _
  unfold m_X8_writes
  refine lx_aload_n hC dX8_writes_0 rfl 0 rfl ?_
  refine lx_getR (q := 584) hC ly8 rfl 8 (by decide) rfl rfl inX8 wd1613 dX8_writes_1 ?_
  refine lx_aload_n hC dX8_writes_4 rfl 0 rfl ?_
  refine lx_getI hC ly8 rfl 9 (by decide) rfl inX8 wd1614 dX8_writes_5 ?_
  refine lx_iload_n hC dX8_writes_8 rfl 1 rfl ?_
  refine lx_i2c hC dX8_writes_9 ?_
  refine lx_castore hC ly584 dX8_writes_10 (fun s1 => ?_)
  refine lx_aload_n hC dX8_writes_11 rfl 0 rfl ?_
  refine lx_dup_ref hC dX8_writes_12 ?_
  refine lx_getI hC ly8 rfl 9 (by decide) rfl inX8 wd1614 dX8_writes_13 ?_
  refine lx_iconstv (v := 1) hC dX8_writes_16 rfl ?_
  refine lx_iadd hC dX8_writes_17 ?_
  refine lx_putI hC ly8 rfl 9 (by decide) rfl tyX8 tyX8_ok nmX8 rfl rfl rfl inX8 wd1614 dX8_writes_18 (fun s2 => ?_)
  exact lx_vret hC rfl hr dX8_writes_21
set_option maxRecDepth 100000 in
set_option maxHeartbeats 2000000 in
theorem l_X8_writesNumber_b20 {X : Cx} {V : Vx} {A : Nat → Prop} {adV : Nat → Nat} {c0 s0 : Nat} (hC : Cok X V A yX8_writesNumber.cls cX8_writesNumber 4) (hE : Env0 V adV A (xs X) (xs X).heap) (hl : (xl X).stackTraces = false) (hx : ∀ x ∈ (xc X).exceptionTable.toList, False) (hr : (xh X).sig.returnType = none) (x3 : Int32) (s : Mem) (kf20 : (Int32 × Mem) → Res Unit) (hk20 : ∀ a, LX X V A 31 521 c0 s0 (FM X V A (fun _ => none)) 20 [(0, .ref 8), (1, .int x3), (3, .int a.1)] [] a.2 (kf20 a)) (w3 : Int32) : LX X V A 31 521 c0 s0 (FM X V A (fun _ => none)) 20 [(0, .ref 8), (1, .int x3), (3, .int w3)] [] s (m_X8_writesNumber_b20 x3 s kf20 w3 ) := by
  unfold m_X8_writesNumber_b20
  refine lx_iload_n hC dX8_writesNumber_20 rfl 2 rfl ?_
  refine lx_if_le hC 45 dX8_writesNumber_21 (by decide) ?_ ?_
  · skip
    exact lx_vret hC rfl hr dX8_writesNumber_45
  · skip
    refine lx_aload_n hC dX8_writesNumber_24 rfl 0 rfl ?_
    refine lx_bipush (v := 48) hC dX8_writesNumber_25 (by decide) ?_
    refine lx_iload_n hC dX8_writesNumber_27 rfl 1 rfl ?_
    refine lx_iload_n hC dX8_writesNumber_28 rfl 2 rfl ?_
    refine lx_if fun h4 => lx_idiv hC dX8_writesNumber_29 h4 ?_
    refine lx_bipush (v := 10) hC dX8_writesNumber_30 (by decide) ?_
    refine lx_irem hC dX8_writesNumber_32 (by decide) ?_
    refine lx_iadd hC dX8_writesNumber_33 ?_
    refine lx_callX hC hx (sat_X8_writes (xl X) hl (48 + ((x3 / w3) - (x3 / w3) / 10 * 10)) s) (run_V (as := [.int (48 + ((x3 / w3) - (x3 / w3) / 10 * 10))]) (rest := []) hC hE ly8 rfl cw_X8_writes ci_X8_writes wd2070 cs_X8_writes ce_X8_writes cd_X8_writes (by decide) (by decide) (Nat.le_of_ble_eq_true rfl) dX8_writesNumber_34 rfl) (fun v5 s6 _ => ?_)
    refine lx_iload_n hC dX8_writesNumber_37 rfl 2 rfl ?_
    refine lx_bipush (v := 10) hC dX8_writesNumber_38 (by decide) ?_
    refine lx_idiv hC dX8_writesNumber_40 (by decide) ?_
    refine lx_istore_nN hC dX8_writesNumber_41 rfl (by decide) (fun y7 => ?_)
    refine lx_goto hC 20 dX8_writesNumber_42 (by decide) ?_
    exact lx_sub [1, 2, 0] rfl (hk20 (y7, s6))
set_option maxRecDepth 100000 in
set_option maxHeartbeats 2000000 in
theorem n_X8_writesNumber_b20 (x3 : Int32) (s : Mem) (kf20 : (Int32 × Mem) → Res Unit) (hm20 : ∀ a, Mn a.2 (kf20 a)) (w3 : Int32) : Mn s (m_X8_writesNumber_b20 x3 s kf20 w3 ) := by
  unfold m_X8_writesNumber_b20
  refine mn_if ?_ ?_
  · skip
    exact mn_some
  · skip
    refine mn_if ?_ mn_none
    refine mn_bind (n_X8_writes (48 + ((x3 / w3) - (x3 / w3) / 10 * 10)) s) (fun v5 s6 => ?_)
    refine mn_vl (fun y7 => ?_)
    exact hm20 (y7, s6)
set_option maxRecDepth 100000 in
set_option maxHeartbeats 2000000 in
theorem l_X8_writesNumber_b2 {X : Cx} {V : Vx} {A : Nat → Prop} {adV : Nat → Nat} {c0 s0 : Nat} (hC : Cok X V A yX8_writesNumber.cls cX8_writesNumber 4) (hE : Env0 V adV A (xs X) (xs X).heap) (hl : (xl X).stackTraces = false) (hx : ∀ x ∈ (xc X).exceptionTable.toList, False) (hr : (xh X).sig.returnType = none) (x1 : Int32) (s : Mem) (kf2 : Int32 → Res Unit) (hk2 : ∀ a, LX X V A 31 521 c0 s0 (FM X V A (fun _ => none)) 2 [(0, .ref 8), (1, .int x1), (2, .int a)] [] s (kf2 a)) (w2 : Int32) : LX X V A 31 521 c0 s0 (FM X V A (fun _ => none)) 2 [(0, .ref 8), (1, .int x1), (2, .int w2)] [] s (m_X8_writesNumber_b2 x1 s kf2 w2 ) := by
  unfold m_X8_writesNumber_b2
  refine lx_iload_n hC dX8_writesNumber_2 rfl 1 rfl ?_
  refine lx_iload_n hC dX8_writesNumber_3 rfl 2 rfl ?_
  refine lx_if fun h2 => lx_idiv hC dX8_writesNumber_4 h2 ?_
  refine lx_bipush (v := 9) hC dX8_writesNumber_5 (by decide) ?_
  refine lx_icmp_le hC 18 dX8_writesNumber_7 (by decide) ?_ ?_
  · skip
    refine lx_iload_n hC dX8_writesNumber_18 rfl 2 rfl ?_
    refine lx_istore_n hC dX8_writesNumber_19 rfl (by decide) ?_
    refine lx_sub [1, 2, 0] rfl ?_
    exact lx_lp (lv := fun a => [(0, .ref 8), (1, .int x1), (3, .int a.1)]) (st := fun _ => []) (sg := fun a => a.2) (fun kf hq a => l_X8_writesNumber_b20 hC hE hl hx hr x1 a.2 kf hq a.1) FUEL (w2, s)
  · skip
    refine lx_iload_n hC dX8_writesNumber_10 rfl 2 rfl ?_
    refine lx_bipush (v := 10) hC dX8_writesNumber_11 (by decide) ?_
    refine lx_imul hC dX8_writesNumber_13 ?_
    refine lx_istore_nN hC dX8_writesNumber_14 rfl (by decide) (fun y8 => ?_)
    refine lx_goto hC 2 dX8_writesNumber_15 (by decide) ?_
    exact lx_sub [1, 2, 0] rfl (hk2 y8)
set_option maxRecDepth 100000 in
set_option maxHeartbeats 2000000 in
theorem n_X8_writesNumber_b2 (x1 : Int32) (s : Mem) (kf2 : Int32 → Res Unit) (hm2 : ∀ a, Mn s (kf2 a)) (w2 : Int32) : Mn s (m_X8_writesNumber_b2 x1 s kf2 w2 ) := by
  unfold m_X8_writesNumber_b2
  refine mn_if ?_ mn_none
  refine mn_if ?_ ?_
  · skip
    exact mn_lp (sg := fun a => a.2) (fun kf hq a => n_X8_writesNumber_b20 x1 a.2 kf hq a.1) FUEL (w2, s)
  · skip
    refine mn_vl (fun y8 => ?_)
    exact hm2 y8
set_option maxRecDepth 100000 in
set_option maxHeartbeats 2000000 in
theorem n_X8_writesNumber (p0 : Int32) (s : Mem) : Mn s (m_X8_writesNumber p0 s) := by
  unfold m_X8_writesNumber
  exact mn_lp (sg := fun a => s) (fun kf hq a => n_X8_writesNumber_b2 p0 s kf hq a) FUEL 1
set_option maxRecDepth 100000 in
set_option maxHeartbeats 2000000 in
theorem sat_X8_writesNumber (l : Launch) (hl : l.stackTraces = false) (p0 : Int32) (s : Mem) : Sat l yX8_writesNumber (.code yX8_writesNumber cX8_writesNumber 4 (none)) 31 521 (fun _ => none) [.ref 8, .int p0] s (m_X8_writesNumber p0 s) := by
  refine sat_of hl (by decide) (Nat.le_of_ble_eq_true rfl) (fun X V A adV hxl hC hE hx hr => ?_) (n_X8_writesNumber p0 s)
  subst hxl
  show LX X V A 31 521 (nC s) (nS s) _ 0 [(0, .ref 8), (1, .int p0)] [] s _
  unfold m_X8_writesNumber
  refine lx_iconstv (v := 1) hC dX8_writesNumber_0 rfl ?_
  refine lx_istore_n hC dX8_writesNumber_1 rfl (by decide) ?_
  refine lx_sub [1, 2, 0] rfl ?_
  exact lx_lp (lv := fun a => [(0, .ref 8), (1, .int p0), (2, .int a)]) (st := fun _ => []) (sg := fun a => s) (fun kf hq a => l_X8_writesNumber_b2 hC hE hl hx hr p0 s kf hq a) FUEL 1
set_option maxRecDepth 100000 in
set_option maxHeartbeats 2000000 in
theorem n_X8_writesEcho (p0 : Int32) (s : Mem) : Mn s (m_X8_writesEcho p0 s) := by
  unfold m_X8_writesEcho
  refine mn_bind (n_X8_writes 32 s) (fun v1 s2 => ?_)
  refine mn_bindP (fun v3 => ?_)
  refine mn_bind (n_X8_writesNumber v3 s2) (fun v4 s5 => ?_)
  refine mn_bind (n_X8_writes 58 s5) (fun v6 s7 => ?_)
  refine mn_bindP (fun v8 => ?_)
  refine mn_bind (n_X8_writesNumber v8 s7) (fun v9 s10 => ?_)
  exact mn_some
set_option maxRecDepth 100000 in
set_option maxHeartbeats 2000000 in
theorem sat_X8_writesEcho (l : Launch) (hl : l.stackTraces = false) (p0 : Int32) (s : Mem) : Sat l yX8_writesEcho (.code yX8_writesEcho cX8_writesEcho 2 (none)) 32 544 (fun _ => none) [.ref 8, .int p0] s (m_X8_writesEcho p0 s) := by
  refine sat_of hl (by decide) (Nat.le_of_ble_eq_true rfl) (fun X V A adV hxl hC hE hx hr => ?_) (n_X8_writesEcho p0 s)
  subst hxl
  show LX X V A 32 544 (nC s) (nS s) _ 0 [(0, .ref 8), (1, .int p0)] [] s _
  unfold m_X8_writesEcho
  refine lx_aload_n hC dX8_writesEcho_0 rfl 0 rfl ?_
  refine lx_bipush (v := 32) hC dX8_writesEcho_1 (by decide) ?_
  refine lx_callX hC hx (sat_X8_writes (xl X) hl 32 s) (run_V (as := [.int 32]) (rest := []) hC hE ly8 rfl cw_X8_writes ci_X8_writes wd2070 cs_X8_writes ce_X8_writes cd_X8_writes (by decide) (by decide) (Nat.le_of_ble_eq_true rfl) dX8_writesEcho_3 rfl) (fun v1 s2 _ => ?_)
  refine lx_aload_n hC dX8_writesEcho_6 rfl 0 rfl ?_
  refine lx_aload_n hC dX8_writesEcho_7 rfl 0 rfl ?_
  refine lx_iload_n hC dX8_writesEcho_8 rfl 1 rfl ?_
  refine lx_iconstv (v := 0) hC dX8_writesEcho_9 rfl ?_
  refine lx_callP hC hx (sat_X8_is (xl X) hl p0 0 s2) (run_V (as := [.int p0, .int 0]) (rest := [.ref 8]) hC hE ly8 rfl cw_X8_is ci_X8_is wd1740 cs_X8_is ce_X8_is cd_X8_is (by decide) (by decide) (Nat.le_of_ble_eq_true rfl) dX8_writesEcho_10 rfl) (fun v3 _ => ?_)
  refine lx_callX hC hx (sat_X8_writesNumber (xl X) hl v3 s2) (run_V (as := [.int v3]) (rest := []) hC hE ly8 rfl cw_X8_writesNumber ci_X8_writesNumber wd2066 cs_X8_writesNumber ce_X8_writesNumber cd_X8_writesNumber (by decide) (by decide) (Nat.le_of_ble_eq_true rfl) dX8_writesEcho_13 rfl) (fun v4 s5 _ => ?_)
  refine lx_aload_n hC dX8_writesEcho_16 rfl 0 rfl ?_
  refine lx_bipush (v := 58) hC dX8_writesEcho_17 (by decide) ?_
  refine lx_callX hC hx (sat_X8_writes (xl X) hl 58 s5) (run_V (as := [.int 58]) (rest := []) hC hE ly8 rfl cw_X8_writes ci_X8_writes wd2070 cs_X8_writes ce_X8_writes cd_X8_writes (by decide) (by decide) (Nat.le_of_ble_eq_true rfl) dX8_writesEcho_19 rfl) (fun v6 s7 _ => ?_)
  refine lx_aload_n hC dX8_writesEcho_22 rfl 0 rfl ?_
  refine lx_aload_n hC dX8_writesEcho_23 rfl 0 rfl ?_
  refine lx_iload_n hC dX8_writesEcho_24 rfl 1 rfl ?_
  refine lx_iconstv (v := 2) hC dX8_writesEcho_25 rfl ?_
  refine lx_callP hC hx (sat_X8_is (xl X) hl p0 2 s7) (run_V (as := [.int p0, .int 2]) (rest := [.ref 8]) hC hE ly8 rfl cw_X8_is ci_X8_is wd1740 cs_X8_is ce_X8_is cd_X8_is (by decide) (by decide) (Nat.le_of_ble_eq_true rfl) dX8_writesEcho_26 rfl) (fun v8 _ => ?_)
  refine lx_callX hC hx (sat_X8_writesNumber (xl X) hl v8 s7) (run_V (as := [.int v8]) (rest := []) hC hE ly8 rfl cw_X8_writesNumber ci_X8_writesNumber wd2066 cs_X8_writesNumber ce_X8_writesNumber cd_X8_writesNumber (by decide) (by decide) (Nat.le_of_ble_eq_true rfl) dX8_writesEcho_29 rfl) (fun v9 s10 _ => ?_)
  exact lx_vret hC rfl hr dX8_writesEcho_32
set_option maxRecDepth 100000 in
set_option maxHeartbeats 2000000 in
theorem l_X8_formatRow_b107 {X : Cx} {V : Vx} {A : Nat → Prop} {adV : Nat → Nat} {c0 s0 : Nat} (hC : Cok X V A yX8_formatRow.cls cX8_formatRow 3) (hE : Env0 V adV A (xs X) (xs X).heap) (hl : (xl X).stackTraces = false) (hx : ∀ x ∈ (xc X).exceptionTable.toList, False) (hr : (xh X).sig.returnType = some .int) (x21 : Int32) (s : Mem) (kf107 : (Int32 × Mem) → Res Int32) (hk107 : ∀ a, LX X V A 33 565 c0 s0 (FM X V A (fun x => some (.int x))) 107 [(0, .ref 8), (1, .int x21), (2, .int a.1)] [] a.2 (kf107 a)) (w2 : Int32) : LX X V A 33 565 c0 s0 (FM X V A (fun x => some (.int x))) 107 [(0, .ref 8), (1, .int x21), (2, .int w2)] [] s (m_X8_formatRow_b107 x21 s kf107 w2 ) := by
  unfold m_X8_formatRow_b107
  refine lx_iload_n hC dX8_formatRow_107 rfl 2 rfl ?_
  refine lx_aload_n hC dX8_formatRow_108 rfl 0 rfl ?_
  refine lx_getR (q := 136) hC ly8 rfl 1 (by decide) rfl rfl inX8 wd1606 dX8_formatRow_109 ?_
  refine lx_iconstv (v := 1) hC dX8_formatRow_112 rfl ?_
  refine lx_iaload hC ly136 dX8_formatRow_113 ?_
  refine lx_icmp_ge hC 138 dX8_formatRow_114 (by decide) ?_ ?_
  · skip
    refine lx_aload_n hC dX8_formatRow_138 rfl 0 rfl ?_
    refine lx_getI hC ly8 rfl 9 (by decide) rfl inX8 wd1614 dX8_formatRow_139 ?_
    exact lx_iret hC rfl hr dX8_formatRow_142
  · skip
    refine lx_aload_n hC dX8_formatRow_117 rfl 0 rfl ?_
    refine lx_iload_n hC dX8_formatRow_118 rfl 2 rfl ?_
    refine lx_iconstv (v := 1) hC dX8_formatRow_119 rfl ?_
    refine lx_callP hC hx (sat_X8_is (xl X) hl w2 1 s) (run_V (as := [.int w2, .int 1]) (rest := []) hC hE ly8 rfl cw_X8_is ci_X8_is wd1740 cs_X8_is ce_X8_is cd_X8_is (by decide) (by decide) (Nat.le_of_ble_eq_true rfl) dX8_formatRow_120 rfl) (fun v22 _ => ?_)
    refine lx_iload_n hC dX8_formatRow_123 rfl 1 rfl ?_
    refine lx_icmp_ne hC 132 dX8_formatRow_124 (by decide) ?_ ?_
    · skip
      refine lx_iincN (v := 1) hC dX8_formatRow_132 2 rfl (by decide) rfl (fun y23 => ?_)
      refine lx_goto hC 107 dX8_formatRow_135 (by decide) ?_
      exact lx_sub [1, 2, 0] rfl (hk107 (y23, s))
    · skip
      refine lx_aload_n hC dX8_formatRow_127 rfl 0 rfl ?_
      refine lx_iload_n hC dX8_formatRow_128 rfl 2 rfl ?_
      refine lx_callX hC hx (sat_X8_writesEcho (xl X) hl w2 s) (run_V (as := [.int w2]) (rest := []) hC hE ly8 rfl cw_X8_writesEcho ci_X8_writesEcho wd2074 cs_X8_writesEcho ce_X8_writesEcho cd_X8_writesEcho (by decide) (by decide) (Nat.le_of_ble_eq_true rfl) dX8_formatRow_129 rfl) (fun v24 s25 _ => ?_)
      refine lx_iincN (v := 1) hC dX8_formatRow_132 2 rfl (by decide) rfl (fun y26 => ?_)
      refine lx_goto hC 107 dX8_formatRow_135 (by decide) ?_
      exact lx_sub [1, 2, 0] rfl (hk107 (y26, s25))
set_option maxRecDepth 100000 in
set_option maxHeartbeats 2000000 in
theorem n_X8_formatRow_b107 (x21 : Int32) (s : Mem) (kf107 : (Int32 × Mem) → Res Int32) (hm107 : ∀ a, Mn a.2 (kf107 a)) (w2 : Int32) : Mn s (m_X8_formatRow_b107 x21 s kf107 w2 ) := by
  unfold m_X8_formatRow_b107
  refine mn_if ?_ mn_none
  refine mn_if ?_ ?_
  · skip
    exact mn_some
  · skip
    refine mn_bindP (fun v22 => ?_)
    refine mn_if ?_ ?_
    · skip
      refine mn_vl (fun y23 => ?_)
      exact hm107 (y23, s)
    · skip
      refine mn_bind (n_X8_writesEcho w2 s) (fun v24 s25 => ?_)
      refine mn_vl (fun y26 => ?_)
      exact hm107 (y26, s25)
set_option maxRecDepth 100000 in
set_option maxHeartbeats 2000000 in
theorem l_X8_formatRow_j85 {X : Cx} {V : Vx} {A : Nat → Prop} {adV : Nat → Nat} {c0 s0 : Nat} (hC : Cok X V A yX8_formatRow.cls cX8_formatRow 3) (hE : Env0 V adV A (xs X) (xs X).heap) (hl : (xl X).stackTraces = false) (hx : ∀ x ∈ (xc X).exceptionTable.toList, False) (hr : (xh X).sig.returnType = some .int) (x17 : Int32) (s : Mem) : LX X V A 33 565 c0 s0 (FM X V A (fun x => some (.int x))) 85 [(0, .ref 8), (1, .int x17)] [] s (m_X8_formatRow_j85 x17 s ) := by
  unfold m_X8_formatRow_j85
  refine lx_aload_n hC dX8_formatRow_85 rfl 0 rfl ?_
  refine lx_bipush (v := 93) hC dX8_formatRow_86 (by decide) ?_
  refine lx_callX hC hx (sat_X8_writes (xl X) hl 93 s) (run_V (as := [.int 93]) (rest := []) hC hE ly8 rfl cw_X8_writes ci_X8_writes wd2070 cs_X8_writes ce_X8_writes cd_X8_writes (by decide) (by decide) (Nat.le_of_ble_eq_true rfl) dX8_formatRow_88 rfl) (fun v18 s19 _ => ?_)
  refine lx_aload_n hC dX8_formatRow_91 rfl 0 rfl ?_
  refine lx_iload_n hC dX8_formatRow_92 rfl 1 rfl ?_
  refine lx_callP hC hx (sat_X8_isLockedRow (xl X) hl x17 s19) (run_V (as := [.int x17]) (rest := []) hC hE ly8 rfl cw_X8_isLockedRow ci_X8_isLockedRow wd1712 cs_X8_isLockedRow ce_X8_isLockedRow cd_X8_isLockedRow (by decide) (by decide) (Nat.le_of_ble_eq_true rfl) dX8_formatRow_93 rfl) (fun v20 _ => ?_)
  refine lx_if_eq hC 105 dX8_formatRow_96 (by decide) ?_ ?_
  · skip
    refine lx_iconstv (v := 0) hC dX8_formatRow_105 rfl ?_
    refine lx_istore_n hC dX8_formatRow_106 rfl (by decide) ?_
    refine lx_sub [1, 2, 0] rfl ?_
    exact lx_lp (lv := fun a => [(0, .ref 8), (1, .int x17), (2, .int a.1)]) (st := fun _ => []) (sg := fun a => a.2) (fun kf hq a => l_X8_formatRow_b107 hC hE hl hx hr x17 a.2 kf hq a.1) FUEL (0, s19)
  · skip
    refine lx_aload_n hC dX8_formatRow_99 rfl 0 rfl ?_
    refine lx_bipush (v := 33) hC dX8_formatRow_100 (by decide) ?_
    refine lx_callX hC hx (sat_X8_writes (xl X) hl 33 s19) (run_V (as := [.int 33]) (rest := []) hC hE ly8 rfl cw_X8_writes ci_X8_writes wd2070 cs_X8_writes ce_X8_writes cd_X8_writes (by decide) (by decide) (Nat.le_of_ble_eq_true rfl) dX8_formatRow_102 rfl) (fun v27 s28 _ => ?_)
    refine lx_iconstv (v := 0) hC dX8_formatRow_105 rfl ?_
    refine lx_istore_n hC dX8_formatRow_106 rfl (by decide) ?_
    refine lx_sub [1, 2, 0] rfl ?_
    exact lx_lp (lv := fun a => [(0, .ref 8), (1, .int x17), (2, .int a.1)]) (st := fun _ => []) (sg := fun a => a.2) (fun kf hq a => l_X8_formatRow_b107 hC hE hl hx hr x17 a.2 kf hq a.1) FUEL (0, s28)
set_option maxRecDepth 100000 in
set_option maxHeartbeats 2000000 in
theorem n_X8_formatRow_j85 (x17 : Int32) (s : Mem) : Mn s (m_X8_formatRow_j85 x17 s ) := by
  unfold m_X8_formatRow_j85
  refine mn_bind (n_X8_writes 93 s) (fun v18 s19 => ?_)
  refine mn_bindP (fun v20 => ?_)
  refine mn_if ?_ ?_
  · skip
    exact mn_lp (sg := fun a => a.2) (fun kf hq a => n_X8_formatRow_b107 x17 a.2 kf hq a.1) FUEL (0, s19)
  · skip
    refine mn_bind (n_X8_writes 33 s19) (fun v27 s28 => ?_)
    exact mn_lp (sg := fun a => a.2) (fun kf hq a => n_X8_formatRow_b107 x17 a.2 kf hq a.1) FUEL (0, s28)
set_option maxRecDepth 100000 in
set_option maxHeartbeats 2000000 in
theorem n_X8_formatRow (p0 : Int32) (s : Mem) : Mn s (m_X8_formatRow p0 s) := by
  unfold m_X8_formatRow
  refine mn_put (fun s1 => ?_)
  refine mn_bindP (fun v2 => ?_)
  refine mn_if ?_ ?_
  · skip
    refine mn_put (fun s3 => ?_)
    refine mn_bind (n_X8_writesNumber p0 s3) (fun v4 s5 => ?_)
    refine mn_bind (n_X8_writes 91 s5) (fun v6 s7 => ?_)
    refine mn_bindP (fun v8 => ?_)
    refine mn_bind (n_X8_writesNumber v8 s7) (fun v9 s10 => ?_)
    refine mn_bind (n_X8_writes 47 s10) (fun v11 s12 => ?_)
    refine mn_bindP (fun v13 => ?_)
    refine mn_bind (n_X8_writesNumber v13 s12) (fun v14 s15 => ?_)
    refine mn_bindP (fun v16 => ?_)
    refine mn_if ?_ ?_
    · skip
      exact n_X8_formatRow_j85 p0 s15 
    · skip
      refine mn_bind (n_X8_writes 43 s15) (fun v36 s37 => ?_)
      refine mn_bindP (fun v38 => ?_)
      refine mn_bind (n_X8_writesNumber v38 s37) (fun v39 s40 => ?_)
      exact n_X8_formatRow_j85 p0 s40 
  · skip
    refine mn_bind (n_X8_fails 1 s1) (fun v42 s43 => ?_)
    exact mn_some
set_option maxRecDepth 100000 in
set_option maxHeartbeats 2000000 in
theorem sat_X8_formatRow (l : Launch) (hl : l.stackTraces = false) (p0 : Int32) (s : Mem) : Sat l yX8_formatRow (.code yX8_formatRow cX8_formatRow 3 (some .int)) 33 565 (fun x => some (.int x)) [.ref 8, .int p0] s (m_X8_formatRow p0 s) := by
  refine sat_of hl (by decide) (Nat.le_of_ble_eq_true rfl) (fun X V A adV hxl hC hE hx hr => ?_) (n_X8_formatRow p0 s)
  subst hxl
  show LX X V A 33 565 (nC s) (nS s) _ 0 [(0, .ref 8), (1, .int p0)] [] s _
  unfold m_X8_formatRow
  refine lx_aload_n hC dX8_formatRow_0 rfl 0 rfl ?_
  refine lx_iconstv (v := 0) hC dX8_formatRow_1 rfl ?_
  refine lx_putI hC ly8 rfl 0 (by decide) rfl tyX8 tyX8_ok nmX8 rfl rfl rfl inX8 wd1605 dX8_formatRow_2 (fun s1 => ?_)
  refine lx_aload_n hC dX8_formatRow_5 rfl 0 rfl ?_
  refine lx_iload_n hC dX8_formatRow_6 rfl 1 rfl ?_
  refine lx_callP hC hx (sat_X8_isRow (xl X) hl p0 s1) (run_V (as := [.int p0]) (rest := []) hC hE ly8 rfl cw_X8_isRow ci_X8_isRow wd1708 cs_X8_isRow ce_X8_isRow cd_X8_isRow (by decide) (by decide) (Nat.le_of_ble_eq_true rfl) dX8_formatRow_7 rfl) (fun v2 _ => ?_)
  refine lx_if_ne hC 19 dX8_formatRow_10 (by decide) ?_ ?_
  · skip
    refine lx_aload_n hC dX8_formatRow_19 rfl 0 rfl ?_
    refine lx_iconstv (v := 0) hC dX8_formatRow_20 rfl ?_
    refine lx_putI hC ly8 rfl 9 (by decide) rfl tyX8 tyX8_ok nmX8 rfl rfl rfl inX8 wd1614 dX8_formatRow_21 (fun s3 => ?_)
    refine lx_aload_n hC dX8_formatRow_24 rfl 0 rfl ?_
    refine lx_iload_n hC dX8_formatRow_25 rfl 1 rfl ?_
    refine lx_callX hC hx (sat_X8_writesNumber (xl X) hl p0 s3) (run_V (as := [.int p0]) (rest := []) hC hE ly8 rfl cw_X8_writesNumber ci_X8_writesNumber wd2066 cs_X8_writesNumber ce_X8_writesNumber cd_X8_writesNumber (by decide) (by decide) (Nat.le_of_ble_eq_true rfl) dX8_formatRow_26 rfl) (fun v4 s5 _ => ?_)
    refine lx_aload_n hC dX8_formatRow_29 rfl 0 rfl ?_
    refine lx_bipush (v := 91) hC dX8_formatRow_30 (by decide) ?_
    refine lx_callX hC hx (sat_X8_writes (xl X) hl 91 s5) (run_V (as := [.int 91]) (rest := []) hC hE ly8 rfl cw_X8_writes ci_X8_writes wd2070 cs_X8_writes ce_X8_writes cd_X8_writes (by decide) (by decide) (Nat.le_of_ble_eq_true rfl) dX8_formatRow_32 rfl) (fun v6 s7 _ => ?_)
    refine lx_aload_n hC dX8_formatRow_35 rfl 0 rfl ?_
    refine lx_aload_n hC dX8_formatRow_36 rfl 0 rfl ?_
    refine lx_iload_n hC dX8_formatRow_37 rfl 1 rfl ?_
    refine lx_callP hC hx (sat_X8_countIn (xl X) hl p0 s7) (run_V (as := [.int p0]) (rest := [.ref 8]) hC hE ly8 rfl cw_X8_countIn ci_X8_countIn wd1736 cs_X8_countIn ce_X8_countIn cd_X8_countIn (by decide) (by decide) (Nat.le_of_ble_eq_true rfl) dX8_formatRow_38 rfl) (fun v8 _ => ?_)
    refine lx_callX hC hx (sat_X8_writesNumber (xl X) hl v8 s7) (run_V (as := [.int v8]) (rest := []) hC hE ly8 rfl cw_X8_writesNumber ci_X8_writesNumber wd2066 cs_X8_writesNumber ce_X8_writesNumber cd_X8_writesNumber (by decide) (by decide) (Nat.le_of_ble_eq_true rfl) dX8_formatRow_41 rfl) (fun v9 s10 _ => ?_)
    refine lx_aload_n hC dX8_formatRow_44 rfl 0 rfl ?_
    refine lx_bipush (v := 47) hC dX8_formatRow_45 (by decide) ?_
    refine lx_callX hC hx (sat_X8_writes (xl X) hl 47 s10) (run_V (as := [.int 47]) (rest := []) hC hE ly8 rfl cw_X8_writes ci_X8_writes wd2070 cs_X8_writes ce_X8_writes cd_X8_writes (by decide) (by decide) (Nat.le_of_ble_eq_true rfl) dX8_formatRow_47 rfl) (fun v11 s12 _ => ?_)
    refine lx_aload_n hC dX8_formatRow_50 rfl 0 rfl ?_
    refine lx_aload_n hC dX8_formatRow_51 rfl 0 rfl ?_
    refine lx_iload_n hC dX8_formatRow_52 rfl 1 rfl ?_
    refine lx_iconstv (v := 0) hC dX8_formatRow_53 rfl ?_
    refine lx_callP hC hx (sat_X8_of (xl X) hl p0 0 s12) (run_V (as := [.int p0, .int 0]) (rest := [.ref 8]) hC hE ly8 rfl cw_X8_of ci_X8_of wd1716 cs_X8_of ce_X8_of cd_X8_of (by decide) (by decide) (Nat.le_of_ble_eq_true rfl) dX8_formatRow_54 rfl) (fun v13 _ => ?_)
    refine lx_callX hC hx (sat_X8_writesNumber (xl X) hl v13 s12) (run_V (as := [.int v13]) (rest := []) hC hE ly8 rfl cw_X8_writesNumber ci_X8_writesNumber wd2066 cs_X8_writesNumber ce_X8_writesNumber cd_X8_writesNumber (by decide) (by decide) (Nat.le_of_ble_eq_true rfl) dX8_formatRow_57 rfl) (fun v14 s15 _ => ?_)
    refine lx_aload_n hC dX8_formatRow_60 rfl 0 rfl ?_
    refine lx_iload_n hC dX8_formatRow_61 rfl 1 rfl ?_
    refine lx_iconstv (v := 1) hC dX8_formatRow_62 rfl ?_
    refine lx_callP hC hx (sat_X8_of (xl X) hl p0 1 s15) (run_V (as := [.int p0, .int 1]) (rest := []) hC hE ly8 rfl cw_X8_of ci_X8_of wd1716 cs_X8_of ce_X8_of cd_X8_of (by decide) (by decide) (Nat.le_of_ble_eq_true rfl) dX8_formatRow_63 rfl) (fun v16 _ => ?_)
    refine lx_if_le hC 85 dX8_formatRow_66 (by decide) ?_ ?_
    · skip
      exact lx_sub [0, 1] rfl (l_X8_formatRow_j85 hC hE hl hx hr p0 s15 )
    · skip
      refine lx_aload_n hC dX8_formatRow_69 rfl 0 rfl ?_
      refine lx_bipush (v := 43) hC dX8_formatRow_70 (by decide) ?_
      refine lx_callX hC hx (sat_X8_writes (xl X) hl 43 s15) (run_V (as := [.int 43]) (rest := []) hC hE ly8 rfl cw_X8_writes ci_X8_writes wd2070 cs_X8_writes ce_X8_writes cd_X8_writes (by decide) (by decide) (Nat.le_of_ble_eq_true rfl) dX8_formatRow_72 rfl) (fun v36 s37 _ => ?_)
      refine lx_aload_n hC dX8_formatRow_75 rfl 0 rfl ?_
      refine lx_aload_n hC dX8_formatRow_76 rfl 0 rfl ?_
      refine lx_iload_n hC dX8_formatRow_77 rfl 1 rfl ?_
      refine lx_iconstv (v := 1) hC dX8_formatRow_78 rfl ?_
      refine lx_callP hC hx (sat_X8_of (xl X) hl p0 1 s37) (run_V (as := [.int p0, .int 1]) (rest := [.ref 8]) hC hE ly8 rfl cw_X8_of ci_X8_of wd1716 cs_X8_of ce_X8_of cd_X8_of (by decide) (by decide) (Nat.le_of_ble_eq_true rfl) dX8_formatRow_79 rfl) (fun v38 _ => ?_)
      refine lx_callX hC hx (sat_X8_writesNumber (xl X) hl v38 s37) (run_V (as := [.int v38]) (rest := []) hC hE ly8 rfl cw_X8_writesNumber ci_X8_writesNumber wd2066 cs_X8_writesNumber ce_X8_writesNumber cd_X8_writesNumber (by decide) (by decide) (Nat.le_of_ble_eq_true rfl) dX8_formatRow_82 rfl) (fun v39 s40 _ => ?_)
      exact lx_sub [0, 1] rfl (l_X8_formatRow_j85 hC hE hl hx hr p0 s40 )
  · skip
    refine lx_aload_n hC dX8_formatRow_13 rfl 0 rfl ?_
    refine lx_iconstv (v := 1) hC dX8_formatRow_14 rfl ?_
    refine lx_callX hC hx (sat_X8_fails (xl X) hl 1 s1) (run_V (as := [.int 1]) (rest := []) hC hE ly8 rfl cw_X8_fails ci_X8_fails wd1676 cs_X8_fails ce_X8_fails cd_X8_fails (by decide) (by decide) (Nat.le_of_ble_eq_true rfl) dX8_formatRow_15 rfl) (fun v42 s43 _ => ?_)
    exact lx_iret hC rfl hr dX8_formatRow_18
