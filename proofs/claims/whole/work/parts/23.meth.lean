set_option maxRecDepth 100000 in
set_option maxHeartbeats 2000000 in
theorem l_X8_keeps_b47 {X : Cx} {V : Vx} {A : Nat → Prop} {adV : Nat → Nat} {c0 s0 : Nat} (hC : Cok X V A yX8_keeps.cls cX8_keeps 3) (hE : Env0 V adV A (xs X) (xs X).heap) (hl : (xl X).stackTraces = false) (hx : ∀ x ∈ (xc X).exceptionTable.toList, False) (hr : (xh X).sig.returnType = none) (x2 : Int32) (s : Mem) (kf47 : (Int32 × Mem) → Res Unit) (hk47 : ∀ a, LX X V A 30 500 c0 s0 (FM X V A (fun _ => none)) 47 [(0, .ref 8), (1, .int x2), (2, .int a.1)] [] a.2 (kf47 a)) (w2 : Int32) : LX X V A 30 500 c0 s0 (FM X V A (fun _ => none)) 47 [(0, .ref 8), (1, .int x2), (2, .int w2)] [] s (m_X8_keeps_b47 x2 s kf47 w2 ) := by
  unfold m_X8_keeps_b47
  refine lx_iload_n hC dX8_keeps_47 rfl 2 rfl ?_
  refine lx_sipush (v := 135) hC dX8_keeps_48 (by decide) ?_
  refine lx_icmp_ge hC 78 dX8_keeps_51 (by decide) ?_ ?_
  · skip
    refine lx_aload_n hC dX8_keeps_78 rfl 0 rfl ?_
    refine lx_dup_ref hC dX8_keeps_79 ?_
    refine lx_getI hC ly8 rfl 5 (by decide) rfl inX8 wd1610 dX8_keeps_80 ?_
    refine lx_iconstv (v := 1) hC dX8_keeps_83 rfl ?_
    refine lx_iadd hC dX8_keeps_84 ?_
    refine lx_putI hC ly8 rfl 5 (by decide) rfl tyX8 tyX8_ok nmX8 rfl rfl rfl inX8 wd1610 dX8_keeps_85 (fun s3 => ?_)
    exact lx_vret hC rfl hr dX8_keeps_88
  · skip
    refine lx_aload_n hC dX8_keeps_54 rfl 0 rfl ?_
    refine lx_getR (q := 200) hC ly8 rfl 2 (by decide) rfl rfl inX8 wd1607 dX8_keeps_55 ?_
    refine lx_sipush (v := 135) hC dX8_keeps_58 (by decide) ?_
    refine lx_iload_n hC dX8_keeps_61 rfl 1 rfl ?_
    refine lx_imul hC dX8_keeps_62 ?_
    refine lx_iload_n hC dX8_keeps_63 rfl 2 rfl ?_
    refine lx_iadd hC dX8_keeps_64 ?_
    refine lx_aload_n hC dX8_keeps_65 rfl 0 rfl ?_
    refine lx_getR (q := 328) hC ly8 rfl 4 (by decide) rfl rfl inX8 wd1609 dX8_keeps_66 ?_
    refine lx_iload_n hC dX8_keeps_69 rfl 2 rfl ?_
    refine lx_iaload hC ly328 dX8_keeps_70 ?_
    refine lx_iastore hC ly200 dX8_keeps_71 (fun s4 => ?_)
    refine lx_iincN (v := 1) hC dX8_keeps_72 2 rfl (by decide) rfl (fun y5 => ?_)
    refine lx_goto hC 47 dX8_keeps_75 (by decide) ?_
    exact lx_sub [1, 2, 0] rfl (hk47 (y5, s4))
set_option maxRecDepth 100000 in
set_option maxHeartbeats 2000000 in
theorem n_X8_keeps_b47 (x2 : Int32) (s : Mem) (kf47 : (Int32 × Mem) → Res Unit) (hm47 : ∀ a, Mn a.2 (kf47 a)) (w2 : Int32) : Mn s (m_X8_keeps_b47 x2 s kf47 w2 ) := by
  unfold m_X8_keeps_b47
  refine mn_if ?_ ?_
  · skip
    refine mn_put (fun s3 => ?_)
    exact mn_some
  · skip
    refine mn_if ?_ mn_none
    refine mn_if ?_ mn_none
    refine mn_put (fun s4 => ?_)
    refine mn_vl (fun y5 => ?_)
    exact hm47 (y5, s4)
set_option maxRecDepth 100000 in
set_option maxHeartbeats 2000000 in
theorem l_X8_keeps_j32 {X : Cx} {V : Vx} {A : Nat → Prop} {adV : Nat → Nat} {c0 s0 : Nat} (hC : Cok X V A yX8_keeps.cls cX8_keeps 3) (hE : Env0 V adV A (xs X) (xs X).heap) (hl : (xl X).stackTraces = false) (hx : ∀ x ∈ (xc X).exceptionTable.toList, False) (hr : (xh X).sig.returnType = none) (s : Mem) : LX X V A 30 500 c0 s0 (FM X V A (fun _ => none)) 32 [(0, .ref 8)] [] s (m_X8_keeps_j32 s ) := by
  unfold m_X8_keeps_j32
  refine lx_aload_n hC dX8_keeps_32 rfl 0 rfl ?_
  refine lx_getI hC ly8 rfl 6 (by decide) rfl inX8 wd1611 dX8_keeps_33 ?_
  refine lx_aload_n hC dX8_keeps_36 rfl 0 rfl ?_
  refine lx_getI hC ly8 rfl 5 (by decide) rfl inX8 wd1610 dX8_keeps_37 ?_
  refine lx_iadd hC dX8_keeps_40 ?_
  refine lx_bipush (v := 8) hC dX8_keeps_41 (by decide) ?_
  refine lx_irem hC dX8_keeps_43 (by decide) ?_
  refine lx_istore_nN hC dX8_keeps_44 rfl (by decide) (fun y1 => ?_)
  refine lx_iconstv (v := 0) hC dX8_keeps_45 rfl ?_
  refine lx_istore_n hC dX8_keeps_46 rfl (by decide) ?_
  refine lx_sub [2, 1, 0] rfl ?_
  exact lx_lp (lv := fun a => [(0, .ref 8), (1, .int y1), (2, .int a.1)]) (st := fun _ => []) (sg := fun a => a.2) (fun kf hq a => l_X8_keeps_b47 hC hE hl hx hr y1 a.2 kf hq a.1) FUEL (0, s)
set_option maxRecDepth 100000 in
set_option maxHeartbeats 2000000 in
theorem n_X8_keeps_j32 (s : Mem) : Mn s (m_X8_keeps_j32 s ) := by
  unfold m_X8_keeps_j32
  refine mn_vl (fun y1 => ?_)
  exact mn_lp (sg := fun a => a.2) (fun kf hq a => n_X8_keeps_b47 y1 a.2 kf hq a.1) FUEL (0, s)
set_option maxRecDepth 100000 in
set_option maxHeartbeats 2000000 in
theorem n_X8_keeps (s : Mem) : Mn s (m_X8_keeps s) := by
  unfold m_X8_keeps
  refine mn_if ?_ ?_
  · skip
    exact n_X8_keeps_j32 s 
  · skip
    refine mn_put (fun s6 => ?_)
    refine mn_put (fun s7 => ?_)
    exact n_X8_keeps_j32 s7 
set_option maxRecDepth 100000 in
set_option maxHeartbeats 2000000 in
theorem sat_X8_keeps (l : Launch) (hl : l.stackTraces = false) (s : Mem) : Sat l yX8_keeps (.code yX8_keeps cX8_keeps 3 (none)) 30 500 (fun _ => none) [.ref 8] s (m_X8_keeps s) := by
  refine sat_of hl (by decide) (Nat.le_of_ble_eq_true rfl) (fun X V A adV hxl hC hE hx hr => ?_) (n_X8_keeps s)
  subst hxl
  show LX X V A 30 500 (nC s) (nS s) _ 0 [(0, .ref 8)] [] s _
  unfold m_X8_keeps
  refine lx_aload_n hC dX8_keeps_0 rfl 0 rfl ?_
  refine lx_getI hC ly8 rfl 5 (by decide) rfl inX8 wd1610 dX8_keeps_1 ?_
  refine lx_bipush (v := 8) hC dX8_keeps_4 (by decide) ?_
  refine lx_icmp_ne hC 32 dX8_keeps_6 (by decide) ?_ ?_
  · skip
    exact lx_sub [0] rfl (l_X8_keeps_j32 hC hE hl hx hr s )
  · skip
    refine lx_aload_n hC dX8_keeps_9 rfl 0 rfl ?_
    refine lx_aload_n hC dX8_keeps_10 rfl 0 rfl ?_
    refine lx_getI hC ly8 rfl 6 (by decide) rfl inX8 wd1611 dX8_keeps_11 ?_
    refine lx_iconstv (v := 1) hC dX8_keeps_14 rfl ?_
    refine lx_iadd hC dX8_keeps_15 ?_
    refine lx_bipush (v := 8) hC dX8_keeps_16 (by decide) ?_
    refine lx_irem hC dX8_keeps_18 (by decide) ?_
    refine lx_putI hC ly8 rfl 6 (by decide) rfl tyX8 tyX8_ok nmX8 rfl rfl rfl inX8 wd1611 dX8_keeps_19 (fun s6 => ?_)
    refine lx_aload_n hC dX8_keeps_22 rfl 0 rfl ?_
    refine lx_dup_ref hC dX8_keeps_23 ?_
    refine lx_getI hC ly8 rfl 5 (by decide) rfl inX8 wd1610 dX8_keeps_24 ?_
    refine lx_iconstv (v := 1) hC dX8_keeps_27 rfl ?_
    refine lx_isub hC dX8_keeps_28 ?_
    refine lx_putI hC ly8 rfl 5 (by decide) rfl tyX8 tyX8_ok nmX8 rfl rfl rfl inX8 wd1610 dX8_keeps_29 (fun s7 => ?_)
    exact lx_sub [0] rfl (l_X8_keeps_j32 hC hE hl hx hr s7 )
set_option maxRecDepth 100000 in
set_option maxHeartbeats 2000000 in
theorem n_X8_remembers (s : Mem) : Mn s (m_X8_remembers s) := by
  unfold m_X8_remembers
  refine mn_bind (n_X8_copies s) (fun v1 s2 => ?_)
  refine mn_bind (n_X8_keeps s2) (fun v3 s4 => ?_)
  exact mn_some
set_option maxRecDepth 100000 in
set_option maxHeartbeats 2000000 in
theorem sat_X8_remembers (l : Launch) (hl : l.stackTraces = false) (s : Mem) : Sat l yX8_remembers (.code yX8_remembers cX8_remembers 1 (none)) 31 522 (fun _ => none) [.ref 8] s (m_X8_remembers s) := by
  refine sat_of hl (by decide) (Nat.le_of_ble_eq_true rfl) (fun X V A adV hxl hC hE hx hr => ?_) (n_X8_remembers s)
  subst hxl
  show LX X V A 31 522 (nC s) (nS s) _ 0 [(0, .ref 8)] [] s _
  unfold m_X8_remembers
  refine lx_aload_n hC dX8_remembers_0 rfl 0 rfl ?_
  refine lx_callX hC hx (sat_X8_copies (xl X) hl s) (run_V (as := []) (rest := []) hC hE ly8 rfl cw_X8_copies ci_X8_copies wd1684 cs_X8_copies ce_X8_copies cd_X8_copies (by decide) (by decide) (Nat.le_of_ble_eq_true rfl) dX8_remembers_1 rfl) (fun v1 s2 _ => ?_)
  refine lx_aload_n hC dX8_remembers_4 rfl 0 rfl ?_
  refine lx_callX hC hx (sat_X8_keeps (xl X) hl s2) (run_V (as := []) (rest := []) hC hE ly8 rfl cw_X8_keeps ci_X8_keeps wd1688 cs_X8_keeps ce_X8_keeps cd_X8_keeps (by decide) (by decide) (Nat.le_of_ble_eq_true rfl) dX8_remembers_5 rfl) (fun v3 s4 _ => ?_)
  exact lx_vret hC rfl hr dX8_remembers_8
set_option maxRecDepth 100000 in
set_option maxHeartbeats 2000000 in
theorem sat_X8_of (l : Launch) (hl : l.stackTraces = false) (p0 : Int32) (p1 : Int32) (s : Mem) : Sat l yX8_of (.code yX8_of cX8_of 3 (some .int)) 30 500 (fun x => some (.int x)) [.ref 8, .int p0, .int p1] s (pur s (m_X8_of p0 p1 s)) := by
  refine sat_of hl (by decide) (Nat.le_of_ble_eq_true rfl) (fun X V A adV hxl hC hE hx hr => ?_) pur_mono
  subst hxl
  show LX X V A 30 500 (nC s) (nS s) _ 0 [(0, .ref 8), (1, .int p0), (2, .int p1)] [] s _
  unfold m_X8_of
  refine lx_aload_n hC dX8_of_0 rfl 0 rfl ?_
  refine lx_getR (q := 136) hC ly8 rfl 1 (by decide) rfl rfl inX8 wd1606 dX8_of_1 ?_
  refine lx_bipush (v := 15) hC dX8_of_4 (by decide) ?_
  refine lx_iconstv (v := 3) hC dX8_of_6 rfl ?_
  refine lx_iload_n hC dX8_of_7 rfl 1 rfl ?_
  refine lx_imul hC dX8_of_8 ?_
  refine lx_iadd hC dX8_of_9 ?_
  refine lx_iload_n hC dX8_of_10 rfl 2 rfl ?_
  refine lx_iadd hC dX8_of_11 ?_
  refine lq_iaload hC ly136 dX8_of_12 ?_
  exact lx_iret hC rfl hr dX8_of_13
set_option maxRecDepth 100000 in
set_option maxHeartbeats 2000000 in
theorem n_X8_puts (p0 : Int32) (p1 : Int32) (p2 : Int32) (s : Mem) : Mn s (m_X8_puts p0 p1 p2 s) := by
  unfold m_X8_puts
  refine mn_if ?_ mn_none
  refine mn_put (fun s1 => ?_)
  exact mn_some
set_option maxRecDepth 100000 in
set_option maxHeartbeats 2000000 in
theorem sat_X8_puts (l : Launch) (hl : l.stackTraces = false) (p0 : Int32) (p1 : Int32) (p2 : Int32) (s : Mem) : Sat l yX8_puts (.code yX8_puts cX8_puts 4 (none)) 30 500 (fun _ => none) [.ref 8, .int p0, .int p1, .int p2] s (m_X8_puts p0 p1 p2 s) := by
  refine sat_of hl (by decide) (Nat.le_of_ble_eq_true rfl) (fun X V A adV hxl hC hE hx hr => ?_) (n_X8_puts p0 p1 p2 s)
  subst hxl
  show LX X V A 30 500 (nC s) (nS s) _ 0 [(0, .ref 8), (1, .int p0), (2, .int p1), (3, .int p2)] [] s _
  unfold m_X8_puts
  refine lx_aload_n hC dX8_puts_0 rfl 0 rfl ?_
  refine lx_getR (q := 136) hC ly8 rfl 1 (by decide) rfl rfl inX8 wd1606 dX8_puts_1 ?_
  refine lx_bipush (v := 15) hC dX8_puts_4 (by decide) ?_
  refine lx_iconstv (v := 3) hC dX8_puts_6 rfl ?_
  refine lx_iload_n hC dX8_puts_7 rfl 1 rfl ?_
  refine lx_imul hC dX8_puts_8 ?_
  refine lx_iadd hC dX8_puts_9 ?_
  refine lx_iload_n hC dX8_puts_10 rfl 2 rfl ?_
  refine lx_iadd hC dX8_puts_11 ?_
  refine lx_iload_n hC dX8_puts_12 rfl 3 rfl ?_
  refine lx_iastore hC ly136 dX8_puts_13 (fun s1 => ?_)
  exact lx_vret hC rfl hr dX8_puts_14
set_option maxRecDepth 100000 in
set_option maxHeartbeats 2000000 in
theorem sat_X8_isRow (l : Launch) (hl : l.stackTraces = false) (p0 : Int32) (s : Mem) : Sat l yX8_isRow (.code yX8_isRow cX8_isRow 2 (some .boolean)) 31 522 (fun x => some (.int x)) [.ref 8, .int p0] s (pur s (m_X8_isRow p0 s)) := by
  refine sat_of hl (by decide) (Nat.le_of_ble_eq_true rfl) (fun X V A adV hxl hC hE hx hr => ?_) pur_mono
  subst hxl
  show LX X V A 31 522 (nC s) (nS s) _ 0 [(0, .ref 8), (1, .int p0)] [] s _
  unfold m_X8_isRow
  refine lx_iload_n hC dX8_isRow_0 rfl 1 rfl ?_
  refine lx_iconstv (v := 0) hC dX8_isRow_1 rfl ?_
  refine lx_aload_n hC dX8_isRow_2 rfl 0 rfl ?_
  refine lx_getR (q := 136) hC ly8 rfl 1 (by decide) rfl rfl inX8 wd1606 dX8_isRow_3 ?_
  refine lx_iconstv (v := 0) hC dX8_isRow_6 rfl ?_
  refine lq_iaload hC ly136 dX8_isRow_7 ?_
  refine lx_iconstv (v := 1) hC dX8_isRow_8 rfl ?_
  refine lx_isub hC dX8_isRow_9 ?_
  refine lq_call hC hx (sat_X8_isBetween (xl X) hl p0 0 ((gI s 136 (0 : Int32).toNatClampNeg) - 1) s) (run_S (as := [.int p0, .int 0, .int ((gI s 136 (0 : Int32).toNatClampNeg) - 1)]) (rest := []) hC hE cw_X8_isBetween ci_X8_isBetween wd1673 cs_X8_isBetween cd_X8_isBetween (by decide) (by decide) (Nat.le_of_ble_eq_true rfl) dX8_isRow_10 rfl) (fun v1 _ => ?_)
  exact lq_zretn hC rfl hr (by simp) dX8_isRow_13
set_option maxRecDepth 100000 in
set_option maxHeartbeats 2000000 in
theorem sat_X8_isLockedRow (l : Launch) (hl : l.stackTraces = false) (p0 : Int32) (s : Mem) : Sat l yX8_isLockedRow (.code yX8_isLockedRow cX8_isLockedRow 2 (some .boolean)) 31 522 (fun x => some (.int x)) [.ref 8, .int p0] s (pur s (m_X8_isLockedRow p0 s)) := by
  refine sat_of hl (by decide) (Nat.le_of_ble_eq_true rfl) (fun X V A adV hxl hC hE hx hr => ?_) pur_mono
  subst hxl
  show LX X V A 31 522 (nC s) (nS s) _ 0 [(0, .ref 8), (1, .int p0)] [] s _
  unfold m_X8_isLockedRow
  refine lx_aload_n hC dX8_isLockedRow_0 rfl 0 rfl ?_
  refine lx_iload_n hC dX8_isLockedRow_1 rfl 1 rfl ?_
  refine lx_iconstv (v := 2) hC dX8_isLockedRow_2 rfl ?_
  refine lq_call hC hx (sat_X8_of (xl X) hl p0 2 s) (run_V (as := [.int p0, .int 2]) (rest := []) hC hE ly8 rfl cw_X8_of ci_X8_of wd1716 cs_X8_of ce_X8_of cd_X8_of (by decide) (by decide) (Nat.le_of_ble_eq_true rfl) dX8_isLockedRow_3 rfl) (fun v1 _ => ?_)
  refine lx_iconstv (v := 1) hC dX8_isLockedRow_6 rfl ?_
  refine lq_icmp_ne hC 14 dX8_isLockedRow_7 (by decide) ?_ ?_
  · skip
    refine lx_iconstv (v := 0) hC dX8_isLockedRow_14 rfl ?_
    exact lx_zret hC rfl hr rfl dX8_isLockedRow_15
  · skip
    refine lx_iconstv (v := 1) hC dX8_isLockedRow_10 rfl ?_
    refine lx_goto hC 15 dX8_isLockedRow_11 (by decide) ?_
    exact lx_zret hC rfl hr rfl dX8_isLockedRow_15
set_option maxRecDepth 100000 in
set_option maxHeartbeats 2000000 in
theorem sat_X8_is (l : Launch) (hl : l.stackTraces = false) (p0 : Int32) (p1 : Int32) (s : Mem) : Sat l yX8_is (.code yX8_is cX8_is 3 (some .int)) 30 500 (fun x => some (.int x)) [.ref 8, .int p0, .int p1] s (pur s (m_X8_is p0 p1 s)) := by
  refine sat_of hl (by decide) (Nat.le_of_ble_eq_true rfl) (fun X V A adV hxl hC hE hx hr => ?_) pur_mono
  subst hxl
  show LX X V A 30 500 (nC s) (nS s) _ 0 [(0, .ref 8), (1, .int p0), (2, .int p1)] [] s _
  unfold m_X8_is
  refine lx_aload_n hC dX8_is_0 rfl 0 rfl ?_
  refine lx_getR (q := 136) hC ly8 rfl 1 (by decide) rfl rfl inX8 wd1606 dX8_is_1 ?_
  refine lx_bipush (v := 39) hC dX8_is_4 (by decide) ?_
  refine lx_iconstv (v := 4) hC dX8_is_6 rfl ?_
  refine lx_iload_n hC dX8_is_7 rfl 1 rfl ?_
  refine lx_imul hC dX8_is_8 ?_
  refine lx_iadd hC dX8_is_9 ?_
  refine lx_iload_n hC dX8_is_10 rfl 2 rfl ?_
  refine lx_iadd hC dX8_is_11 ?_
  refine lq_iaload hC ly136 dX8_is_12 ?_
  exact lx_iret hC rfl hr dX8_is_13
set_option maxRecDepth 100000 in
set_option maxHeartbeats 2000000 in
theorem n_X8_sets (p0 : Int32) (p1 : Int32) (p2 : Int32) (s : Mem) : Mn s (m_X8_sets p0 p1 p2 s) := by
  unfold m_X8_sets
  refine mn_if ?_ mn_none
  refine mn_put (fun s1 => ?_)
  exact mn_some
set_option maxRecDepth 100000 in
set_option maxHeartbeats 2000000 in
theorem sat_X8_sets (l : Launch) (hl : l.stackTraces = false) (p0 : Int32) (p1 : Int32) (p2 : Int32) (s : Mem) : Sat l yX8_sets (.code yX8_sets cX8_sets 4 (none)) 30 500 (fun _ => none) [.ref 8, .int p0, .int p1, .int p2] s (m_X8_sets p0 p1 p2 s) := by
  refine sat_of hl (by decide) (Nat.le_of_ble_eq_true rfl) (fun X V A adV hxl hC hE hx hr => ?_) (n_X8_sets p0 p1 p2 s)
  subst hxl
  show LX X V A 30 500 (nC s) (nS s) _ 0 [(0, .ref 8), (1, .int p0), (2, .int p1), (3, .int p2)] [] s _
  unfold m_X8_sets
  refine lx_aload_n hC dX8_sets_0 rfl 0 rfl ?_
  refine lx_getR (q := 136) hC ly8 rfl 1 (by decide) rfl rfl inX8 wd1606 dX8_sets_1 ?_
  refine lx_bipush (v := 39) hC dX8_sets_4 (by decide) ?_
  refine lx_iconstv (v := 4) hC dX8_sets_6 rfl ?_
  refine lx_iload_n hC dX8_sets_7 rfl 1 rfl ?_
  refine lx_imul hC dX8_sets_8 ?_
  refine lx_iadd hC dX8_sets_9 ?_
  refine lx_iload_n hC dX8_sets_10 rfl 2 rfl ?_
  refine lx_iadd hC dX8_sets_11 ?_
  refine lx_iload_n hC dX8_sets_12 rfl 3 rfl ?_
  refine lx_iastore hC ly136 dX8_sets_13 (fun s1 => ?_)
  exact lx_vret hC rfl hr dX8_sets_14
set_option maxRecDepth 100000 in
set_option maxHeartbeats 2000000 in
theorem l_X8_slotOf_b2 {X : Cx} {V : Vx} {A : Nat → Prop} {adV : Nat → Nat} {c0 s0 : Nat} (hC : Cok X V A yX8_slotOf.cls cX8_slotOf 3) (hE : Env0 V adV A (xs X) (xs X).heap) (hl : (xl X).stackTraces = false) (hx : ∀ x ∈ (xc X).exceptionTable.toList, False) (hr : (xh X).sig.returnType = some .int) (x1 : Int32) (s : Mem) (kf2 : Int32 → Option Int32) (hk2 : ∀ a, LX X V A 31 522 c0 s0 (FM X V A (fun x => some (.int x))) 2 [(0, .ref 8), (1, .int x1), (2, .int a)] [] s (pur s (kf2 a))) (w2 : Int32) : LX X V A 31 522 c0 s0 (FM X V A (fun x => some (.int x))) 2 [(0, .ref 8), (1, .int x1), (2, .int w2)] [] s (pur s (m_X8_slotOf_b2 x1 s kf2 w2 )) := by
  unfold m_X8_slotOf_b2
  refine lx_iload_n hC dX8_slotOf_2 rfl 2 rfl ?_
  refine lx_aload_n hC dX8_slotOf_3 rfl 0 rfl ?_
  refine lx_getR (q := 136) hC ly8 rfl 1 (by decide) rfl rfl inX8 wd1606 dX8_slotOf_4 ?_
  refine lx_iconstv (v := 1) hC dX8_slotOf_7 rfl ?_
  refine lq_iaload hC ly136 dX8_slotOf_8 ?_
  refine lq_icmp_ge hC 30 dX8_slotOf_9 (by decide) ?_ ?_
  · skip
    refine lx_iconstv (v := (-1)) hC dX8_slotOf_30 rfl ?_
    exact lx_iret hC rfl hr dX8_slotOf_31
  · skip
    refine lx_aload_n hC dX8_slotOf_12 rfl 0 rfl ?_
    refine lx_iload_n hC dX8_slotOf_13 rfl 2 rfl ?_
    refine lx_iconstv (v := 0) hC dX8_slotOf_14 rfl ?_
    refine lq_call hC hx (sat_X8_is (xl X) hl w2 0 s) (run_V (as := [.int w2, .int 0]) (rest := []) hC hE ly8 rfl cw_X8_is ci_X8_is wd1740 cs_X8_is ce_X8_is cd_X8_is (by decide) (by decide) (Nat.le_of_ble_eq_true rfl) dX8_slotOf_15 rfl) (fun v2 _ => ?_)
    refine lx_iload_n hC dX8_slotOf_18 rfl 1 rfl ?_
    refine lq_icmp_ne hC 24 dX8_slotOf_19 (by decide) ?_ ?_
    · skip
      refine lq_iincN (v := 1) hC dX8_slotOf_24 2 rfl (by decide) rfl (fun y3 => ?_)
      refine lx_goto hC 2 dX8_slotOf_27 (by decide) ?_
      exact lx_sub [1, 2, 0] rfl (hk2 y3)
    · skip
      refine lx_iload_n hC dX8_slotOf_22 rfl 2 rfl ?_
      exact lx_iret hC rfl hr dX8_slotOf_23
set_option maxRecDepth 100000 in
set_option maxHeartbeats 2000000 in
theorem sat_X8_slotOf (l : Launch) (hl : l.stackTraces = false) (p0 : Int32) (s : Mem) : Sat l yX8_slotOf (.code yX8_slotOf cX8_slotOf 3 (some .int)) 31 522 (fun x => some (.int x)) [.ref 8, .int p0] s (pur s (m_X8_slotOf p0 s)) := by
  refine sat_of hl (by decide) (Nat.le_of_ble_eq_true rfl) (fun X V A adV hxl hC hE hx hr => ?_) pur_mono
  subst hxl
  show LX X V A 31 522 (nC s) (nS s) _ 0 [(0, .ref 8), (1, .int p0)] [] s _
  unfold m_X8_slotOf
  refine lx_iconstv (v := 0) hC dX8_slotOf_0 rfl ?_
  refine lx_istore_n hC dX8_slotOf_1 rfl (by decide) ?_
  refine lx_sub [1, 2, 0] rfl ?_
  exact lq_lp (lv := fun a => [(0, .ref 8), (1, .int p0), (2, .int a)]) (st := fun _ => []) (fun kf hq a => l_X8_slotOf_b2 hC hE hl hx hr p0 s kf hq a) FUEL 0
set_option maxRecDepth 100000 in
set_option maxHeartbeats 2000000 in
theorem l_X8_countIn_b4 {X : Cx} {V : Vx} {A : Nat → Prop} {adV : Nat → Nat} {c0 s0 : Nat} (hC : Cok X V A yX8_countIn.cls cX8_countIn 4) (hE : Env0 V adV A (xs X) (xs X).heap) (hl : (xl X).stackTraces = false) (hx : ∀ x ∈ (xc X).exceptionTable.toList, False) (hr : (xh X).sig.returnType = some .int) (x1 : Int32) (s : Mem) (kf4 : (Int32 × Int32) → Option Int32) (hk4 : ∀ a, LX X V A 31 522 c0 s0 (FM X V A (fun x => some (.int x))) 4 [(0, .ref 8), (1, .int x1), (2, .int a.1), (3, .int a.2)] [] s (pur s (kf4 a))) (w2 : Int32) (w3 : Int32) : LX X V A 31 522 c0 s0 (FM X V A (fun x => some (.int x))) 4 [(0, .ref 8), (1, .int x1), (2, .int w2), (3, .int w3)] [] s (pur s (m_X8_countIn_b4 x1 s kf4 w2 w3 )) := by
  unfold m_X8_countIn_b4
  refine lx_iload_n hC dX8_countIn_4 rfl 3 rfl ?_
  refine lx_aload_n hC dX8_countIn_5 rfl 0 rfl ?_
  refine lx_getR (q := 136) hC ly8 rfl 1 (by decide) rfl rfl inX8 wd1606 dX8_countIn_6 ?_
  refine lx_iconstv (v := 1) hC dX8_countIn_9 rfl ?_
  refine lq_iaload hC ly136 dX8_countIn_10 ?_
  refine lq_icmp_ge hC 38 dX8_countIn_11 (by decide) ?_ ?_
  · skip
    refine lx_iload_n hC dX8_countIn_38 rfl 2 rfl ?_
    exact lx_iret hC rfl hr dX8_countIn_39
  · skip
    refine lx_iload_n hC dX8_countIn_14 rfl 2 rfl ?_
    refine lx_aload_n hC dX8_countIn_15 rfl 0 rfl ?_
    refine lx_iload_n hC dX8_countIn_16 rfl 3 rfl ?_
    refine lx_iconstv (v := 1) hC dX8_countIn_17 rfl ?_
    refine lq_call hC hx (sat_X8_is (xl X) hl w3 1 s) (run_V (as := [.int w3, .int 1]) (rest := [.int w2]) hC hE ly8 rfl cw_X8_is ci_X8_is wd1740 cs_X8_is ce_X8_is cd_X8_is (by decide) (by decide) (Nat.le_of_ble_eq_true rfl) dX8_countIn_18 rfl) (fun v2 _ => ?_)
    refine lx_iload_n hC dX8_countIn_21 rfl 1 rfl ?_
    refine lq_icmp_ne hC 29 dX8_countIn_22 (by decide) ?_ ?_
    · skip
      refine lx_iconstv (v := 0) hC dX8_countIn_29 rfl ?_
      refine lx_iadd hC dX8_countIn_30 ?_
      refine lq_istore_nN hC dX8_countIn_31 rfl (by decide) (fun y3 => ?_)
      refine lq_iincN (v := 1) hC dX8_countIn_32 3 rfl (by decide) rfl (fun y4 => ?_)
      refine lx_goto hC 4 dX8_countIn_35 (by decide) ?_
      exact lx_sub [2, 3, 1, 0] rfl (hk4 (y3, y4))
    · skip
      refine lx_iconstv (v := 1) hC dX8_countIn_25 rfl ?_
      refine lx_goto hC 30 dX8_countIn_26 (by decide) ?_
      refine lx_iadd hC dX8_countIn_30 ?_
      refine lq_istore_nN hC dX8_countIn_31 rfl (by decide) (fun y5 => ?_)
      refine lq_iincN (v := 1) hC dX8_countIn_32 3 rfl (by decide) rfl (fun y6 => ?_)
      refine lx_goto hC 4 dX8_countIn_35 (by decide) ?_
      exact lx_sub [2, 3, 1, 0] rfl (hk4 (y5, y6))
set_option maxRecDepth 100000 in
set_option maxHeartbeats 2000000 in
theorem sat_X8_countIn (l : Launch) (hl : l.stackTraces = false) (p0 : Int32) (s : Mem) : Sat l yX8_countIn (.code yX8_countIn cX8_countIn 4 (some .int)) 31 522 (fun x => some (.int x)) [.ref 8, .int p0] s (pur s (m_X8_countIn p0 s)) := by
  refine sat_of hl (by decide) (Nat.le_of_ble_eq_true rfl) (fun X V A adV hxl hC hE hx hr => ?_) pur_mono
  subst hxl
  show LX X V A 31 522 (nC s) (nS s) _ 0 [(0, .ref 8), (1, .int p0)] [] s _
  unfold m_X8_countIn
  refine lx_iconstv (v := 0) hC dX8_countIn_0 rfl ?_
  refine lx_istore_n hC dX8_countIn_1 rfl (by decide) ?_
  refine lx_iconstv (v := 0) hC dX8_countIn_2 rfl ?_
  refine lx_istore_n hC dX8_countIn_3 rfl (by decide) ?_
  refine lx_sub [2, 3, 1, 0] rfl ?_
  exact lq_lp (lv := fun a => [(0, .ref 8), (1, .int p0), (2, .int a.1), (3, .int a.2)]) (st := fun _ => []) (fun kf hq a => l_X8_countIn_b4 hC hE hl hx hr p0 s kf hq a.1 a.2) FUEL (0, 0)
set_option maxRecDepth 100000 in
set_option maxHeartbeats 2000000 in
theorem sat_X8_roomIn (l : Launch) (hl : l.stackTraces = false) (p0 : Int32) (s : Mem) : Sat l yX8_roomIn (.code yX8_roomIn cX8_roomIn 2 (some .int)) 32 545 (fun x => some (.int x)) [.ref 8, .int p0] s (pur s (m_X8_roomIn p0 s)) := by
  refine sat_of hl (by decide) (Nat.le_of_ble_eq_true rfl) (fun X V A adV hxl hC hE hx hr => ?_) pur_mono
  subst hxl
  show LX X V A 32 545 (nC s) (nS s) _ 0 [(0, .ref 8), (1, .int p0)] [] s _
  unfold m_X8_roomIn
  refine lx_aload_n hC dX8_roomIn_0 rfl 0 rfl ?_
  refine lx_iload_n hC dX8_roomIn_1 rfl 1 rfl ?_
  refine lx_iconstv (v := 0) hC dX8_roomIn_2 rfl ?_
  refine lq_call hC hx (sat_X8_of (xl X) hl p0 0 s) (run_V (as := [.int p0, .int 0]) (rest := []) hC hE ly8 rfl cw_X8_of ci_X8_of wd1716 cs_X8_of ce_X8_of cd_X8_of (by decide) (by decide) (Nat.le_of_ble_eq_true rfl) dX8_roomIn_3 rfl) (fun v1 _ => ?_)
  refine lx_aload_n hC dX8_roomIn_6 rfl 0 rfl ?_
  refine lx_iload_n hC dX8_roomIn_7 rfl 1 rfl ?_
  refine lx_iconstv (v := 1) hC dX8_roomIn_8 rfl ?_
  refine lq_call hC hx (sat_X8_of (xl X) hl p0 1 s) (run_V (as := [.int p0, .int 1]) (rest := [.int v1]) hC hE ly8 rfl cw_X8_of ci_X8_of wd1716 cs_X8_of ce_X8_of cd_X8_of (by decide) (by decide) (Nat.le_of_ble_eq_true rfl) dX8_roomIn_9 rfl) (fun v2 _ => ?_)
  refine lx_iadd hC dX8_roomIn_12 ?_
  refine lx_aload_n hC dX8_roomIn_13 rfl 0 rfl ?_
  refine lx_iload_n hC dX8_roomIn_14 rfl 1 rfl ?_
  refine lq_call hC hx (sat_X8_countIn (xl X) hl p0 s) (run_V (as := [.int p0]) (rest := [.int (v1 + v2)]) hC hE ly8 rfl cw_X8_countIn ci_X8_countIn wd1736 cs_X8_countIn ce_X8_countIn cd_X8_countIn (by decide) (by decide) (Nat.le_of_ble_eq_true rfl) dX8_roomIn_15 rfl) (fun v3 _ => ?_)
  refine lx_isub hC dX8_roomIn_18 ?_
  exact lx_iret hC rfl hr dX8_roomIn_19
set_option maxRecDepth 100000 in
set_option maxHeartbeats 2000000 in
theorem sat_X8_isCrowdedRow (l : Launch) (hl : l.stackTraces = false) (p0 : Int32) (s : Mem) : Sat l yX8_isCrowdedRow (.code yX8_isCrowdedRow cX8_isCrowdedRow 2 (some .boolean)) 32 545 (fun x => some (.int x)) [.ref 8, .int p0] s (pur s (m_X8_isCrowdedRow p0 s)) := by
  refine sat_of hl (by decide) (Nat.le_of_ble_eq_true rfl) (fun X V A adV hxl hC hE hx hr => ?_) pur_mono
  subst hxl
  show LX X V A 32 545 (nC s) (nS s) _ 0 [(0, .ref 8), (1, .int p0)] [] s _
  unfold m_X8_isCrowdedRow
  refine lx_aload_n hC dX8_isCrowdedRow_0 rfl 0 rfl ?_
  refine lx_iload_n hC dX8_isCrowdedRow_1 rfl 1 rfl ?_
  refine lq_call hC hx (sat_X8_countIn (xl X) hl p0 s) (run_V (as := [.int p0]) (rest := []) hC hE ly8 rfl cw_X8_countIn ci_X8_countIn wd1736 cs_X8_countIn ce_X8_countIn cd_X8_countIn (by decide) (by decide) (Nat.le_of_ble_eq_true rfl) dX8_isCrowdedRow_2 rfl) (fun v1 _ => ?_)
  refine lx_aload_n hC dX8_isCrowdedRow_5 rfl 0 rfl ?_
  refine lx_iload_n hC dX8_isCrowdedRow_6 rfl 1 rfl ?_
  refine lx_iconstv (v := 0) hC dX8_isCrowdedRow_7 rfl ?_
  refine lq_call hC hx (sat_X8_of (xl X) hl p0 0 s) (run_V (as := [.int p0, .int 0]) (rest := [.int v1]) hC hE ly8 rfl cw_X8_of ci_X8_of wd1716 cs_X8_of ce_X8_of cd_X8_of (by decide) (by decide) (Nat.le_of_ble_eq_true rfl) dX8_isCrowdedRow_8 rfl) (fun v2 _ => ?_)
  refine lq_icmp_le hC 18 dX8_isCrowdedRow_11 (by decide) ?_ ?_
  · skip
    refine lx_iconstv (v := 0) hC dX8_isCrowdedRow_18 rfl ?_
    exact lx_zret hC rfl hr rfl dX8_isCrowdedRow_19
  · skip
    refine lx_iconstv (v := 1) hC dX8_isCrowdedRow_14 rfl ?_
    refine lx_goto hC 19 dX8_isCrowdedRow_15 (by decide) ?_
    exact lx_zret hC rfl hr rfl dX8_isCrowdedRow_19
set_option maxRecDepth 100000 in
set_option maxHeartbeats 2000000 in
theorem l_X8_lockedRows_b4 {X : Cx} {V : Vx} {A : Nat → Prop} {adV : Nat → Nat} {c0 s0 : Nat} (hC : Cok X V A yX8_lockedRows.cls cX8_lockedRows 3) (hE : Env0 V adV A (xs X) (xs X).heap) (hl : (xl X).stackTraces = false) (hx : ∀ x ∈ (xc X).exceptionTable.toList, False) (hr : (xh X).sig.returnType = some .int) (s : Mem) (kf4 : (Int32 × Int32) → Option Int32) (hk4 : ∀ a, LX X V A 31 522 c0 s0 (FM X V A (fun x => some (.int x))) 4 [(0, .ref 8), (1, .int a.1), (2, .int a.2)] [] s (pur s (kf4 a))) (w1 : Int32) (w2 : Int32) : LX X V A 31 522 c0 s0 (FM X V A (fun x => some (.int x))) 4 [(0, .ref 8), (1, .int w1), (2, .int w2)] [] s (pur s (m_X8_lockedRows_b4 s kf4 w1 w2 )) := by
  unfold m_X8_lockedRows_b4
  refine lx_iload_n hC dX8_lockedRows_4 rfl 2 rfl ?_
  refine lx_aload_n hC dX8_lockedRows_5 rfl 0 rfl ?_
  refine lx_getR (q := 136) hC ly8 rfl 1 (by decide) rfl rfl inX8 wd1606 dX8_lockedRows_6 ?_
  refine lx_iconstv (v := 0) hC dX8_lockedRows_9 rfl ?_
  refine lq_iaload hC ly136 dX8_lockedRows_10 ?_
  refine lq_icmp_ge hC 29 dX8_lockedRows_11 (by decide) ?_ ?_
  · skip
    refine lx_iload_n hC dX8_lockedRows_29 rfl 1 rfl ?_
    exact lx_iret hC rfl hr dX8_lockedRows_30
  · skip
    refine lx_iload_n hC dX8_lockedRows_14 rfl 1 rfl ?_
    refine lx_aload_n hC dX8_lockedRows_15 rfl 0 rfl ?_
    refine lx_iload_n hC dX8_lockedRows_16 rfl 2 rfl ?_
    refine lx_iconstv (v := 2) hC dX8_lockedRows_17 rfl ?_
    refine lq_call hC hx (sat_X8_of (xl X) hl w2 2 s) (run_V (as := [.int w2, .int 2]) (rest := [.int w1]) hC hE ly8 rfl cw_X8_of ci_X8_of wd1716 cs_X8_of ce_X8_of cd_X8_of (by decide) (by decide) (Nat.le_of_ble_eq_true rfl) dX8_lockedRows_18 rfl) (fun v1 _ => ?_)
    refine lx_iadd hC dX8_lockedRows_21 ?_
    refine lq_istore_nN hC dX8_lockedRows_22 rfl (by decide) (fun y2 => ?_)
    refine lq_iincN (v := 1) hC dX8_lockedRows_23 2 rfl (by decide) rfl (fun y3 => ?_)
    refine lx_goto hC 4 dX8_lockedRows_26 (by decide) ?_
    exact lx_sub [2, 1, 0] rfl (hk4 (y2, y3))
set_option maxRecDepth 100000 in
set_option maxHeartbeats 2000000 in
theorem sat_X8_lockedRows (l : Launch) (hl : l.stackTraces = false) (s : Mem) : Sat l yX8_lockedRows (.code yX8_lockedRows cX8_lockedRows 3 (some .int)) 31 522 (fun x => some (.int x)) [.ref 8] s (pur s (m_X8_lockedRows s)) := by
  refine sat_of hl (by decide) (Nat.le_of_ble_eq_true rfl) (fun X V A adV hxl hC hE hx hr => ?_) pur_mono
  subst hxl
  show LX X V A 31 522 (nC s) (nS s) _ 0 [(0, .ref 8)] [] s _
  unfold m_X8_lockedRows
  refine lx_iconstv (v := 0) hC dX8_lockedRows_0 rfl ?_
  refine lx_istore_n hC dX8_lockedRows_1 rfl (by decide) ?_
  refine lx_iconstv (v := 0) hC dX8_lockedRows_2 rfl ?_
  refine lx_istore_n hC dX8_lockedRows_3 rfl (by decide) ?_
  refine lx_sub [2, 1, 0] rfl ?_
  exact lq_lp (lv := fun a => [(0, .ref 8), (1, .int a.1), (2, .int a.2)]) (st := fun _ => []) (fun kf hq a => l_X8_lockedRows_b4 hC hE hl hx hr s kf hq a.1 a.2) FUEL (0, 0)
set_option maxRecDepth 100000 in
set_option maxHeartbeats 2000000 in
theorem sat_X8_notAddRow (l : Launch) (hl : l.stackTraces = false) (p0 : Int32) (s : Mem) : Sat l yX8_notAddRow (.code yX8_notAddRow cX8_notAddRow 2 (some .int)) 31 522 (fun x => some (.int x)) [.ref 8, .int p0] s (pur s (m_X8_notAddRow p0 s)) := by
  refine sat_of hl (by decide) (Nat.le_of_ble_eq_true rfl) (fun X V A adV hxl hC hE hx hr => ?_) pur_mono
  subst hxl
  show LX X V A 31 522 (nC s) (nS s) _ 0 [(0, .ref 8), (1, .int p0)] [] s _
  unfold m_X8_notAddRow
  refine lx_iload_n hC dX8_notAddRow_0 rfl 1 rfl ?_
  refine lx_iconstv (v := 1) hC dX8_notAddRow_1 rfl ?_
  refine lx_bipush (v := 12) hC dX8_notAddRow_2 (by decide) ?_
  refine lq_call hC hx (sat_X8_isBetween (xl X) hl p0 1 12 s) (run_S (as := [.int p0, .int 1, .int 12]) (rest := []) hC hE cw_X8_isBetween ci_X8_isBetween wd1673 cs_X8_isBetween cd_X8_isBetween (by decide) (by decide) (Nat.le_of_ble_eq_true rfl) dX8_notAddRow_4 rfl) (fun v1 _ => ?_)
  refine lq_if_ne hC 12 dX8_notAddRow_7 (by decide) ?_ ?_
  · skip
    refine lx_aload_n hC dX8_notAddRow_12 rfl 0 rfl ?_
    refine lx_getR (q := 136) hC ly8 rfl 1 (by decide) rfl rfl inX8 wd1606 dX8_notAddRow_13 ?_
    refine lx_iconstv (v := 0) hC dX8_notAddRow_16 rfl ?_
    refine lq_iaload hC ly136 dX8_notAddRow_17 ?_
    refine lx_bipush (v := 8) hC dX8_notAddRow_18 (by decide) ?_
    refine lq_icmp_ne hC 27 dX8_notAddRow_20 (by decide) ?_ ?_
    · skip
      refine lx_iconstv (v := 0) hC dX8_notAddRow_27 rfl ?_
      exact lx_iret hC rfl hr dX8_notAddRow_28
    · skip
      refine lx_iconstv (v := 2) hC dX8_notAddRow_23 rfl ?_
      refine lx_goto hC 28 dX8_notAddRow_24 (by decide) ?_
      exact lx_iret hC rfl hr dX8_notAddRow_28
  · skip
    refine lx_iconstv (v := 1) hC dX8_notAddRow_10 rfl ?_
    exact lx_iret hC rfl hr dX8_notAddRow_11
set_option maxRecDepth 100000 in
set_option maxHeartbeats 2000000 in
theorem n_X8_addsRow (p0 : Int32) (s : Mem) : Mn s (m_X8_addsRow p0 s) := by
  unfold m_X8_addsRow
  refine mn_if ?_ mn_none
  refine mn_vl (fun y1 => ?_)
  refine mn_bind (n_X8_puts y1 0 p0 s) (fun v2 s3 => ?_)
  refine mn_bind (n_X8_puts y1 1 0 s3) (fun v4 s5 => ?_)
  refine mn_bind (n_X8_puts y1 2 0 s5) (fun v6 s7 => ?_)
  refine mn_if ?_ mn_none
  refine mn_if ?_ mn_none
  refine mn_put (fun s8 => ?_)
  exact mn_some
set_option maxRecDepth 100000 in
set_option maxHeartbeats 2000000 in
theorem sat_X8_addsRow (l : Launch) (hl : l.stackTraces = false) (p0 : Int32) (s : Mem) : Sat l yX8_addsRow (.code yX8_addsRow cX8_addsRow 3 (some .int)) 31 523 (fun x => some (.int x)) [.ref 8, .int p0] s (m_X8_addsRow p0 s) := by
  refine sat_of hl (by decide) (Nat.le_of_ble_eq_true rfl) (fun X V A adV hxl hC hE hx hr => ?_) (n_X8_addsRow p0 s)
  subst hxl
  show LX X V A 31 523 (nC s) (nS s) _ 0 [(0, .ref 8), (1, .int p0)] [] s _
  unfold m_X8_addsRow
  refine lx_aload_n hC dX8_addsRow_0 rfl 0 rfl ?_
  refine lx_getR (q := 136) hC ly8 rfl 1 (by decide) rfl rfl inX8 wd1606 dX8_addsRow_1 ?_
  refine lx_iconstv (v := 0) hC dX8_addsRow_4 rfl ?_
  refine lx_iaload hC ly136 dX8_addsRow_5 ?_
  refine lx_istore_nN hC dX8_addsRow_6 rfl (by decide) (fun y1 => ?_)
  refine lx_aload_n hC dX8_addsRow_7 rfl 1 rfl ?_
  refine lx_iload_n hC dX8_addsRow_8 rfl 0 rfl ?_
  refine lx_iconstv (v := 0) hC dX8_addsRow_9 rfl ?_
  refine lx_iload_n hC dX8_addsRow_10 rfl 2 rfl ?_
  refine lx_callX hC hx (sat_X8_puts (xl X) hl y1 0 p0 s) (run_V (as := [.int y1, .int 0, .int p0]) (rest := []) hC hE ly8 rfl cw_X8_puts ci_X8_puts wd1696 cs_X8_puts ce_X8_puts cd_X8_puts (by decide) (by decide) (Nat.le_of_ble_eq_true rfl) dX8_addsRow_11 rfl) (fun v2 s3 _ => ?_)
  refine lx_aload_n hC dX8_addsRow_14 rfl 1 rfl ?_
  refine lx_iload_n hC dX8_addsRow_15 rfl 0 rfl ?_
  refine lx_iconstv (v := 1) hC dX8_addsRow_16 rfl ?_
  refine lx_iconstv (v := 0) hC dX8_addsRow_17 rfl ?_
  refine lx_callX hC hx (sat_X8_puts (xl X) hl y1 1 0 s3) (run_V (as := [.int y1, .int 1, .int 0]) (rest := []) hC hE ly8 rfl cw_X8_puts ci_X8_puts wd1696 cs_X8_puts ce_X8_puts cd_X8_puts (by decide) (by decide) (Nat.le_of_ble_eq_true rfl) dX8_addsRow_18 rfl) (fun v4 s5 _ => ?_)
  refine lx_aload_n hC dX8_addsRow_21 rfl 1 rfl ?_
  refine lx_iload_n hC dX8_addsRow_22 rfl 0 rfl ?_
  refine lx_iconstv (v := 2) hC dX8_addsRow_23 rfl ?_
  refine lx_iconstv (v := 0) hC dX8_addsRow_24 rfl ?_
  refine lx_callX hC hx (sat_X8_puts (xl X) hl y1 2 0 s5) (run_V (as := [.int y1, .int 2, .int 0]) (rest := []) hC hE ly8 rfl cw_X8_puts ci_X8_puts wd1696 cs_X8_puts ce_X8_puts cd_X8_puts (by decide) (by decide) (Nat.le_of_ble_eq_true rfl) dX8_addsRow_25 rfl) (fun v6 s7 _ => ?_)
  refine lx_aload_n hC dX8_addsRow_28 rfl 1 rfl ?_
  refine lx_getR (q := 136) hC ly8 rfl 1 (by decide) rfl rfl inX8 wd1606 dX8_addsRow_29 ?_
  refine lx_iconstv (v := 0) hC dX8_addsRow_32 rfl ?_
  refine lx_dup2ir hC dX8_addsRow_33 ?_
  refine lx_iaload hC ly136 dX8_addsRow_34 ?_
  refine lx_iconstv (v := 1) hC dX8_addsRow_35 rfl ?_
  refine lx_iadd hC dX8_addsRow_36 ?_
  refine lx_iastore hC ly136 dX8_addsRow_37 (fun s8 => ?_)
  refine lx_iload_n hC dX8_addsRow_38 rfl 0 rfl ?_
  exact lx_iret hC rfl hr dX8_addsRow_39
set_option maxRecDepth 100000 in
set_option maxHeartbeats 2000000 in
theorem n_X8_addRow (p0 : Int32) (s : Mem) : Mn s (m_X8_addRow p0 s) := by
  unfold m_X8_addRow
  refine mn_put (fun s1 => ?_)
  refine mn_bindP (fun v2 => ?_)
  refine mn_if ?_ ?_
  · skip
    refine mn_bind (n_X8_remembers s1) (fun v3 s4 => ?_)
    refine mn_bind (n_X8_addsRow p0 s4) (fun v5 s6 => ?_)
    exact mn_some
  · skip
    refine mn_bind (n_X8_fails v2 s1) (fun v7 s8 => ?_)
    exact mn_some
set_option maxRecDepth 100000 in
set_option maxHeartbeats 2000000 in
theorem sat_X8_addRow (l : Launch) (hl : l.stackTraces = false) (p0 : Int32) (s : Mem) : Sat l yX8_addRow (.code yX8_addRow cX8_addRow 3 (some .int)) 32 545 (fun x => some (.int x)) [.ref 8, .int p0] s (m_X8_addRow p0 s) := by
  refine sat_of hl (by decide) (Nat.le_of_ble_eq_true rfl) (fun X V A adV hxl hC hE hx hr => ?_) (n_X8_addRow p0 s)
  subst hxl
  show LX X V A 32 545 (nC s) (nS s) _ 0 [(0, .ref 8), (1, .int p0)] [] s _
  unfold m_X8_addRow
  refine lx_aload_n hC dX8_addRow_0 rfl 0 rfl ?_
  refine lx_iconstv (v := 0) hC dX8_addRow_1 rfl ?_
  refine lx_putI hC ly8 rfl 0 (by decide) rfl tyX8 tyX8_ok nmX8 rfl rfl rfl inX8 wd1605 dX8_addRow_2 (fun s1 => ?_)
  refine lx_aload_n hC dX8_addRow_5 rfl 0 rfl ?_
  refine lx_iload_n hC dX8_addRow_6 rfl 1 rfl ?_
  refine lx_callP hC hx (sat_X8_notAddRow (xl X) hl p0 s1) (run_V (as := [.int p0]) (rest := []) hC hE ly8 rfl cw_X8_notAddRow ci_X8_notAddRow wd1669 cs_X8_notAddRow ce_X8_notAddRow cd_X8_notAddRow (by decide) (by decide) (Nat.le_of_ble_eq_true rfl) dX8_addRow_7 rfl) (fun v2 _ => ?_)
  refine lx_istore_n hC dX8_addRow_10 rfl (by decide) ?_
  refine lx_iload_n hC dX8_addRow_11 rfl 0 rfl ?_
  refine lx_if_eq hC 21 dX8_addRow_12 (by decide) ?_ ?_
  · skip
    refine lx_aload_n hC dX8_addRow_21 rfl 1 rfl ?_
    refine lx_callX hC hx (sat_X8_remembers (xl X) hl s1) (run_V (as := []) (rest := []) hC hE ly8 rfl cw_X8_remembers ci_X8_remembers wd1680 cs_X8_remembers ce_X8_remembers cd_X8_remembers (by decide) (by decide) (Nat.le_of_ble_eq_true rfl) dX8_addRow_22 rfl) (fun v3 s4 _ => ?_)
    refine lx_aload_n hC dX8_addRow_25 rfl 1 rfl ?_
    refine lx_iload_n hC dX8_addRow_26 rfl 2 rfl ?_
    refine lx_callX hC hx (sat_X8_addsRow (xl X) hl p0 s4) (run_V (as := [.int p0]) (rest := []) hC hE ly8 rfl cw_X8_addsRow ci_X8_addsRow wd1692 cs_X8_addsRow ce_X8_addsRow cd_X8_addsRow (by decide) (by decide) (Nat.le_of_ble_eq_true rfl) dX8_addRow_27 rfl) (fun v5 s6 _ => ?_)
    exact lx_iret hC rfl hr dX8_addRow_30
  · skip
    refine lx_aload_n hC dX8_addRow_15 rfl 1 rfl ?_
    refine lx_iload_n hC dX8_addRow_16 rfl 0 rfl ?_
    refine lx_callX hC hx (sat_X8_fails (xl X) hl v2 s1) (run_V (as := [.int v2]) (rest := []) hC hE ly8 rfl cw_X8_fails ci_X8_fails wd1676 cs_X8_fails ce_X8_fails cd_X8_fails (by decide) (by decide) (Nat.le_of_ble_eq_true rfl) dX8_addRow_17 rfl) (fun v7 s8 _ => ?_)
    exact lx_iret hC rfl hr dX8_addRow_20
set_option maxRecDepth 100000 in
set_option maxHeartbeats 2000000 in
theorem sat_X8_notAddPhantoms (l : Launch) (hl : l.stackTraces = false) (p0 : Int32) (p1 : Int32) (s : Mem) : Sat l yX8_notAddPhantoms (.code yX8_notAddPhantoms cX8_notAddPhantoms 3 (some .int)) 32 543 (fun x => some (.int x)) [.ref 8, .int p0, .int p1] s (pur s (m_X8_notAddPhantoms p0 p1 s)) := by
  refine sat_of hl (by decide) (Nat.le_of_ble_eq_true rfl) (fun X V A adV hxl hC hE hx hr => ?_) pur_mono
  subst hxl
  show LX X V A 32 543 (nC s) (nS s) _ 0 [(0, .ref 8), (1, .int p0), (2, .int p1)] [] s _
  unfold m_X8_notAddPhantoms
  refine lx_aload_n hC dX8_notAddPhantoms_0 rfl 0 rfl ?_
  refine lx_iload_n hC dX8_notAddPhantoms_1 rfl 1 rfl ?_
  refine lq_call hC hx (sat_X8_isRow (xl X) hl p0 s) (run_V (as := [.int p0]) (rest := []) hC hE ly8 rfl cw_X8_isRow ci_X8_isRow wd1708 cs_X8_isRow ce_X8_isRow cd_X8_isRow (by decide) (by decide) (Nat.le_of_ble_eq_true rfl) dX8_notAddPhantoms_2 rfl) (fun v1 _ => ?_)
  refine lq_if_ne hC 10 dX8_notAddPhantoms_5 (by decide) ?_ ?_
  · skip
    refine lx_iload_n hC dX8_notAddPhantoms_10 rfl 2 rfl ?_
    refine lx_iconstv (v := 1) hC dX8_notAddPhantoms_11 rfl ?_
    refine lx_bipush (v := 6) hC dX8_notAddPhantoms_12 (by decide) ?_
    refine lq_call hC hx (sat_X8_isBetween (xl X) hl p1 1 6 s) (run_S (as := [.int p1, .int 1, .int 6]) (rest := []) hC hE cw_X8_isBetween ci_X8_isBetween wd1673 cs_X8_isBetween cd_X8_isBetween (by decide) (by decide) (Nat.le_of_ble_eq_true rfl) dX8_notAddPhantoms_14 rfl) (fun v2 _ => ?_)
    refine lq_if_ne hC 22 dX8_notAddPhantoms_17 (by decide) ?_ ?_
    · skip
      refine lx_aload_n hC dX8_notAddPhantoms_22 rfl 0 rfl ?_
      refine lx_iload_n hC dX8_notAddPhantoms_23 rfl 1 rfl ?_
      refine lq_call hC hx (sat_X8_isLockedRow (xl X) hl p0 s) (run_V (as := [.int p0]) (rest := []) hC hE ly8 rfl cw_X8_isLockedRow ci_X8_isLockedRow wd1712 cs_X8_isLockedRow ce_X8_isLockedRow cd_X8_isLockedRow (by decide) (by decide) (Nat.le_of_ble_eq_true rfl) dX8_notAddPhantoms_24 rfl) (fun v3 _ => ?_)
      refine lq_if_ne hC 43 dX8_notAddPhantoms_27 (by decide) ?_ ?_
      · skip
        refine lx_iconstv (v := 3) hC dX8_notAddPhantoms_43 rfl ?_
        refine lx_goto hC 48 dX8_notAddPhantoms_44 (by decide) ?_
        exact lx_iret hC rfl hr dX8_notAddPhantoms_48
      · skip
        refine lx_aload_n hC dX8_notAddPhantoms_30 rfl 0 rfl ?_
        refine lx_iload_n hC dX8_notAddPhantoms_31 rfl 1 rfl ?_
        refine lx_iconstv (v := 1) hC dX8_notAddPhantoms_32 rfl ?_
        refine lq_call hC hx (sat_X8_of (xl X) hl p0 1 s) (run_V (as := [.int p0, .int 1]) (rest := []) hC hE ly8 rfl cw_X8_of ci_X8_of wd1716 cs_X8_of ce_X8_of cd_X8_of (by decide) (by decide) (Nat.le_of_ble_eq_true rfl) dX8_notAddPhantoms_33 rfl) (fun v4 _ => ?_)
        refine lx_iload_n hC dX8_notAddPhantoms_36 rfl 2 rfl ?_
        refine lx_iadd hC dX8_notAddPhantoms_37 ?_
        refine lx_bipush (v := 6) hC dX8_notAddPhantoms_38 (by decide) ?_
        refine lq_icmp_le hC 47 dX8_notAddPhantoms_40 (by decide) ?_ ?_
        · skip
          refine lx_iconstv (v := 0) hC dX8_notAddPhantoms_47 rfl ?_
          exact lx_iret hC rfl hr dX8_notAddPhantoms_48
        · skip
          refine lx_iconstv (v := 3) hC dX8_notAddPhantoms_43 rfl ?_
          refine lx_goto hC 48 dX8_notAddPhantoms_44 (by decide) ?_
          exact lx_iret hC rfl hr dX8_notAddPhantoms_48
    · skip
      refine lx_iconstv (v := 2) hC dX8_notAddPhantoms_20 rfl ?_
      exact lx_iret hC rfl hr dX8_notAddPhantoms_21
  · skip
    refine lx_iconstv (v := 1) hC dX8_notAddPhantoms_8 rfl ?_
    exact lx_iret hC rfl hr dX8_notAddPhantoms_9
set_option maxRecDepth 100000 in
set_option maxHeartbeats 2000000 in
theorem n_X8_changesPhantoms (p0 : Int32) (p1 : Int32) (s : Mem) : Mn s (m_X8_changesPhantoms p0 p1 s) := by
  unfold m_X8_changesPhantoms
  refine mn_bindP (fun v1 => ?_)
  refine mn_bind (n_X8_puts p0 1 (v1 + p1) s) (fun v2 s3 => ?_)
  refine mn_bindP (fun v4 => ?_)
  exact mn_some
set_option maxRecDepth 100000 in
set_option maxHeartbeats 2000000 in
theorem sat_X8_changesPhantoms (l : Launch) (hl : l.stackTraces = false) (p0 : Int32) (p1 : Int32) (s : Mem) : Sat l yX8_changesPhantoms (.code yX8_changesPhantoms cX8_changesPhantoms 3 (some .int)) 31 523 (fun x => some (.int x)) [.ref 8, .int p0, .int p1] s (m_X8_changesPhantoms p0 p1 s) := by
  refine sat_of hl (by decide) (Nat.le_of_ble_eq_true rfl) (fun X V A adV hxl hC hE hx hr => ?_) (n_X8_changesPhantoms p0 p1 s)
  subst hxl
  show LX X V A 31 523 (nC s) (nS s) _ 0 [(0, .ref 8), (1, .int p0), (2, .int p1)] [] s _
  unfold m_X8_changesPhantoms
  refine lx_aload_n hC dX8_changesPhantoms_0 rfl 0 rfl ?_
  refine lx_iload_n hC dX8_changesPhantoms_1 rfl 1 rfl ?_
  refine lx_iconstv (v := 1) hC dX8_changesPhantoms_2 rfl ?_
  refine lx_aload_n hC dX8_changesPhantoms_3 rfl 0 rfl ?_
  refine lx_iload_n hC dX8_changesPhantoms_4 rfl 1 rfl ?_
  refine lx_iconstv (v := 1) hC dX8_changesPhantoms_5 rfl ?_
  refine lx_callP hC hx (sat_X8_of (xl X) hl p0 1 s) (run_V (as := [.int p0, .int 1]) (rest := [.int 1, .int p0, .ref 8]) hC hE ly8 rfl cw_X8_of ci_X8_of wd1716 cs_X8_of ce_X8_of cd_X8_of (by decide) (by decide) (Nat.le_of_ble_eq_true rfl) dX8_changesPhantoms_6 rfl) (fun v1 _ => ?_)
  refine lx_iload_n hC dX8_changesPhantoms_9 rfl 2 rfl ?_
  refine lx_iadd hC dX8_changesPhantoms_10 ?_
  refine lx_callX hC hx (sat_X8_puts (xl X) hl p0 1 (v1 + p1) s) (run_V (as := [.int p0, .int 1, .int (v1 + p1)]) (rest := []) hC hE ly8 rfl cw_X8_puts ci_X8_puts wd1696 cs_X8_puts ce_X8_puts cd_X8_puts (by decide) (by decide) (Nat.le_of_ble_eq_true rfl) dX8_changesPhantoms_11 rfl) (fun v2 s3 _ => ?_)
  refine lx_aload_n hC dX8_changesPhantoms_14 rfl 0 rfl ?_
  refine lx_iload_n hC dX8_changesPhantoms_15 rfl 1 rfl ?_
  refine lx_iconstv (v := 1) hC dX8_changesPhantoms_16 rfl ?_
  refine lx_callP hC hx (sat_X8_of (xl X) hl p0 1 s3) (run_V (as := [.int p0, .int 1]) (rest := []) hC hE ly8 rfl cw_X8_of ci_X8_of wd1716 cs_X8_of ce_X8_of cd_X8_of (by decide) (by decide) (Nat.le_of_ble_eq_true rfl) dX8_changesPhantoms_17 rfl) (fun v4 _ => ?_)
  exact lx_iret hC rfl hr dX8_changesPhantoms_20
set_option maxRecDepth 100000 in
set_option maxHeartbeats 2000000 in
theorem n_X8_addPhantoms (p0 : Int32) (p1 : Int32) (s : Mem) : Mn s (m_X8_addPhantoms p0 p1 s) := by
  unfold m_X8_addPhantoms
  refine mn_put (fun s1 => ?_)
  refine mn_bindP (fun v2 => ?_)
  refine mn_if ?_ ?_
  · skip
    refine mn_bind (n_X8_remembers s1) (fun v3 s4 => ?_)
    refine mn_bind (n_X8_changesPhantoms p0 p1 s4) (fun v5 s6 => ?_)
    exact mn_some
  · skip
    refine mn_bind (n_X8_fails v2 s1) (fun v7 s8 => ?_)
    exact mn_some
set_option maxRecDepth 100000 in
set_option maxHeartbeats 2000000 in
theorem sat_X8_addPhantoms (l : Launch) (hl : l.stackTraces = false) (p0 : Int32) (p1 : Int32) (s : Mem) : Sat l yX8_addPhantoms (.code yX8_addPhantoms cX8_addPhantoms 4 (some .int)) 33 565 (fun x => some (.int x)) [.ref 8, .int p0, .int p1] s (m_X8_addPhantoms p0 p1 s) := by
  refine sat_of hl (by decide) (Nat.le_of_ble_eq_true rfl) (fun X V A adV hxl hC hE hx hr => ?_) (n_X8_addPhantoms p0 p1 s)
  subst hxl
  show LX X V A 33 565 (nC s) (nS s) _ 0 [(0, .ref 8), (1, .int p0), (2, .int p1)] [] s _
  unfold m_X8_addPhantoms
  refine lx_aload_n hC dX8_addPhantoms_0 rfl 0 rfl ?_
  refine lx_iconstv (v := 0) hC dX8_addPhantoms_1 rfl ?_
  refine lx_putI hC ly8 rfl 0 (by decide) rfl tyX8 tyX8_ok nmX8 rfl rfl rfl inX8 wd1605 dX8_addPhantoms_2 (fun s1 => ?_)
  refine lx_aload_n hC dX8_addPhantoms_5 rfl 0 rfl ?_
  refine lx_iload_n hC dX8_addPhantoms_6 rfl 1 rfl ?_
  refine lx_iload_n hC dX8_addPhantoms_7 rfl 2 rfl ?_
  refine lx_callP hC hx (sat_X8_notAddPhantoms (xl X) hl p0 p1 s1) (run_V (as := [.int p0, .int p1]) (rest := []) hC hE ly8 rfl cw_X8_notAddPhantoms ci_X8_notAddPhantoms wd1704 cs_X8_notAddPhantoms ce_X8_notAddPhantoms cd_X8_notAddPhantoms (by decide) (by decide) (Nat.le_of_ble_eq_true rfl) dX8_addPhantoms_8 rfl) (fun v2 _ => ?_)
  refine lx_istore_n hC dX8_addPhantoms_11 rfl (by decide) ?_
  refine lx_iload_n hC dX8_addPhantoms_12 rfl 0 rfl ?_
  refine lx_if_eq hC 22 dX8_addPhantoms_13 (by decide) ?_ ?_
  · skip
    refine lx_aload_n hC dX8_addPhantoms_22 rfl 1 rfl ?_
    refine lx_callX hC hx (sat_X8_remembers (xl X) hl s1) (run_V (as := []) (rest := []) hC hE ly8 rfl cw_X8_remembers ci_X8_remembers wd1680 cs_X8_remembers ce_X8_remembers cd_X8_remembers (by decide) (by decide) (Nat.le_of_ble_eq_true rfl) dX8_addPhantoms_23 rfl) (fun v3 s4 _ => ?_)
    refine lx_aload_n hC dX8_addPhantoms_26 rfl 1 rfl ?_
    refine lx_iload_n hC dX8_addPhantoms_27 rfl 2 rfl ?_
    refine lx_iload_n hC dX8_addPhantoms_28 rfl 3 rfl ?_
    refine lx_callX hC hx (sat_X8_changesPhantoms (xl X) hl p0 p1 s4) (run_V (as := [.int p0, .int p1]) (rest := []) hC hE ly8 rfl cw_X8_changesPhantoms ci_X8_changesPhantoms wd1720 cs_X8_changesPhantoms ce_X8_changesPhantoms cd_X8_changesPhantoms (by decide) (by decide) (Nat.le_of_ble_eq_true rfl) dX8_addPhantoms_29 rfl) (fun v5 s6 _ => ?_)
    exact lx_iret hC rfl hr dX8_addPhantoms_32
  · skip
    refine lx_aload_n hC dX8_addPhantoms_16 rfl 1 rfl ?_
    refine lx_iload_n hC dX8_addPhantoms_17 rfl 0 rfl ?_
    refine lx_callX hC hx (sat_X8_fails (xl X) hl v2 s1) (run_V (as := [.int v2]) (rest := []) hC hE ly8 rfl cw_X8_fails ci_X8_fails wd1676 cs_X8_fails ce_X8_fails cd_X8_fails (by decide) (by decide) (Nat.le_of_ble_eq_true rfl) dX8_addPhantoms_18 rfl) (fun v7 s8 _ => ?_)
    exact lx_iret hC rfl hr dX8_addPhantoms_21
set_option maxRecDepth 100000 in
set_option maxHeartbeats 2000000 in
theorem sat_X8_notRemovePhantoms (l : Launch) (hl : l.stackTraces = false) (p0 : Int32) (p1 : Int32) (s : Mem) : Sat l yX8_notRemovePhantoms (.code yX8_notRemovePhantoms cX8_notRemovePhantoms 3 (some .int)) 33 566 (fun x => some (.int x)) [.ref 8, .int p0, .int p1] s (pur s (m_X8_notRemovePhantoms p0 p1 s)) := by
  refine sat_of hl (by decide) (Nat.le_of_ble_eq_true rfl) (fun X V A adV hxl hC hE hx hr => ?_) pur_mono
  subst hxl
  show LX X V A 33 566 (nC s) (nS s) _ 0 [(0, .ref 8), (1, .int p0), (2, .int p1)] [] s _
  unfold m_X8_notRemovePhantoms
  refine lx_aload_n hC dX8_notRemovePhantoms_0 rfl 0 rfl ?_
  refine lx_iload_n hC dX8_notRemovePhantoms_1 rfl 1 rfl ?_
  refine lq_call hC hx (sat_X8_isRow (xl X) hl p0 s) (run_V (as := [.int p0]) (rest := []) hC hE ly8 rfl cw_X8_isRow ci_X8_isRow wd1708 cs_X8_isRow ce_X8_isRow cd_X8_isRow (by decide) (by decide) (Nat.le_of_ble_eq_true rfl) dX8_notRemovePhantoms_2 rfl) (fun v1 _ => ?_)
  refine lq_if_ne hC 10 dX8_notRemovePhantoms_5 (by decide) ?_ ?_
  · skip
    refine lx_iload_n hC dX8_notRemovePhantoms_10 rfl 2 rfl ?_
    refine lx_iconstv (v := 1) hC dX8_notRemovePhantoms_11 rfl ?_
    refine lx_bipush (v := 6) hC dX8_notRemovePhantoms_12 (by decide) ?_
    refine lq_call hC hx (sat_X8_isBetween (xl X) hl p1 1 6 s) (run_S (as := [.int p1, .int 1, .int 6]) (rest := []) hC hE cw_X8_isBetween ci_X8_isBetween wd1673 cs_X8_isBetween cd_X8_isBetween (by decide) (by decide) (Nat.le_of_ble_eq_true rfl) dX8_notRemovePhantoms_14 rfl) (fun v2 _ => ?_)
    refine lq_if_ne hC 22 dX8_notRemovePhantoms_17 (by decide) ?_ ?_
    · skip
      refine lx_aload_n hC dX8_notRemovePhantoms_22 rfl 0 rfl ?_
      refine lx_iload_n hC dX8_notRemovePhantoms_23 rfl 1 rfl ?_
      refine lq_call hC hx (sat_X8_isLockedRow (xl X) hl p0 s) (run_V (as := [.int p0]) (rest := []) hC hE ly8 rfl cw_X8_isLockedRow ci_X8_isLockedRow wd1712 cs_X8_isLockedRow ce_X8_isLockedRow cd_X8_isLockedRow (by decide) (by decide) (Nat.le_of_ble_eq_true rfl) dX8_notRemovePhantoms_24 rfl) (fun v3 _ => ?_)
      refine lq_if_ne hC 49 dX8_notRemovePhantoms_27 (by decide) ?_ ?_
      · skip
        refine lx_iconstv (v := 3) hC dX8_notRemovePhantoms_49 rfl ?_
        refine lx_goto hC 54 dX8_notRemovePhantoms_50 (by decide) ?_
        exact lx_iret hC rfl hr dX8_notRemovePhantoms_54
      · skip
        refine lx_aload_n hC dX8_notRemovePhantoms_30 rfl 0 rfl ?_
        refine lx_iload_n hC dX8_notRemovePhantoms_31 rfl 1 rfl ?_
        refine lx_iconstv (v := 1) hC dX8_notRemovePhantoms_32 rfl ?_
        refine lq_call hC hx (sat_X8_of (xl X) hl p0 1 s) (run_V (as := [.int p0, .int 1]) (rest := []) hC hE ly8 rfl cw_X8_of ci_X8_of wd1716 cs_X8_of ce_X8_of cd_X8_of (by decide) (by decide) (Nat.le_of_ble_eq_true rfl) dX8_notRemovePhantoms_33 rfl) (fun v4 _ => ?_)
        refine lx_iload_n hC dX8_notRemovePhantoms_36 rfl 2 rfl ?_
        refine lq_icmp_lt hC 49 dX8_notRemovePhantoms_37 (by decide) ?_ ?_
        · skip
          refine lx_iconstv (v := 3) hC dX8_notRemovePhantoms_49 rfl ?_
          refine lx_goto hC 54 dX8_notRemovePhantoms_50 (by decide) ?_
          exact lx_iret hC rfl hr dX8_notRemovePhantoms_54
        · skip
          refine lx_aload_n hC dX8_notRemovePhantoms_40 rfl 0 rfl ?_
          refine lx_iload_n hC dX8_notRemovePhantoms_41 rfl 1 rfl ?_
          refine lq_call hC hx (sat_X8_roomIn (xl X) hl p0 s) (run_V (as := [.int p0]) (rest := []) hC hE ly8 rfl cw_X8_roomIn ci_X8_roomIn wd1732 cs_X8_roomIn ce_X8_roomIn cd_X8_roomIn (by decide) (by decide) (Nat.le_of_ble_eq_true rfl) dX8_notRemovePhantoms_42 rfl) (fun v5 _ => ?_)
          refine lx_iload_n hC dX8_notRemovePhantoms_45 rfl 2 rfl ?_
          refine lq_icmp_ge hC 53 dX8_notRemovePhantoms_46 (by decide) ?_ ?_
          · skip
            refine lx_iconstv (v := 0) hC dX8_notRemovePhantoms_53 rfl ?_
            exact lx_iret hC rfl hr dX8_notRemovePhantoms_54
          · skip
            refine lx_iconstv (v := 3) hC dX8_notRemovePhantoms_49 rfl ?_
            refine lx_goto hC 54 dX8_notRemovePhantoms_50 (by decide) ?_
            exact lx_iret hC rfl hr dX8_notRemovePhantoms_54
    · skip
      refine lx_iconstv (v := 2) hC dX8_notRemovePhantoms_20 rfl ?_
      exact lx_iret hC rfl hr dX8_notRemovePhantoms_21
  · skip
    refine lx_iconstv (v := 1) hC dX8_notRemovePhantoms_8 rfl ?_
    exact lx_iret hC rfl hr dX8_notRemovePhantoms_9
set_option maxRecDepth 100000 in
set_option maxHeartbeats 2000000 in
theorem n_X8_removePhantoms (p0 : Int32) (p1 : Int32) (s : Mem) : Mn s (m_X8_removePhantoms p0 p1 s) := by
  unfold m_X8_removePhantoms
  refine mn_put (fun s1 => ?_)
  refine mn_bindP (fun v2 => ?_)
  refine mn_if ?_ ?_
  · skip
    refine mn_bind (n_X8_remembers s1) (fun v3 s4 => ?_)
    refine mn_bind (n_X8_changesPhantoms p0 (-p1) s4) (fun v5 s6 => ?_)
    exact mn_some
  · skip
    refine mn_bind (n_X8_fails v2 s1) (fun v7 s8 => ?_)
    exact mn_some
set_option maxRecDepth 100000 in
set_option maxHeartbeats 2000000 in
theorem sat_X8_removePhantoms (l : Launch) (hl : l.stackTraces = false) (p0 : Int32) (p1 : Int32) (s : Mem) : Sat l yX8_removePhantoms (.code yX8_removePhantoms cX8_removePhantoms 4 (some .int)) 34 588 (fun x => some (.int x)) [.ref 8, .int p0, .int p1] s (m_X8_removePhantoms p0 p1 s) := by
  refine sat_of hl (by decide) (Nat.le_of_ble_eq_true rfl) (fun X V A adV hxl hC hE hx hr => ?_) (n_X8_removePhantoms p0 p1 s)
  subst hxl
  show LX X V A 34 588 (nC s) (nS s) _ 0 [(0, .ref 8), (1, .int p0), (2, .int p1)] [] s _
  unfold m_X8_removePhantoms
  refine lx_aload_n hC dX8_removePhantoms_0 rfl 0 rfl ?_
  refine lx_iconstv (v := 0) hC dX8_removePhantoms_1 rfl ?_
  refine lx_putI hC ly8 rfl 0 (by decide) rfl tyX8 tyX8_ok nmX8 rfl rfl rfl inX8 wd1605 dX8_removePhantoms_2 (fun s1 => ?_)
  refine lx_aload_n hC dX8_removePhantoms_5 rfl 0 rfl ?_
  refine lx_iload_n hC dX8_removePhantoms_6 rfl 1 rfl ?_
  refine lx_iload_n hC dX8_removePhantoms_7 rfl 2 rfl ?_
  refine lx_callP hC hx (sat_X8_notRemovePhantoms (xl X) hl p0 p1 s1) (run_V (as := [.int p0, .int p1]) (rest := []) hC hE ly8 rfl cw_X8_notRemovePhantoms ci_X8_notRemovePhantoms wd1728 cs_X8_notRemovePhantoms ce_X8_notRemovePhantoms cd_X8_notRemovePhantoms (by decide) (by decide) (Nat.le_of_ble_eq_true rfl) dX8_removePhantoms_8 rfl) (fun v2 _ => ?_)
  refine lx_istore_n hC dX8_removePhantoms_11 rfl (by decide) ?_
  refine lx_iload_n hC dX8_removePhantoms_12 rfl 0 rfl ?_
  refine lx_if_eq hC 22 dX8_removePhantoms_13 (by decide) ?_ ?_
  · skip
    refine lx_aload_n hC dX8_removePhantoms_22 rfl 1 rfl ?_
    refine lx_callX hC hx (sat_X8_remembers (xl X) hl s1) (run_V (as := []) (rest := []) hC hE ly8 rfl cw_X8_remembers ci_X8_remembers wd1680 cs_X8_remembers ce_X8_remembers cd_X8_remembers (by decide) (by decide) (Nat.le_of_ble_eq_true rfl) dX8_removePhantoms_23 rfl) (fun v3 s4 _ => ?_)
    refine lx_aload_n hC dX8_removePhantoms_26 rfl 1 rfl ?_
    refine lx_iload_n hC dX8_removePhantoms_27 rfl 2 rfl ?_
    refine lx_iload_n hC dX8_removePhantoms_28 rfl 3 rfl ?_
    refine lx_ineg hC dX8_removePhantoms_29 ?_
    refine lx_callX hC hx (sat_X8_changesPhantoms (xl X) hl p0 (-p1) s4) (run_V (as := [.int p0, .int (-p1)]) (rest := []) hC hE ly8 rfl cw_X8_changesPhantoms ci_X8_changesPhantoms wd1720 cs_X8_changesPhantoms ce_X8_changesPhantoms cd_X8_changesPhantoms (by decide) (by decide) (Nat.le_of_ble_eq_true rfl) dX8_removePhantoms_30 rfl) (fun v5 s6 _ => ?_)
    exact lx_iret hC rfl hr dX8_removePhantoms_33
  · skip
    refine lx_aload_n hC dX8_removePhantoms_16 rfl 1 rfl ?_
    refine lx_iload_n hC dX8_removePhantoms_17 rfl 0 rfl ?_
    refine lx_callX hC hx (sat_X8_fails (xl X) hl v2 s1) (run_V (as := [.int v2]) (rest := []) hC hE ly8 rfl cw_X8_fails ci_X8_fails wd1676 cs_X8_fails ce_X8_fails cd_X8_fails (by decide) (by decide) (Nat.le_of_ble_eq_true rfl) dX8_removePhantoms_18 rfl) (fun v7 s8 _ => ?_)
    exact lx_iret hC rfl hr dX8_removePhantoms_21
set_option maxRecDepth 100000 in
set_option maxHeartbeats 2000000 in
theorem sat_X8_notAdd (l : Launch) (hl : l.stackTraces = false) (p0 : Int32) (p1 : Int32) (s : Mem) : Sat l yX8_notAdd (.code yX8_notAdd cX8_notAdd 3 (some .int)) 33 566 (fun x => some (.int x)) [.ref 8, .int p0, .int p1] s (pur s (m_X8_notAdd p0 p1 s)) := by
  refine sat_of hl (by decide) (Nat.le_of_ble_eq_true rfl) (fun X V A adV hxl hC hE hx hr => ?_) pur_mono
  subst hxl
  show LX X V A 33 566 (nC s) (nS s) _ 0 [(0, .ref 8), (1, .int p0), (2, .int p1)] [] s _
  unfold m_X8_notAdd
  refine lx_aload_n hC dX8_notAdd_0 rfl 0 rfl ?_
  refine lx_iload_n hC dX8_notAdd_1 rfl 1 rfl ?_
  refine lq_call hC hx (sat_X8_isRow (xl X) hl p0 s) (run_V (as := [.int p0]) (rest := []) hC hE ly8 rfl cw_X8_isRow ci_X8_isRow wd1708 cs_X8_isRow ce_X8_isRow cd_X8_isRow (by decide) (by decide) (Nat.le_of_ble_eq_true rfl) dX8_notAdd_2 rfl) (fun v1 _ => ?_)
  refine lq_if_ne hC 10 dX8_notAdd_5 (by decide) ?_ ?_
  · skip
    refine lx_iload_n hC dX8_notAdd_10 rfl 2 rfl ?_
    refine lx_iconstv (v := 1) hC dX8_notAdd_11 rfl ?_
    refine lx_sipush (v := 999) hC dX8_notAdd_12 (by decide) ?_
    refine lq_call hC hx (sat_X8_isBetween (xl X) hl p1 1 999 s) (run_S (as := [.int p1, .int 1, .int 999]) (rest := []) hC hE cw_X8_isBetween ci_X8_isBetween wd1673 cs_X8_isBetween cd_X8_isBetween (by decide) (by decide) (Nat.le_of_ble_eq_true rfl) dX8_notAdd_15 rfl) (fun v2 _ => ?_)
    refine lq_if_ne hC 23 dX8_notAdd_18 (by decide) ?_ ?_
    · skip
      refine lx_aload_n hC dX8_notAdd_23 rfl 0 rfl ?_
      refine lx_iload_n hC dX8_notAdd_24 rfl 1 rfl ?_
      refine lq_call hC hx (sat_X8_isLockedRow (xl X) hl p0 s) (run_V (as := [.int p0]) (rest := []) hC hE ly8 rfl cw_X8_isLockedRow ci_X8_isLockedRow wd1712 cs_X8_isLockedRow ce_X8_isLockedRow cd_X8_isLockedRow (by decide) (by decide) (Nat.le_of_ble_eq_true rfl) dX8_notAdd_25 rfl) (fun v3 _ => ?_)
      refine lq_if_ne hC 50 dX8_notAdd_28 (by decide) ?_ ?_
      · skip
        refine lx_iconstv (v := 3) hC dX8_notAdd_50 rfl ?_
        refine lx_goto hC 55 dX8_notAdd_51 (by decide) ?_
        exact lx_iret hC rfl hr dX8_notAdd_55
      · skip
        refine lx_aload_n hC dX8_notAdd_31 rfl 0 rfl ?_
        refine lx_iload_n hC dX8_notAdd_32 rfl 1 rfl ?_
        refine lq_call hC hx (sat_X8_roomIn (xl X) hl p0 s) (run_V (as := [.int p0]) (rest := []) hC hE ly8 rfl cw_X8_roomIn ci_X8_roomIn wd1732 cs_X8_roomIn ce_X8_roomIn cd_X8_roomIn (by decide) (by decide) (Nat.le_of_ble_eq_true rfl) dX8_notAdd_33 rfl) (fun v4 _ => ?_)
        refine lq_if_eq hC 50 dX8_notAdd_36 (by decide) ?_ ?_
        · skip
          refine lx_iconstv (v := 3) hC dX8_notAdd_50 rfl ?_
          refine lx_goto hC 55 dX8_notAdd_51 (by decide) ?_
          exact lx_iret hC rfl hr dX8_notAdd_55
        · skip
          refine lx_aload_n hC dX8_notAdd_39 rfl 0 rfl ?_
          refine lx_getR (q := 136) hC ly8 rfl 1 (by decide) rfl rfl inX8 wd1606 dX8_notAdd_40 ?_
          refine lx_iconstv (v := 1) hC dX8_notAdd_43 rfl ?_
          refine lq_iaload hC ly136 dX8_notAdd_44 ?_
          refine lx_bipush (v := 24) hC dX8_notAdd_45 (by decide) ?_
          refine lq_icmp_ne hC 54 dX8_notAdd_47 (by decide) ?_ ?_
          · skip
            refine lx_iconstv (v := 0) hC dX8_notAdd_54 rfl ?_
            exact lx_iret hC rfl hr dX8_notAdd_55
          · skip
            refine lx_iconstv (v := 3) hC dX8_notAdd_50 rfl ?_
            refine lx_goto hC 55 dX8_notAdd_51 (by decide) ?_
            exact lx_iret hC rfl hr dX8_notAdd_55
    · skip
      refine lx_iconstv (v := 2) hC dX8_notAdd_21 rfl ?_
      exact lx_iret hC rfl hr dX8_notAdd_22
  · skip
    refine lx_iconstv (v := 1) hC dX8_notAdd_8 rfl ?_
    exact lx_iret hC rfl hr dX8_notAdd_9
set_option maxRecDepth 100000 in
set_option maxHeartbeats 2000000 in
theorem n_X8_adds (p0 : Int32) (p1 : Int32) (s : Mem) : Mn s (m_X8_adds p0 p1 s) := by
  unfold m_X8_adds
  refine mn_if ?_ mn_none
  refine mn_vl (fun y1 => ?_)
  refine mn_if ?_ mn_none
  refine mn_vl (fun y2 => ?_)
  refine mn_bind (n_X8_sets y1 0 y2 s) (fun v3 s4 => ?_)
  refine mn_bind (n_X8_sets y1 1 p0 s4) (fun v5 s6 => ?_)
  refine mn_bind (n_X8_sets y1 2 p1 s6) (fun v7 s8 => ?_)
  refine mn_bind (n_X8_sets y1 3 0 s8) (fun v9 s10 => ?_)
  refine mn_if ?_ mn_none
  refine mn_if ?_ mn_none
  refine mn_put (fun s11 => ?_)
  refine mn_if ?_ mn_none
  refine mn_if ?_ mn_none
  refine mn_put (fun s12 => ?_)
  refine mn_if ?_ mn_none
  refine mn_if ?_ mn_none
  refine mn_put (fun s13 => ?_)
  exact mn_some
set_option maxRecDepth 100000 in
set_option maxHeartbeats 2000000 in
theorem sat_X8_adds (l : Launch) (hl : l.stackTraces = false) (p0 : Int32) (p1 : Int32) (s : Mem) : Sat l yX8_adds (.code yX8_adds cX8_adds 5 (some .int)) 31 523 (fun x => some (.int x)) [.ref 8, .int p0, .int p1] s (m_X8_adds p0 p1 s) := by
  refine sat_of hl (by decide) (Nat.le_of_ble_eq_true rfl) (fun X V A adV hxl hC hE hx hr => ?_) (n_X8_adds p0 p1 s)
  subst hxl
  show LX X V A 31 523 (nC s) (nS s) _ 0 [(0, .ref 8), (1, .int p0), (2, .int p1)] [] s _
  unfold m_X8_adds
  refine lx_aload_n hC dX8_adds_0 rfl 0 rfl ?_
  refine lx_getR (q := 136) hC ly8 rfl 1 (by decide) rfl rfl inX8 wd1606 dX8_adds_1 ?_
  refine lx_iconstv (v := 1) hC dX8_adds_4 rfl ?_
  refine lx_iaload hC ly136 dX8_adds_5 ?_
  refine lx_istore_nN hC dX8_adds_6 rfl (by decide) (fun y1 => ?_)
  refine lx_aload_n hC dX8_adds_7 rfl 1 rfl ?_
  refine lx_getR (q := 136) hC ly8 rfl 1 (by decide) rfl rfl inX8 wd1606 dX8_adds_8 ?_
  refine lx_iconstv (v := 2) hC dX8_adds_11 rfl ?_
  refine lx_iaload hC ly136 dX8_adds_12 ?_
  refine lx_istoreN hC dX8_adds_13 (by decide) (fun y2 => ?_)
  refine lx_aload_n hC dX8_adds_15 rfl 2 rfl ?_
  refine lx_iload_n hC dX8_adds_16 rfl 1 rfl ?_
  refine lx_iconstv (v := 0) hC dX8_adds_17 rfl ?_
  refine lx_iload hC dX8_adds_18 0 rfl ?_
  refine lx_callX hC hx (sat_X8_sets (xl X) hl y1 0 y2 s) (run_V (as := [.int y1, .int 0, .int y2]) (rest := []) hC hE ly8 rfl cw_X8_sets ci_X8_sets wd1756 cs_X8_sets ce_X8_sets cd_X8_sets (by decide) (by decide) (Nat.le_of_ble_eq_true rfl) dX8_adds_20 rfl) (fun v3 s4 _ => ?_)
  refine lx_aload_n hC dX8_adds_23 rfl 2 rfl ?_
  refine lx_iload_n hC dX8_adds_24 rfl 1 rfl ?_
  refine lx_iconstv (v := 1) hC dX8_adds_25 rfl ?_
  refine lx_iload_n hC dX8_adds_26 rfl 3 rfl ?_
  refine lx_callX hC hx (sat_X8_sets (xl X) hl y1 1 p0 s4) (run_V (as := [.int y1, .int 1, .int p0]) (rest := []) hC hE ly8 rfl cw_X8_sets ci_X8_sets wd1756 cs_X8_sets ce_X8_sets cd_X8_sets (by decide) (by decide) (Nat.le_of_ble_eq_true rfl) dX8_adds_27 rfl) (fun v5 s6 _ => ?_)
  refine lx_aload_n hC dX8_adds_30 rfl 2 rfl ?_
  refine lx_iload_n hC dX8_adds_31 rfl 1 rfl ?_
  refine lx_iconstv (v := 2) hC dX8_adds_32 rfl ?_
  refine lx_iload_n hC dX8_adds_33 rfl 4 rfl ?_
  refine lx_callX hC hx (sat_X8_sets (xl X) hl y1 2 p1 s6) (run_V (as := [.int y1, .int 2, .int p1]) (rest := []) hC hE ly8 rfl cw_X8_sets ci_X8_sets wd1756 cs_X8_sets ce_X8_sets cd_X8_sets (by decide) (by decide) (Nat.le_of_ble_eq_true rfl) dX8_adds_34 rfl) (fun v7 s8 _ => ?_)
  refine lx_aload_n hC dX8_adds_37 rfl 2 rfl ?_
  refine lx_iload_n hC dX8_adds_38 rfl 1 rfl ?_
  refine lx_iconstv (v := 3) hC dX8_adds_39 rfl ?_
  refine lx_iconstv (v := 0) hC dX8_adds_40 rfl ?_
  refine lx_callX hC hx (sat_X8_sets (xl X) hl y1 3 0 s8) (run_V (as := [.int y1, .int 3, .int 0]) (rest := []) hC hE ly8 rfl cw_X8_sets ci_X8_sets wd1756 cs_X8_sets ce_X8_sets cd_X8_sets (by decide) (by decide) (Nat.le_of_ble_eq_true rfl) dX8_adds_41 rfl) (fun v9 s10 _ => ?_)
  refine lx_aload_n hC dX8_adds_44 rfl 2 rfl ?_
  refine lx_getR (q := 136) hC ly8 rfl 1 (by decide) rfl rfl inX8 wd1606 dX8_adds_45 ?_
  refine lx_iconstv (v := 1) hC dX8_adds_48 rfl ?_
  refine lx_dup2ir hC dX8_adds_49 ?_
  refine lx_iaload hC ly136 dX8_adds_50 ?_
  refine lx_iconstv (v := 1) hC dX8_adds_51 rfl ?_
  refine lx_iadd hC dX8_adds_52 ?_
  refine lx_iastore hC ly136 dX8_adds_53 (fun s11 => ?_)
  refine lx_aload_n hC dX8_adds_54 rfl 2 rfl ?_
  refine lx_getR (q := 136) hC ly8 rfl 1 (by decide) rfl rfl inX8 wd1606 dX8_adds_55 ?_
  refine lx_iconstv (v := 2) hC dX8_adds_58 rfl ?_
  refine lx_dup2ir hC dX8_adds_59 ?_
  refine lx_iaload hC ly136 dX8_adds_60 ?_
  refine lx_iconstv (v := 1) hC dX8_adds_61 rfl ?_
  refine lx_iadd hC dX8_adds_62 ?_
  refine lx_iastore hC ly136 dX8_adds_63 (fun s12 => ?_)
  refine lx_aload_n hC dX8_adds_64 rfl 2 rfl ?_
  refine lx_getR (q := 136) hC ly8 rfl 1 (by decide) rfl rfl inX8 wd1606 dX8_adds_65 ?_
  refine lx_iconstv (v := 5) hC dX8_adds_68 rfl ?_
  refine lx_dup2ir hC dX8_adds_69 ?_
  refine lx_iaload hC ly136 dX8_adds_70 ?_
  refine lx_iload_n hC dX8_adds_71 rfl 4 rfl ?_
  refine lx_iadd hC dX8_adds_72 ?_
  refine lx_iastore hC ly136 dX8_adds_73 (fun s13 => ?_)
  refine lx_iload hC dX8_adds_74 0 rfl ?_
  exact lx_iret hC rfl hr dX8_adds_76
set_option maxRecDepth 100000 in
set_option maxHeartbeats 2000000 in
theorem n_X8_add (p0 : Int32) (p1 : Int32) (s : Mem) : Mn s (m_X8_add p0 p1 s) := by
  unfold m_X8_add
  refine mn_put (fun s1 => ?_)
  refine mn_bindP (fun v2 => ?_)
  refine mn_if ?_ ?_
  · skip
    refine mn_bind (n_X8_remembers s1) (fun v3 s4 => ?_)
    refine mn_bind (n_X8_adds p0 p1 s4) (fun v5 s6 => ?_)
    exact mn_some
  · skip
    refine mn_bind (n_X8_fails v2 s1) (fun v7 s8 => ?_)
    exact mn_some
set_option maxRecDepth 100000 in
set_option maxHeartbeats 2000000 in
theorem sat_X8_add (l : Launch) (hl : l.stackTraces = false) (p0 : Int32) (p1 : Int32) (s : Mem) : Sat l yX8_add (.code yX8_add cX8_add 4 (some .int)) 34 588 (fun x => some (.int x)) [.ref 8, .int p0, .int p1] s (m_X8_add p0 p1 s) := by
  refine sat_of hl (by decide) (Nat.le_of_ble_eq_true rfl) (fun X V A adV hxl hC hE hx hr => ?_) (n_X8_add p0 p1 s)
  subst hxl
  show LX X V A 34 588 (nC s) (nS s) _ 0 [(0, .ref 8), (1, .int p0), (2, .int p1)] [] s _
  unfold m_X8_add
  refine lx_aload_n hC dX8_add_0 rfl 0 rfl ?_
  refine lx_iconstv (v := 0) hC dX8_add_1 rfl ?_
  refine lx_putI hC ly8 rfl 0 (by decide) rfl tyX8 tyX8_ok nmX8 rfl rfl rfl inX8 wd1605 dX8_add_2 (fun s1 => ?_)
  refine lx_aload_n hC dX8_add_5 rfl 0 rfl ?_
  refine lx_iload_n hC dX8_add_6 rfl 1 rfl ?_
  refine lx_iload_n hC dX8_add_7 rfl 2 rfl ?_
  refine lx_callP hC hx (sat_X8_notAdd (xl X) hl p0 p1 s1) (run_V (as := [.int p0, .int p1]) (rest := []) hC hE ly8 rfl cw_X8_notAdd ci_X8_notAdd wd1748 cs_X8_notAdd ce_X8_notAdd cd_X8_notAdd (by decide) (by decide) (Nat.le_of_ble_eq_true rfl) dX8_add_8 rfl) (fun v2 _ => ?_)
  refine lx_istore_n hC dX8_add_11 rfl (by decide) ?_
  refine lx_iload_n hC dX8_add_12 rfl 0 rfl ?_
  refine lx_if_eq hC 22 dX8_add_13 (by decide) ?_ ?_
  · skip
    refine lx_aload_n hC dX8_add_22 rfl 1 rfl ?_
    refine lx_callX hC hx (sat_X8_remembers (xl X) hl s1) (run_V (as := []) (rest := []) hC hE ly8 rfl cw_X8_remembers ci_X8_remembers wd1680 cs_X8_remembers ce_X8_remembers cd_X8_remembers (by decide) (by decide) (Nat.le_of_ble_eq_true rfl) dX8_add_23 rfl) (fun v3 s4 _ => ?_)
    refine lx_aload_n hC dX8_add_26 rfl 1 rfl ?_
    refine lx_iload_n hC dX8_add_27 rfl 2 rfl ?_
    refine lx_iload_n hC dX8_add_28 rfl 3 rfl ?_
    refine lx_callX hC hx (sat_X8_adds (xl X) hl p0 p1 s4) (run_V (as := [.int p0, .int p1]) (rest := []) hC hE ly8 rfl cw_X8_adds ci_X8_adds wd1752 cs_X8_adds ce_X8_adds cd_X8_adds (by decide) (by decide) (Nat.le_of_ble_eq_true rfl) dX8_add_29 rfl) (fun v5 s6 _ => ?_)
    exact lx_iret hC rfl hr dX8_add_32
  · skip
    refine lx_aload_n hC dX8_add_16 rfl 1 rfl ?_
    refine lx_iload_n hC dX8_add_17 rfl 0 rfl ?_
    refine lx_callX hC hx (sat_X8_fails (xl X) hl v2 s1) (run_V (as := [.int v2]) (rest := []) hC hE ly8 rfl cw_X8_fails ci_X8_fails wd1676 cs_X8_fails ce_X8_fails cd_X8_fails (by decide) (by decide) (Nat.le_of_ble_eq_true rfl) dX8_add_18 rfl) (fun v7 s8 _ => ?_)
    exact lx_iret hC rfl hr dX8_add_21
set_option maxRecDepth 100000 in
set_option maxHeartbeats 2000000 in
theorem sat_X8_notMove (l : Launch) (hl : l.stackTraces = false) (p0 : Int32) (p1 : Int32) (s : Mem) : Sat l yX8_notMove (.code yX8_notMove cX8_notMove 5 (some .int)) 33 566 (fun x => some (.int x)) [.ref 8, .int p0, .int p1] s (pur s (m_X8_notMove p0 p1 s)) := by
  refine sat_of hl (by decide) (Nat.le_of_ble_eq_true rfl) (fun X V A adV hxl hC hE hx hr => ?_) pur_mono
  subst hxl
  show LX X V A 33 566 (nC s) (nS s) _ 0 [(0, .ref 8), (1, .int p0), (2, .int p1)] [] s _
  unfold m_X8_notMove
  refine lx_aload_n hC dX8_notMove_0 rfl 0 rfl ?_
  refine lx_iload_n hC dX8_notMove_1 rfl 1 rfl ?_
  refine lq_call hC hx (sat_X8_slotOf (xl X) hl p0 s) (run_V (as := [.int p0]) (rest := []) hC hE ly8 rfl cw_X8_slotOf ci_X8_slotOf wd1768 cs_X8_slotOf ce_X8_slotOf cd_X8_slotOf (by decide) (by decide) (Nat.le_of_ble_eq_true rfl) dX8_notMove_2 rfl) (fun v1 _ => ?_)
  refine lx_istore_n hC dX8_notMove_5 rfl (by decide) ?_
  refine lx_iload_n hC dX8_notMove_6 rfl 0 rfl ?_
  refine lq_if_ge hC 12 dX8_notMove_7 (by decide) ?_ ?_
  · skip
    refine lx_aload_n hC dX8_notMove_12 rfl 1 rfl ?_
    refine lx_iload_n hC dX8_notMove_13 rfl 3 rfl ?_
    refine lq_call hC hx (sat_X8_isRow (xl X) hl p1 s) (run_V (as := [.int p1]) (rest := []) hC hE ly8 rfl cw_X8_isRow ci_X8_isRow wd1708 cs_X8_isRow ce_X8_isRow cd_X8_isRow (by decide) (by decide) (Nat.le_of_ble_eq_true rfl) dX8_notMove_14 rfl) (fun v2 _ => ?_)
    refine lq_if_ne hC 22 dX8_notMove_17 (by decide) ?_ ?_
    · skip
      refine lx_aload_n hC dX8_notMove_22 rfl 1 rfl ?_
      refine lx_iload_n hC dX8_notMove_23 rfl 0 rfl ?_
      refine lx_iconstv (v := 1) hC dX8_notMove_24 rfl ?_
      refine lq_call hC hx (sat_X8_is (xl X) hl v1 1 s) (run_V (as := [.int v1, .int 1]) (rest := []) hC hE ly8 rfl cw_X8_is ci_X8_is wd1740 cs_X8_is ce_X8_is cd_X8_is (by decide) (by decide) (Nat.le_of_ble_eq_true rfl) dX8_notMove_25 rfl) (fun v3 _ => ?_)
      refine lx_istore hC dX8_notMove_28 (by decide) ?_
      refine lx_iload hC dX8_notMove_30 0 rfl ?_
      refine lx_iload_n hC dX8_notMove_32 rfl 4 rfl ?_
      refine lq_icmp_eq hC 61 dX8_notMove_33 (by decide) ?_ ?_
      · skip
        refine lx_iconstv (v := 3) hC dX8_notMove_61 rfl ?_
        refine lx_goto hC 66 dX8_notMove_62 (by decide) ?_
        exact lx_iret hC rfl hr dX8_notMove_66
      · skip
        refine lx_aload_n hC dX8_notMove_36 rfl 2 rfl ?_
        refine lx_iload hC dX8_notMove_37 0 rfl ?_
        refine lq_call hC hx (sat_X8_isLockedRow (xl X) hl v3 s) (run_V (as := [.int v3]) (rest := []) hC hE ly8 rfl cw_X8_isLockedRow ci_X8_isLockedRow wd1712 cs_X8_isLockedRow ce_X8_isLockedRow cd_X8_isLockedRow (by decide) (by decide) (Nat.le_of_ble_eq_true rfl) dX8_notMove_39 rfl) (fun v4 _ => ?_)
        refine lq_if_ne hC 61 dX8_notMove_42 (by decide) ?_ ?_
        · skip
          refine lx_iconstv (v := 3) hC dX8_notMove_61 rfl ?_
          refine lx_goto hC 66 dX8_notMove_62 (by decide) ?_
          exact lx_iret hC rfl hr dX8_notMove_66
        · skip
          refine lx_aload_n hC dX8_notMove_45 rfl 2 rfl ?_
          refine lx_iload_n hC dX8_notMove_46 rfl 4 rfl ?_
          refine lq_call hC hx (sat_X8_isLockedRow (xl X) hl p1 s) (run_V (as := [.int p1]) (rest := []) hC hE ly8 rfl cw_X8_isLockedRow ci_X8_isLockedRow wd1712 cs_X8_isLockedRow ce_X8_isLockedRow cd_X8_isLockedRow (by decide) (by decide) (Nat.le_of_ble_eq_true rfl) dX8_notMove_47 rfl) (fun v5 _ => ?_)
          refine lq_if_ne hC 61 dX8_notMove_50 (by decide) ?_ ?_
          · skip
            refine lx_iconstv (v := 3) hC dX8_notMove_61 rfl ?_
            refine lx_goto hC 66 dX8_notMove_62 (by decide) ?_
            exact lx_iret hC rfl hr dX8_notMove_66
          · skip
            refine lx_aload_n hC dX8_notMove_53 rfl 2 rfl ?_
            refine lx_iload_n hC dX8_notMove_54 rfl 4 rfl ?_
            refine lq_call hC hx (sat_X8_roomIn (xl X) hl p1 s) (run_V (as := [.int p1]) (rest := []) hC hE ly8 rfl cw_X8_roomIn ci_X8_roomIn wd1732 cs_X8_roomIn ce_X8_roomIn cd_X8_roomIn (by decide) (by decide) (Nat.le_of_ble_eq_true rfl) dX8_notMove_55 rfl) (fun v6 _ => ?_)
            refine lq_if_ne hC 65 dX8_notMove_58 (by decide) ?_ ?_
            · skip
              refine lx_iconstv (v := 0) hC dX8_notMove_65 rfl ?_
              exact lx_iret hC rfl hr dX8_notMove_66
            · skip
              refine lx_iconstv (v := 3) hC dX8_notMove_61 rfl ?_
              refine lx_goto hC 66 dX8_notMove_62 (by decide) ?_
              exact lx_iret hC rfl hr dX8_notMove_66
    · skip
      refine lx_iconstv (v := 2) hC dX8_notMove_20 rfl ?_
      exact lx_iret hC rfl hr dX8_notMove_21
  · skip
    refine lx_iconstv (v := 1) hC dX8_notMove_10 rfl ?_
    exact lx_iret hC rfl hr dX8_notMove_11
set_option maxRecDepth 100000 in
set_option maxHeartbeats 2000000 in
theorem n_X8_moves (p0 : Int32) (p1 : Int32) (s : Mem) : Mn s (m_X8_moves p0 p1 s) := by
  unfold m_X8_moves
  refine mn_bindP (fun v1 => ?_)
  refine mn_bindP (fun v2 => ?_)
  refine mn_bind (n_X8_sets v1 1 p1 s) (fun v3 s4 => ?_)
  refine mn_if ?_ mn_none
  refine mn_if ?_ mn_none
  refine mn_put (fun s5 => ?_)
  exact mn_some
set_option maxRecDepth 100000 in
set_option maxHeartbeats 2000000 in
theorem sat_X8_moves (l : Launch) (hl : l.stackTraces = false) (p0 : Int32) (p1 : Int32) (s : Mem) : Sat l yX8_moves (.code yX8_moves cX8_moves 5 (some .int)) 32 544 (fun x => some (.int x)) [.ref 8, .int p0, .int p1] s (m_X8_moves p0 p1 s) := by
  refine sat_of hl (by decide) (Nat.le_of_ble_eq_true rfl) (fun X V A adV hxl hC hE hx hr => ?_) (n_X8_moves p0 p1 s)
  subst hxl
  show LX X V A 32 544 (nC s) (nS s) _ 0 [(0, .ref 8), (1, .int p0), (2, .int p1)] [] s _
  unfold m_X8_moves
  refine lx_aload_n hC dX8_moves_0 rfl 0 rfl ?_
  refine lx_iload_n hC dX8_moves_1 rfl 1 rfl ?_
  refine lx_callP hC hx (sat_X8_slotOf (xl X) hl p0 s) (run_V (as := [.int p0]) (rest := []) hC hE ly8 rfl cw_X8_slotOf ci_X8_slotOf wd1768 cs_X8_slotOf ce_X8_slotOf cd_X8_slotOf (by decide) (by decide) (Nat.le_of_ble_eq_true rfl) dX8_moves_2 rfl) (fun v1 _ => ?_)
  refine lx_istore_n hC dX8_moves_5 rfl (by decide) ?_
  refine lx_aload_n hC dX8_moves_6 rfl 1 rfl ?_
  refine lx_iload_n hC dX8_moves_7 rfl 0 rfl ?_
  refine lx_iconstv (v := 1) hC dX8_moves_8 rfl ?_
  refine lx_callP hC hx (sat_X8_is (xl X) hl v1 1 s) (run_V (as := [.int v1, .int 1]) (rest := []) hC hE ly8 rfl cw_X8_is ci_X8_is wd1740 cs_X8_is ce_X8_is cd_X8_is (by decide) (by decide) (Nat.le_of_ble_eq_true rfl) dX8_moves_9 rfl) (fun v2 _ => ?_)
  refine lx_istore hC dX8_moves_12 (by decide) ?_
  refine lx_aload_n hC dX8_moves_14 rfl 2 rfl ?_
  refine lx_iload_n hC dX8_moves_15 rfl 1 rfl ?_
  refine lx_iconstv (v := 1) hC dX8_moves_16 rfl ?_
  refine lx_iload_n hC dX8_moves_17 rfl 4 rfl ?_
  refine lx_callX hC hx (sat_X8_sets (xl X) hl v1 1 p1 s) (run_V (as := [.int v1, .int 1, .int p1]) (rest := []) hC hE ly8 rfl cw_X8_sets ci_X8_sets wd1756 cs_X8_sets ce_X8_sets cd_X8_sets (by decide) (by decide) (Nat.le_of_ble_eq_true rfl) dX8_moves_18 rfl) (fun v3 s4 _ => ?_)
  refine lx_aload_n hC dX8_moves_21 rfl 2 rfl ?_
  refine lx_getR (q := 136) hC ly8 rfl 1 (by decide) rfl rfl inX8 wd1606 dX8_moves_22 ?_
  refine lx_iconstv (v := 3) hC dX8_moves_25 rfl ?_
  refine lx_dup2ir hC dX8_moves_26 ?_
  refine lx_iaload hC ly136 dX8_moves_27 ?_
  refine lx_iconstv (v := 1) hC dX8_moves_28 rfl ?_
  refine lx_iadd hC dX8_moves_29 ?_
  refine lx_iastore hC ly136 dX8_moves_30 (fun s5 => ?_)
  refine lx_iload hC dX8_moves_31 0 rfl ?_
  exact lx_iret hC rfl hr dX8_moves_33
set_option maxRecDepth 100000 in
set_option maxHeartbeats 2000000 in
theorem n_X8_move (p0 : Int32) (p1 : Int32) (s : Mem) : Mn s (m_X8_move p0 p1 s) := by
  unfold m_X8_move
  refine mn_put (fun s1 => ?_)
  refine mn_bindP (fun v2 => ?_)
  refine mn_if ?_ ?_
  · skip
    refine mn_bind (n_X8_remembers s1) (fun v3 s4 => ?_)
    refine mn_bind (n_X8_moves p0 p1 s4) (fun v5 s6 => ?_)
    exact mn_some
  · skip
    refine mn_bind (n_X8_fails v2 s1) (fun v7 s8 => ?_)
    exact mn_some
set_option maxRecDepth 100000 in
set_option maxHeartbeats 2000000 in
theorem sat_X8_move (l : Launch) (hl : l.stackTraces = false) (p0 : Int32) (p1 : Int32) (s : Mem) : Sat l yX8_move (.code yX8_move cX8_move 4 (some .int)) 34 590 (fun x => some (.int x)) [.ref 8, .int p0, .int p1] s (m_X8_move p0 p1 s) := by
  refine sat_of hl (by decide) (Nat.le_of_ble_eq_true rfl) (fun X V A adV hxl hC hE hx hr => ?_) (n_X8_move p0 p1 s)
  subst hxl
  show LX X V A 34 590 (nC s) (nS s) _ 0 [(0, .ref 8), (1, .int p0), (2, .int p1)] [] s _
  unfold m_X8_move
  refine lx_aload_n hC dX8_move_0 rfl 0 rfl ?_
  refine lx_iconstv (v := 0) hC dX8_move_1 rfl ?_
  refine lx_putI hC ly8 rfl 0 (by decide) rfl tyX8 tyX8_ok nmX8 rfl rfl rfl inX8 wd1605 dX8_move_2 (fun s1 => ?_)
  refine lx_aload_n hC dX8_move_5 rfl 0 rfl ?_
  refine lx_iload_n hC dX8_move_6 rfl 1 rfl ?_
  refine lx_iload_n hC dX8_move_7 rfl 2 rfl ?_
  refine lx_callP hC hx (sat_X8_notMove (xl X) hl p0 p1 s1) (run_V (as := [.int p0, .int p1]) (rest := []) hC hE ly8 rfl cw_X8_notMove ci_X8_notMove wd1764 cs_X8_notMove ce_X8_notMove cd_X8_notMove (by decide) (by decide) (Nat.le_of_ble_eq_true rfl) dX8_move_8 rfl) (fun v2 _ => ?_)
  refine lx_istore_n hC dX8_move_11 rfl (by decide) ?_
  refine lx_iload_n hC dX8_move_12 rfl 0 rfl ?_
  refine lx_if_eq hC 22 dX8_move_13 (by decide) ?_ ?_
  · skip
    refine lx_aload_n hC dX8_move_22 rfl 1 rfl ?_
    refine lx_callX hC hx (sat_X8_remembers (xl X) hl s1) (run_V (as := []) (rest := []) hC hE ly8 rfl cw_X8_remembers ci_X8_remembers wd1680 cs_X8_remembers ce_X8_remembers cd_X8_remembers (by decide) (by decide) (Nat.le_of_ble_eq_true rfl) dX8_move_23 rfl) (fun v3 s4 _ => ?_)
    refine lx_aload_n hC dX8_move_26 rfl 1 rfl ?_
    refine lx_iload_n hC dX8_move_27 rfl 2 rfl ?_
    refine lx_iload_n hC dX8_move_28 rfl 3 rfl ?_
    refine lx_callX hC hx (sat_X8_moves (xl X) hl p0 p1 s4) (run_V (as := [.int p0, .int p1]) (rest := []) hC hE ly8 rfl cw_X8_moves ci_X8_moves wd1772 cs_X8_moves ce_X8_moves cd_X8_moves (by decide) (by decide) (Nat.le_of_ble_eq_true rfl) dX8_move_29 rfl) (fun v5 s6 _ => ?_)
    exact lx_iret hC rfl hr dX8_move_32
  · skip
    refine lx_aload_n hC dX8_move_16 rfl 1 rfl ?_
    refine lx_iload_n hC dX8_move_17 rfl 0 rfl ?_
    refine lx_callX hC hx (sat_X8_fails (xl X) hl v2 s1) (run_V (as := [.int v2]) (rest := []) hC hE ly8 rfl cw_X8_fails ci_X8_fails wd1676 cs_X8_fails ce_X8_fails cd_X8_fails (by decide) (by decide) (Nat.le_of_ble_eq_true rfl) dX8_move_18 rfl) (fun v7 s8 _ => ?_)
    exact lx_iret hC rfl hr dX8_move_21
set_option maxRecDepth 100000 in
set_option maxHeartbeats 2000000 in
theorem sat_X8_notRemove (l : Launch) (hl : l.stackTraces = false) (p0 : Int32) (s : Mem) : Sat l yX8_notRemove (.code yX8_notRemove cX8_notRemove 3 (some .int)) 32 544 (fun x => some (.int x)) [.ref 8, .int p0] s (pur s (m_X8_notRemove p0 s)) := by
  refine sat_of hl (by decide) (Nat.le_of_ble_eq_true rfl) (fun X V A adV hxl hC hE hx hr => ?_) pur_mono
  subst hxl
  show LX X V A 32 544 (nC s) (nS s) _ 0 [(0, .ref 8), (1, .int p0)] [] s _
  unfold m_X8_notRemove
  refine lx_aload_n hC dX8_notRemove_0 rfl 0 rfl ?_
  refine lx_iload_n hC dX8_notRemove_1 rfl 1 rfl ?_
  refine lq_call hC hx (sat_X8_slotOf (xl X) hl p0 s) (run_V (as := [.int p0]) (rest := []) hC hE ly8 rfl cw_X8_slotOf ci_X8_slotOf wd1768 cs_X8_slotOf ce_X8_slotOf cd_X8_slotOf (by decide) (by decide) (Nat.le_of_ble_eq_true rfl) dX8_notRemove_2 rfl) (fun v1 _ => ?_)
  refine lx_istore_n hC dX8_notRemove_5 rfl (by decide) ?_
  refine lx_iload_n hC dX8_notRemove_6 rfl 0 rfl ?_
  refine lq_if_ge hC 12 dX8_notRemove_7 (by decide) ?_ ?_
  · skip
    refine lx_aload_n hC dX8_notRemove_12 rfl 1 rfl ?_
    refine lx_aload_n hC dX8_notRemove_13 rfl 1 rfl ?_
    refine lx_iload_n hC dX8_notRemove_14 rfl 0 rfl ?_
    refine lx_iconstv (v := 1) hC dX8_notRemove_15 rfl ?_
    refine lq_call hC hx (sat_X8_is (xl X) hl v1 1 s) (run_V (as := [.int v1, .int 1]) (rest := [.ref 8]) hC hE ly8 rfl cw_X8_is ci_X8_is wd1740 cs_X8_is ce_X8_is cd_X8_is (by decide) (by decide) (Nat.le_of_ble_eq_true rfl) dX8_notRemove_16 rfl) (fun v2 _ => ?_)
    refine lq_call hC hx (sat_X8_isLockedRow (xl X) hl v2 s) (run_V (as := [.int v2]) (rest := []) hC hE ly8 rfl cw_X8_isLockedRow ci_X8_isLockedRow wd1712 cs_X8_isLockedRow ce_X8_isLockedRow cd_X8_isLockedRow (by decide) (by decide) (Nat.le_of_ble_eq_true rfl) dX8_notRemove_19 rfl) (fun v3 _ => ?_)
    refine lq_if_eq hC 29 dX8_notRemove_22 (by decide) ?_ ?_
    · skip
      refine lx_iconstv (v := 0) hC dX8_notRemove_29 rfl ?_
      exact lx_iret hC rfl hr dX8_notRemove_30
    · skip
      refine lx_iconstv (v := 2) hC dX8_notRemove_25 rfl ?_
      refine lx_goto hC 30 dX8_notRemove_26 (by decide) ?_
      exact lx_iret hC rfl hr dX8_notRemove_30
  · skip
    refine lx_iconstv (v := 1) hC dX8_notRemove_10 rfl ?_
    exact lx_iret hC rfl hr dX8_notRemove_11
set_option maxRecDepth 100000 in
set_option maxHeartbeats 2000000 in
theorem l_X8_inherits_j26 {X : Cx} {V : Vx} {A : Nat → Prop} {adV : Nat → Nat} {c0 s0 : Nat} (hC : Cok X V A yX8_inherits.cls cX8_inherits 4) (hE : Env0 V adV A (xs X) (xs X).heap) (hl : (xl X).stackTraces = false) (hx : ∀ x ∈ (xc X).exceptionTable.toList, False) (hr : (xh X).sig.returnType = some .int) (x3 : Int32) (x4 : Int32) (x5 : Int32) (x6 : Int32) (s : Mem) : LX X V A 31 523 c0 s0 (FM X V A (fun x => some (.int x))) 26 [(3, .int x3)] [.int x4, .int x5, .int x6, .ref 8] s (m_X8_inherits_j26 x3 x4 x5 x6 s ) := by
  unfold m_X8_inherits_j26
  refine lx_callX hC hx (sat_X8_sets (xl X) hl x6 x5 x4 s) (run_V (as := [.int x6, .int x5, .int x4]) (rest := []) hC hE ly8 rfl cw_X8_sets ci_X8_sets wd1756 cs_X8_sets ce_X8_sets cd_X8_sets (by decide) (by decide) (Nat.le_of_ble_eq_true rfl) dX8_inherits_26 rfl) (fun v7 s8 _ => ?_)
  refine lx_iload_n hC dX8_inherits_29 rfl 0 rfl ?_
  refine lx_sipush (v := 999) hC dX8_inherits_30 (by decide) ?_
  refine lx_icmp_le hC 44 dX8_inherits_33 (by decide) ?_ ?_
  · skip
    refine lx_iconstv (v := 0) hC dX8_inherits_44 rfl ?_
    exact lx_iret hC rfl hr dX8_inherits_45
  · skip
    refine lx_iload_n hC dX8_inherits_36 rfl 0 rfl ?_
    refine lx_sipush (v := 999) hC dX8_inherits_37 (by decide) ?_
    refine lx_isub hC dX8_inherits_40 ?_
    refine lx_goto hC 45 dX8_inherits_41 (by decide) ?_
    exact lx_iret hC rfl hr dX8_inherits_45
set_option maxRecDepth 100000 in
set_option maxHeartbeats 2000000 in
theorem n_X8_inherits_j26 (x3 : Int32) (x4 : Int32) (x5 : Int32) (x6 : Int32) (s : Mem) : Mn s (m_X8_inherits_j26 x3 x4 x5 x6 s ) := by
  unfold m_X8_inherits_j26
  refine mn_bind (n_X8_sets x6 x5 x4 s) (fun v7 s8 => ?_)
  refine mn_if ?_ ?_
  · skip
    exact mn_some
  · skip
    exact mn_some
set_option maxRecDepth 100000 in
set_option maxHeartbeats 2000000 in
theorem n_X8_inherits (p0 : Int32) (p1 : Int32) (s : Mem) : Mn s (m_X8_inherits p0 p1 s) := by
  unfold m_X8_inherits
  refine mn_bindP (fun v1 => ?_)
  refine mn_vl (fun y2 => ?_)
  refine mn_if ?_ ?_
  · skip
    exact n_X8_inherits_j26 y2 y2 2 p0 s 
  · skip
    exact n_X8_inherits_j26 y2 999 2 p0 s 
set_option maxRecDepth 100000 in
set_option maxHeartbeats 2000000 in
theorem sat_X8_inherits (l : Launch) (hl : l.stackTraces = false) (p0 : Int32) (p1 : Int32) (s : Mem) : Sat l yX8_inherits (.code yX8_inherits cX8_inherits 4 (some .int)) 31 523 (fun x => some (.int x)) [.ref 8, .int p0, .int p1] s (m_X8_inherits p0 p1 s) := by
  refine sat_of hl (by decide) (Nat.le_of_ble_eq_true rfl) (fun X V A adV hxl hC hE hx hr => ?_) (n_X8_inherits p0 p1 s)
  subst hxl
  show LX X V A 31 523 (nC s) (nS s) _ 0 [(0, .ref 8), (1, .int p0), (2, .int p1)] [] s _
  unfold m_X8_inherits
  refine lx_aload_n hC dX8_inherits_0 rfl 0 rfl ?_
  refine lx_iload_n hC dX8_inherits_1 rfl 1 rfl ?_
  refine lx_iconstv (v := 2) hC dX8_inherits_2 rfl ?_
  refine lx_callP hC hx (sat_X8_is (xl X) hl p0 2 s) (run_V (as := [.int p0, .int 2]) (rest := []) hC hE ly8 rfl cw_X8_is ci_X8_is wd1740 cs_X8_is ce_X8_is cd_X8_is (by decide) (by decide) (Nat.le_of_ble_eq_true rfl) dX8_inherits_3 rfl) (fun v1 _ => ?_)
  refine lx_iload_n hC dX8_inherits_6 rfl 2 rfl ?_
  refine lx_iadd hC dX8_inherits_7 ?_
  refine lx_istore_nN hC dX8_inherits_8 rfl (by decide) (fun y2 => ?_)
  refine lx_aload_n hC dX8_inherits_9 rfl 1 rfl ?_
  refine lx_iload_n hC dX8_inherits_10 rfl 2 rfl ?_
  refine lx_iconstv (v := 2) hC dX8_inherits_11 rfl ?_
  refine lx_iload_n hC dX8_inherits_12 rfl 0 rfl ?_
  refine lx_sipush (v := 999) hC dX8_inherits_13 (by decide) ?_
  refine lx_icmp_le hC 25 dX8_inherits_16 (by decide) ?_ ?_
  · skip
    refine lx_iload_n hC dX8_inherits_25 rfl 0 rfl ?_
    exact lx_sub [0] rfl (l_X8_inherits_j26 hC hE hl hx hr y2 y2 2 p0 s )
  · skip
    refine lx_sipush (v := 999) hC dX8_inherits_19 (by decide) ?_
    refine lx_goto hC 26 dX8_inherits_22 (by decide) ?_
    exact lx_sub [0] rfl (l_X8_inherits_j26 hC hE hl hx hr y2 999 2 p0 s )
set_option maxRecDepth 100000 in
set_option maxHeartbeats 2000000 in
theorem l_X8_removes_b149 {X : Cx} {V : Vx} {A : Nat → Prop} {adV : Nat → Nat} {c0 s0 : Nat} (hC : Cok X V A yX8_removes.cls cX8_removes 7) (hE : Env0 V adV A (xs X) (xs X).heap) (hl : (xl X).stackTraces = false) (hx : ∀ x ∈ (xc X).exceptionTable.toList, False) (hr : (xh X).sig.returnType = some .int) (x16 : Int32) (x17 : Int32) (s : Mem) (kf149 : (Int32 × Mem) → Res Int32) (hk149 : ∀ a, LX X V A 32 546 c0 s0 (FM X V A (fun x => some (.int x))) 149 [(0, .ref 8), (4, .int x16), (5, .int x17), (6, .int a.1)] [] a.2 (kf149 a)) (w6 : Int32) : LX X V A 32 546 c0 s0 (FM X V A (fun x => some (.int x))) 149 [(0, .ref 8), (4, .int x16), (5, .int x17), (6, .int w6)] [] s (m_X8_removes_b149 x16 x17 s kf149 w6 ) := by
  unfold m_X8_removes_b149
  refine lx_iload hC dX8_removes_149 3 rfl ?_
  refine lx_iconstv (v := 4) hC dX8_removes_151 rfl ?_
  refine lx_icmp_ge hC 172 dX8_removes_152 (by decide) ?_ ?_
  · skip
    refine lx_aload_n hC dX8_removes_172 rfl 0 rfl ?_
    refine lx_getR (q := 136) hC ly8 rfl 1 (by decide) rfl rfl inX8 wd1606 dX8_removes_173 ?_
    refine lx_bipush (v := 6) hC dX8_removes_176 (by decide) ?_
    refine lx_dup2ir hC dX8_removes_178 ?_
    refine lx_iaload hC ly136 dX8_removes_179 ?_
    refine lx_iload hC dX8_removes_180 1 rfl ?_
    refine lx_iadd hC dX8_removes_182 ?_
    refine lx_iastore hC ly136 dX8_removes_183 (fun s18 => ?_)
    refine lx_aload_n hC dX8_removes_184 rfl 0 rfl ?_
    refine lx_getR (q := 136) hC ly8 rfl 1 (by decide) rfl rfl inX8 wd1606 dX8_removes_185 ?_
    refine lx_iconstv (v := 4) hC dX8_removes_188 rfl ?_
    refine lx_dup2ir hC dX8_removes_189 ?_
    refine lx_iaload hC ly136 dX8_removes_190 ?_
    refine lx_iconstv (v := 1) hC dX8_removes_191 rfl ?_
    refine lx_iadd hC dX8_removes_192 ?_
    refine lx_iastore hC ly136 dX8_removes_193 (fun s19 => ?_)
    refine lx_iload hC dX8_removes_194 1 rfl ?_
    exact lx_iret hC rfl hr dX8_removes_196
  · skip
    refine lx_aload_n hC dX8_removes_155 rfl 0 rfl ?_
    refine lx_getR (q := 136) hC ly8 rfl 1 (by decide) rfl rfl inX8 wd1606 dX8_removes_156 ?_
    refine lx_iload hC dX8_removes_159 2 rfl ?_
    refine lx_iload hC dX8_removes_161 3 rfl ?_
    refine lx_iadd hC dX8_removes_163 ?_
    refine lx_iconstv (v := 0) hC dX8_removes_164 rfl ?_
    refine lx_iastore hC ly136 dX8_removes_165 (fun s20 => ?_)
    refine lx_iincN (v := 1) hC dX8_removes_166 3 rfl (by decide) rfl (fun y21 => ?_)
    refine lx_goto hC 149 dX8_removes_169 (by decide) ?_
    exact lx_sub [1, 2, 3, 0] rfl (hk149 (y21, s20))
set_option maxRecDepth 100000 in
set_option maxHeartbeats 2000000 in
theorem n_X8_removes_b149 (x16 : Int32) (x17 : Int32) (s : Mem) (kf149 : (Int32 × Mem) → Res Int32) (hm149 : ∀ a, Mn a.2 (kf149 a)) (w6 : Int32) : Mn s (m_X8_removes_b149 x16 x17 s kf149 w6 ) := by
  unfold m_X8_removes_b149
  refine mn_if ?_ ?_
  · skip
    refine mn_if ?_ mn_none
    refine mn_if ?_ mn_none
    refine mn_put (fun s18 => ?_)
    refine mn_if ?_ mn_none
    refine mn_if ?_ mn_none
    refine mn_put (fun s19 => ?_)
    exact mn_some
  · skip
    refine mn_if ?_ mn_none
    refine mn_put (fun s20 => ?_)
    refine mn_vl (fun y21 => ?_)
    exact hm149 (y21, s20)
set_option maxRecDepth 100000 in
set_option maxHeartbeats 2000000 in
theorem l_X8_removes_b117 {X : Cx} {V : Vx} {A : Nat → Prop} {adV : Nat → Nat} {c0 s0 : Nat} (hC : Cok X V A yX8_removes.cls cX8_removes 7) (hE : Env0 V adV A (xs X) (xs X).heap) (hl : (xl X).stackTraces = false) (hx : ∀ x ∈ (xc X).exceptionTable.toList, False) (hr : (xh X).sig.returnType = some .int) (x14 : Int32) (x15 : Int32) (s : Mem) (kf117 : (Int32 × Mem) → Res Int32) (hk117 : ∀ a, LX X V A 32 546 c0 s0 (FM X V A (fun x => some (.int x))) 117 [(0, .ref 8), (4, .int x14), (5, .int x15), (6, .int a.1)] [] a.2 (kf117 a)) (w6 : Int32) : LX X V A 32 546 c0 s0 (FM X V A (fun x => some (.int x))) 117 [(0, .ref 8), (4, .int x14), (5, .int x15), (6, .int w6)] [] s (m_X8_removes_b117 x14 x15 s kf117 w6 ) := by
  unfold m_X8_removes_b117
  refine lx_iload hC dX8_removes_117 3 rfl ?_
  refine lx_iload hC dX8_removes_119 2 rfl ?_
  refine lx_icmp_ge hC 146 dX8_removes_121 (by decide) ?_ ?_
  · skip
    refine lx_iconstv (v := 0) hC dX8_removes_146 rfl ?_
    refine lx_istore hC dX8_removes_147 (by decide) ?_
    refine lx_sub [1, 2, 3, 0] rfl ?_
    exact lx_lp (lv := fun a => [(0, .ref 8), (4, .int x14), (5, .int x15), (6, .int a.1)]) (st := fun _ => []) (sg := fun a => a.2) (fun kf hq a => l_X8_removes_b149 hC hE hl hx hr x14 x15 a.2 kf hq a.1) FUEL (0, s)
  · skip
    refine lx_aload_n hC dX8_removes_124 rfl 0 rfl ?_
    refine lx_getR (q := 136) hC ly8 rfl 1 (by decide) rfl rfl inX8 wd1606 dX8_removes_125 ?_
    refine lx_iload hC dX8_removes_128 3 rfl ?_
    refine lx_aload_n hC dX8_removes_130 rfl 0 rfl ?_
    refine lx_getR (q := 136) hC ly8 rfl 1 (by decide) rfl rfl inX8 wd1606 dX8_removes_131 ?_
    refine lx_iload hC dX8_removes_134 3 rfl ?_
    refine lx_iconstv (v := 4) hC dX8_removes_136 rfl ?_
    refine lx_iadd hC dX8_removes_137 ?_
    refine lx_iaload hC ly136 dX8_removes_138 ?_
    refine lx_iastore hC ly136 dX8_removes_139 (fun s22 => ?_)
    refine lx_iincN (v := 1) hC dX8_removes_140 3 rfl (by decide) rfl (fun y23 => ?_)
    refine lx_goto hC 117 dX8_removes_143 (by decide) ?_
    exact lx_sub [1, 2, 3, 0] rfl (hk117 (y23, s22))
set_option maxRecDepth 100000 in
set_option maxHeartbeats 2000000 in
theorem n_X8_removes_b117 (x14 : Int32) (x15 : Int32) (s : Mem) (kf117 : (Int32 × Mem) → Res Int32) (hm117 : ∀ a, Mn a.2 (kf117 a)) (w6 : Int32) : Mn s (m_X8_removes_b117 x14 x15 s kf117 w6 ) := by
  unfold m_X8_removes_b117
  refine mn_if ?_ ?_
  · skip
    exact mn_lp (sg := fun a => a.2) (fun kf hq a => n_X8_removes_b149 x14 x15 a.2 kf hq a.1) FUEL (0, s)
  · skip
    refine mn_if ?_ mn_none
    refine mn_if ?_ mn_none
    refine mn_put (fun s22 => ?_)
    refine mn_vl (fun y23 => ?_)
    exact hm117 (y23, s22)
set_option maxRecDepth 100000 in
set_option maxHeartbeats 2000000 in
theorem l_X8_removes_b48 {X : Cx} {V : Vx} {A : Nat → Prop} {adV : Nat → Nat} {c0 s0 : Nat} (hC : Cok X V A yX8_removes.cls cX8_removes 7) (hE : Env0 V adV A (xs X) (xs X).heap) (hl : (xl X).stackTraces = false) (hx : ∀ x ∈ (xc X).exceptionTable.toList, False) (hr : (xh X).sig.returnType = some .int) (x7 : Int32) (x8 : Int32) (x9 : Int32) (x10 : Int32) (s : Mem) (kf48 : (Int32 × Mem) → Res Int32) (hk48 : ∀ a, LX X V A 32 546 c0 s0 (FM X V A (fun x => some (.int x))) 48 [(0, .ref 8), (1, .int x7), (2, .int x8), (3, .int x9), (4, .int x10), (5, .int a.1)] [] a.2 (kf48 a)) (w5 : Int32) : LX X V A 32 546 c0 s0 (FM X V A (fun x => some (.int x))) 48 [(0, .ref 8), (1, .int x7), (2, .int x8), (3, .int x9), (4, .int x10), (5, .int w5)] [] s (m_X8_removes_b48 x7 x8 x9 x10 s kf48 w5 ) := by
  unfold m_X8_removes_b48
  refine lx_iload hC dX8_removes_48 5 rfl ?_
  refine lx_aload_n hC dX8_removes_50 rfl 0 rfl ?_
  refine lx_getR (q := 136) hC ly8 rfl 1 (by decide) rfl rfl inX8 wd1606 dX8_removes_51 ?_
  refine lx_iconstv (v := 1) hC dX8_removes_54 rfl ?_
  refine lx_iaload hC ly136 dX8_removes_55 ?_
  refine lx_icmp_ge hC 86 dX8_removes_56 (by decide) ?_ ?_
  · skip
    refine lx_aload_n hC dX8_removes_86 rfl 0 rfl ?_
    refine lx_getR (q := 136) hC ly8 rfl 1 (by decide) rfl rfl inX8 wd1606 dX8_removes_87 ?_
    refine lx_iconstv (v := 1) hC dX8_removes_90 rfl ?_
    refine lx_dup2ir hC dX8_removes_91 ?_
    refine lx_iaload hC ly136 dX8_removes_92 ?_
    refine lx_iconstv (v := 1) hC dX8_removes_93 rfl ?_
    refine lx_isub hC dX8_removes_94 ?_
    refine lx_iastore hC ly136 dX8_removes_95 (fun s11 => ?_)
    refine lx_bipush (v := 39) hC dX8_removes_96 (by decide) ?_
    refine lx_iconstv (v := 4) hC dX8_removes_98 rfl ?_
    refine lx_aload_n hC dX8_removes_99 rfl 0 rfl ?_
    refine lx_getR (q := 136) hC ly8 rfl 1 (by decide) rfl rfl inX8 wd1606 dX8_removes_100 ?_
    refine lx_iconstv (v := 1) hC dX8_removes_103 rfl ?_
    refine lx_iaload hC ly136 dX8_removes_104 ?_
    refine lx_imul hC dX8_removes_105 ?_
    refine lx_iadd hC dX8_removes_106 ?_
    refine lx_istoreN hC dX8_removes_107 (by decide) (fun y12 => ?_)
    refine lx_bipush (v := 39) hC dX8_removes_109 (by decide) ?_
    refine lx_iconstv (v := 4) hC dX8_removes_111 rfl ?_
    refine lx_iload_n hC dX8_removes_112 rfl 3 rfl ?_
    refine lx_imul hC dX8_removes_113 ?_
    refine lx_iadd hC dX8_removes_114 ?_
    refine lx_istoreN hC dX8_removes_115 (by decide) (fun y13 => ?_)
    refine lx_sub [2, 6, 1, 0] rfl ?_
    exact lx_lp (lv := fun a => [(0, .ref 8), (4, .int x10), (5, .int y12), (6, .int a.1)]) (st := fun _ => []) (sg := fun a => a.2) (fun kf hq a => l_X8_removes_b117 hC hE hl hx hr x10 y12 a.2 kf hq a.1) FUEL (y13, s11)
  · skip
    refine lx_aload_n hC dX8_removes_59 rfl 0 rfl ?_
    refine lx_iload hC dX8_removes_60 5 rfl ?_
    refine lx_iconstv (v := 3) hC dX8_removes_62 rfl ?_
    refine lx_callP hC hx (sat_X8_is (xl X) hl w5 3 s) (run_V (as := [.int w5, .int 3]) (rest := []) hC hE ly8 rfl cw_X8_is ci_X8_is wd1740 cs_X8_is ce_X8_is cd_X8_is (by decide) (by decide) (Nat.le_of_ble_eq_true rfl) dX8_removes_63 rfl) (fun v24 _ => ?_)
    refine lx_iload_n hC dX8_removes_66 rfl 1 rfl ?_
    refine lx_iconstv (v := 1) hC dX8_removes_67 rfl ?_
    refine lx_iadd hC dX8_removes_68 ?_
    refine lx_icmp_ne hC 80 dX8_removes_69 (by decide) ?_ ?_
    · skip
      refine lx_iincN (v := 1) hC dX8_removes_80 5 rfl (by decide) rfl (fun y25 => ?_)
      refine lx_goto hC 48 dX8_removes_83 (by decide) ?_
      exact lx_sub [1, 2, 3, 4, 5, 0] rfl (hk48 (y25, s))
    · skip
      refine lx_aload_n hC dX8_removes_72 rfl 0 rfl ?_
      refine lx_iload hC dX8_removes_73 5 rfl ?_
      refine lx_iconstv (v := 3) hC dX8_removes_75 rfl ?_
      refine lx_iload_n hC dX8_removes_76 rfl 3 rfl ?_
      refine lx_callX hC hx (sat_X8_sets (xl X) hl w5 3 x9 s) (run_V (as := [.int w5, .int 3, .int x9]) (rest := []) hC hE ly8 rfl cw_X8_sets ci_X8_sets wd1756 cs_X8_sets ce_X8_sets cd_X8_sets (by decide) (by decide) (Nat.le_of_ble_eq_true rfl) dX8_removes_77 rfl) (fun v26 s27 _ => ?_)
      refine lx_iincN (v := 1) hC dX8_removes_80 5 rfl (by decide) rfl (fun y28 => ?_)
      refine lx_goto hC 48 dX8_removes_83 (by decide) ?_
      exact lx_sub [1, 2, 3, 4, 5, 0] rfl (hk48 (y28, s27))
set_option maxRecDepth 100000 in
set_option maxHeartbeats 2000000 in
theorem n_X8_removes_b48 (x7 : Int32) (x8 : Int32) (x9 : Int32) (x10 : Int32) (s : Mem) (kf48 : (Int32 × Mem) → Res Int32) (hm48 : ∀ a, Mn a.2 (kf48 a)) (w5 : Int32) : Mn s (m_X8_removes_b48 x7 x8 x9 x10 s kf48 w5 ) := by
  unfold m_X8_removes_b48
  refine mn_if ?_ mn_none
  refine mn_if ?_ ?_
  · skip
    refine mn_if ?_ mn_none
    refine mn_if ?_ mn_none
    refine mn_put (fun s11 => ?_)
    refine mn_if ?_ mn_none
    refine mn_vl (fun y12 => ?_)
    refine mn_vl (fun y13 => ?_)
    exact mn_lp (sg := fun a => a.2) (fun kf hq a => n_X8_removes_b117 x10 y12 a.2 kf hq a.1) FUEL (y13, s11)
  · skip
    refine mn_bindP (fun v24 => ?_)
    refine mn_if ?_ ?_
    · skip
      refine mn_vl (fun y25 => ?_)
      exact hm48 (y25, s)
    · skip
      refine mn_bind (n_X8_sets w5 3 x9 s) (fun v26 s27 => ?_)
      refine mn_vl (fun y28 => ?_)
      exact hm48 (y28, s27)
set_option maxRecDepth 100000 in
set_option maxHeartbeats 2000000 in
theorem n_X8_removes (p0 : Int32) (s : Mem) : Mn s (m_X8_removes p0 s) := by
  unfold m_X8_removes
  refine mn_bindP (fun v1 => ?_)
  refine mn_bindP (fun v2 => ?_)
  refine mn_if ?_ ?_
  · skip
    refine mn_bindP (fun v3 => ?_)
    refine mn_bindP (fun v4 => ?_)
    refine mn_bind (n_X8_inherits v3 v4 s) (fun v5 s6 => ?_)
    exact mn_lp (sg := fun a => a.2) (fun kf hq a => n_X8_removes_b48 p0 v1 v2 v5 a.2 kf hq a.1) FUEL (0, s6)
  · skip
    refine mn_bindP (fun v29 => ?_)
    exact mn_lp (sg := fun a => a.2) (fun kf hq a => n_X8_removes_b48 p0 v1 v2 v29 a.2 kf hq a.1) FUEL (0, s)
set_option maxRecDepth 100000 in
set_option maxHeartbeats 2000000 in
theorem sat_X8_removes (l : Launch) (hl : l.stackTraces = false) (p0 : Int32) (s : Mem) : Sat l yX8_removes (.code yX8_removes cX8_removes 7 (some .int)) 32 546 (fun x => some (.int x)) [.ref 8, .int p0] s (m_X8_removes p0 s) := by
  refine sat_of hl (by decide) (Nat.le_of_ble_eq_true rfl) (fun X V A adV hxl hC hE hx hr => ?_) (n_X8_removes p0 s)
  subst hxl
  show LX X V A 32 546 (nC s) (nS s) _ 0 [(0, .ref 8), (1, .int p0)] [] s _
  unfold m_X8_removes
  refine lx_aload_n hC dX8_removes_0 rfl 0 rfl ?_
  refine lx_iload_n hC dX8_removes_1 rfl 1 rfl ?_
  refine lx_callP hC hx (sat_X8_slotOf (xl X) hl p0 s) (run_V (as := [.int p0]) (rest := []) hC hE ly8 rfl cw_X8_slotOf ci_X8_slotOf wd1768 cs_X8_slotOf ce_X8_slotOf cd_X8_slotOf (by decide) (by decide) (Nat.le_of_ble_eq_true rfl) dX8_removes_2 rfl) (fun v1 _ => ?_)
  refine lx_istore_n hC dX8_removes_5 rfl (by decide) ?_
  refine lx_aload_n hC dX8_removes_6 rfl 1 rfl ?_
  refine lx_iload_n hC dX8_removes_7 rfl 0 rfl ?_
  refine lx_iconstv (v := 3) hC dX8_removes_8 rfl ?_
  refine lx_callP hC hx (sat_X8_is (xl X) hl v1 3 s) (run_V (as := [.int v1, .int 3]) (rest := []) hC hE ly8 rfl cw_X8_is ci_X8_is wd1740 cs_X8_is ce_X8_is cd_X8_is (by decide) (by decide) (Nat.le_of_ble_eq_true rfl) dX8_removes_9 rfl) (fun v2 _ => ?_)
  refine lx_istore_n hC dX8_removes_12 rfl (by decide) ?_
  refine lx_iload_n hC dX8_removes_13 rfl 0 rfl ?_
  refine lx_if_ne hC 26 dX8_removes_14 (by decide) ?_ ?_
  · skip
    refine lx_aload_n hC dX8_removes_26 rfl 2 rfl ?_
    refine lx_aload_n hC dX8_removes_27 rfl 2 rfl ?_
    refine lx_iload_n hC dX8_removes_28 rfl 0 rfl ?_
    refine lx_iconstv (v := 1) hC dX8_removes_29 rfl ?_
    refine lx_isub hC dX8_removes_30 ?_
    refine lx_callP hC hx (sat_X8_slotOf (xl X) hl (v2 - 1) s) (run_V (as := [.int (v2 - 1)]) (rest := [.ref 8]) hC hE ly8 rfl cw_X8_slotOf ci_X8_slotOf wd1768 cs_X8_slotOf ce_X8_slotOf cd_X8_slotOf (by decide) (by decide) (Nat.le_of_ble_eq_true rfl) dX8_removes_31 rfl) (fun v3 _ => ?_)
    refine lx_aload_n hC dX8_removes_34 rfl 2 rfl ?_
    refine lx_iload_n hC dX8_removes_35 rfl 1 rfl ?_
    refine lx_iconstv (v := 2) hC dX8_removes_36 rfl ?_
    refine lx_callP hC hx (sat_X8_is (xl X) hl v1 2 s) (run_V (as := [.int v1, .int 2]) (rest := [.int v3, .ref 8]) hC hE ly8 rfl cw_X8_is ci_X8_is wd1740 cs_X8_is ce_X8_is cd_X8_is (by decide) (by decide) (Nat.le_of_ble_eq_true rfl) dX8_removes_37 rfl) (fun v4 _ => ?_)
    refine lx_callX hC hx (sat_X8_inherits (xl X) hl v3 v4 s) (run_V (as := [.int v3, .int v4]) (rest := []) hC hE ly8 rfl cw_X8_inherits ci_X8_inherits wd1788 cs_X8_inherits ce_X8_inherits cd_X8_inherits (by decide) (by decide) (Nat.le_of_ble_eq_true rfl) dX8_removes_40 rfl) (fun v5 s6 _ => ?_)
    refine lx_istore hC dX8_removes_43 (by decide) ?_
    refine lx_iconstv (v := 0) hC dX8_removes_45 rfl ?_
    refine lx_istore hC dX8_removes_46 (by decide) ?_
    refine lx_sub [4, 5, 3, 2, 1, 0] rfl ?_
    exact lx_lp (lv := fun a => [(0, .ref 8), (1, .int p0), (2, .int v1), (3, .int v2), (4, .int v5), (5, .int a.1)]) (st := fun _ => []) (sg := fun a => a.2) (fun kf hq a => l_X8_removes_b48 hC hE hl hx hr p0 v1 v2 v5 a.2 kf hq a.1) FUEL (0, s6)
  · skip
    refine lx_aload_n hC dX8_removes_17 rfl 2 rfl ?_
    refine lx_iload_n hC dX8_removes_18 rfl 1 rfl ?_
    refine lx_iconstv (v := 2) hC dX8_removes_19 rfl ?_
    refine lx_callP hC hx (sat_X8_is (xl X) hl v1 2 s) (run_V (as := [.int v1, .int 2]) (rest := []) hC hE ly8 rfl cw_X8_is ci_X8_is wd1740 cs_X8_is ce_X8_is cd_X8_is (by decide) (by decide) (Nat.le_of_ble_eq_true rfl) dX8_removes_20 rfl) (fun v29 _ => ?_)
    refine lx_goto hC 43 dX8_removes_23 (by decide) ?_
    refine lx_istore hC dX8_removes_43 (by decide) ?_
    refine lx_iconstv (v := 0) hC dX8_removes_45 rfl ?_
    refine lx_istore hC dX8_removes_46 (by decide) ?_
    refine lx_sub [4, 5, 3, 2, 1, 0] rfl ?_
    exact lx_lp (lv := fun a => [(0, .ref 8), (1, .int p0), (2, .int v1), (3, .int v2), (4, .int v29), (5, .int a.1)]) (st := fun _ => []) (sg := fun a => a.2) (fun kf hq a => l_X8_removes_b48 hC hE hl hx hr p0 v1 v2 v29 a.2 kf hq a.1) FUEL (0, s)
set_option maxRecDepth 100000 in
set_option maxHeartbeats 2000000 in
theorem n_X8_remove (p0 : Int32) (s : Mem) : Mn s (m_X8_remove p0 s) := by
  unfold m_X8_remove
  refine mn_put (fun s1 => ?_)
  refine mn_bindP (fun v2 => ?_)
  refine mn_if ?_ ?_
  · skip
    refine mn_bind (n_X8_remembers s1) (fun v3 s4 => ?_)
    refine mn_bind (n_X8_removes p0 s4) (fun v5 s6 => ?_)
    exact mn_some
  · skip
    refine mn_bind (n_X8_fails v2 s1) (fun v7 s8 => ?_)
    exact mn_some
set_option maxRecDepth 100000 in
set_option maxHeartbeats 2000000 in
theorem sat_X8_remove (l : Launch) (hl : l.stackTraces = false) (p0 : Int32) (s : Mem) : Sat l yX8_remove (.code yX8_remove cX8_remove 3 (some .int)) 33 572 (fun x => some (.int x)) [.ref 8, .int p0] s (m_X8_remove p0 s) := by
  refine sat_of hl (by decide) (Nat.le_of_ble_eq_true rfl) (fun X V A adV hxl hC hE hx hr => ?_) (n_X8_remove p0 s)
  subst hxl
  show LX X V A 33 572 (nC s) (nS s) _ 0 [(0, .ref 8), (1, .int p0)] [] s _
  unfold m_X8_remove
  refine lx_aload_n hC dX8_remove_0 rfl 0 rfl ?_
  refine lx_iconstv (v := 0) hC dX8_remove_1 rfl ?_
  refine lx_putI hC ly8 rfl 0 (by decide) rfl tyX8 tyX8_ok nmX8 rfl rfl rfl inX8 wd1605 dX8_remove_2 (fun s1 => ?_)
  refine lx_aload_n hC dX8_remove_5 rfl 0 rfl ?_
  refine lx_iload_n hC dX8_remove_6 rfl 1 rfl ?_
  refine lx_callP hC hx (sat_X8_notRemove (xl X) hl p0 s1) (run_V (as := [.int p0]) (rest := []) hC hE ly8 rfl cw_X8_notRemove ci_X8_notRemove wd1780 cs_X8_notRemove ce_X8_notRemove cd_X8_notRemove (by decide) (by decide) (Nat.le_of_ble_eq_true rfl) dX8_remove_7 rfl) (fun v2 _ => ?_)
  refine lx_istore_n hC dX8_remove_10 rfl (by decide) ?_
  refine lx_iload_n hC dX8_remove_11 rfl 0 rfl ?_
  refine lx_if_eq hC 21 dX8_remove_12 (by decide) ?_ ?_
  · skip
    refine lx_aload_n hC dX8_remove_21 rfl 1 rfl ?_
    refine lx_callX hC hx (sat_X8_remembers (xl X) hl s1) (run_V (as := []) (rest := []) hC hE ly8 rfl cw_X8_remembers ci_X8_remembers wd1680 cs_X8_remembers ce_X8_remembers cd_X8_remembers (by decide) (by decide) (Nat.le_of_ble_eq_true rfl) dX8_remove_22 rfl) (fun v3 s4 _ => ?_)
    refine lx_aload_n hC dX8_remove_25 rfl 1 rfl ?_
    refine lx_iload_n hC dX8_remove_26 rfl 2 rfl ?_
    refine lx_callX hC hx (sat_X8_removes (xl X) hl p0 s4) (run_V (as := [.int p0]) (rest := []) hC hE ly8 rfl cw_X8_removes ci_X8_removes wd1784 cs_X8_removes ce_X8_removes cd_X8_removes (by decide) (by decide) (Nat.le_of_ble_eq_true rfl) dX8_remove_27 rfl) (fun v5 s6 _ => ?_)
    exact lx_iret hC rfl hr dX8_remove_30
  · skip
    refine lx_aload_n hC dX8_remove_15 rfl 1 rfl ?_
    refine lx_iload_n hC dX8_remove_16 rfl 0 rfl ?_
    refine lx_callX hC hx (sat_X8_fails (xl X) hl v2 s1) (run_V (as := [.int v2]) (rest := []) hC hE ly8 rfl cw_X8_fails ci_X8_fails wd1676 cs_X8_fails ce_X8_fails cd_X8_fails (by decide) (by decide) (Nat.le_of_ble_eq_true rfl) dX8_remove_17 rfl) (fun v7 s8 _ => ?_)
    exact lx_iret hC rfl hr dX8_remove_20
set_option maxRecDepth 100000 in
set_option maxHeartbeats 2000000 in
theorem l_X8_lastHeirOf_b2 {X : Cx} {V : Vx} {A : Nat → Prop} {adV : Nat → Nat} {c0 s0 : Nat} (hC : Cok X V A yX8_lastHeirOf.cls cX8_lastHeirOf 3) (hE : Env0 V adV A (xs X) (xs X).heap) (hl : (xl X).stackTraces = false) (hx : ∀ x ∈ (xc X).exceptionTable.toList, False) (hr : (xh X).sig.returnType = some .int) (s : Mem) (kf2 : Int32 → Option Int32) (hk2 : ∀ a, LX X V A 32 544 c0 s0 (FM X V A (fun x => some (.int x))) 2 [(0, .ref 8), (2, .int a)] [] s (pur s (kf2 a))) (w2 : Int32) : LX X V A 32 544 c0 s0 (FM X V A (fun x => some (.int x))) 2 [(0, .ref 8), (2, .int w2)] [] s (pur s (m_X8_lastHeirOf_b2 s kf2 w2 )) := by
  unfold m_X8_lastHeirOf_b2
  refine lx_aload_n hC dX8_lastHeirOf_2 rfl 0 rfl ?_
  refine lx_iload_n hC dX8_lastHeirOf_3 rfl 1 rfl ?_
  refine lx_iconstv (v := 3) hC dX8_lastHeirOf_4 rfl ?_
  refine lq_call hC hx (sat_X8_is (xl X) hl w2 3 s) (run_V (as := [.int w2, .int 3]) (rest := []) hC hE ly8 rfl cw_X8_is ci_X8_is wd1740 cs_X8_is ce_X8_is cd_X8_is (by decide) (by decide) (Nat.le_of_ble_eq_true rfl) dX8_lastHeirOf_5 rfl) (fun v1 _ => ?_)
  refine lq_if_eq hC 27 dX8_lastHeirOf_8 (by decide) ?_ ?_
  · skip
    refine lx_iload_n hC dX8_lastHeirOf_27 rfl 1 rfl ?_
    exact lx_iret hC rfl hr dX8_lastHeirOf_28
  · skip
    refine lx_aload_n hC dX8_lastHeirOf_11 rfl 0 rfl ?_
    refine lx_aload_n hC dX8_lastHeirOf_12 rfl 0 rfl ?_
    refine lx_iload_n hC dX8_lastHeirOf_13 rfl 1 rfl ?_
    refine lx_iconstv (v := 3) hC dX8_lastHeirOf_14 rfl ?_
    refine lq_call hC hx (sat_X8_is (xl X) hl w2 3 s) (run_V (as := [.int w2, .int 3]) (rest := [.ref 8]) hC hE ly8 rfl cw_X8_is ci_X8_is wd1740 cs_X8_is ce_X8_is cd_X8_is (by decide) (by decide) (Nat.le_of_ble_eq_true rfl) dX8_lastHeirOf_15 rfl) (fun v2 _ => ?_)
    refine lx_iconstv (v := 1) hC dX8_lastHeirOf_18 rfl ?_
    refine lx_isub hC dX8_lastHeirOf_19 ?_
    refine lq_call hC hx (sat_X8_slotOf (xl X) hl (v2 - 1) s) (run_V (as := [.int (v2 - 1)]) (rest := []) hC hE ly8 rfl cw_X8_slotOf ci_X8_slotOf wd1768 cs_X8_slotOf ce_X8_slotOf cd_X8_slotOf (by decide) (by decide) (Nat.le_of_ble_eq_true rfl) dX8_lastHeirOf_20 rfl) (fun v3 _ => ?_)
    refine lx_istore_n hC dX8_lastHeirOf_23 rfl (by decide) ?_
    refine lx_goto hC 2 dX8_lastHeirOf_24 (by decide) ?_
    exact lx_sub [1, 0] rfl (hk2 v3)
set_option maxRecDepth 100000 in
set_option maxHeartbeats 2000000 in
theorem sat_X8_lastHeirOf (l : Launch) (hl : l.stackTraces = false) (p0 : Int32) (s : Mem) : Sat l yX8_lastHeirOf (.code yX8_lastHeirOf cX8_lastHeirOf 3 (some .int)) 32 544 (fun x => some (.int x)) [.ref 8, .int p0] s (pur s (m_X8_lastHeirOf p0 s)) := by
  refine sat_of hl (by decide) (Nat.le_of_ble_eq_true rfl) (fun X V A adV hxl hC hE hx hr => ?_) pur_mono
  subst hxl
  show LX X V A 32 544 (nC s) (nS s) _ 0 [(0, .ref 8), (1, .int p0)] [] s _
  unfold m_X8_lastHeirOf
  refine lx_iload_n hC dX8_lastHeirOf_0 rfl 1 rfl ?_
  refine lx_istore_n hC dX8_lastHeirOf_1 rfl (by decide) ?_
  refine lx_sub [1, 0] rfl ?_
  exact lq_lp (lv := fun a => [(0, .ref 8), (2, .int a)]) (st := fun _ => []) (fun kf hq a => l_X8_lastHeirOf_b2 hC hE hl hx hr s kf hq a) FUEL p0
set_option maxRecDepth 100000 in
set_option maxHeartbeats 2000000 in
theorem l_X8_comesTo_j32 {X : Cx} {V : Vx} {A : Nat → Prop} {adV : Nat → Nat} {c0 s0 : Nat} (hC : Cok X V A yX8_comesTo.cls cX8_comesTo 4) (hE : Env0 V adV A (xs X) (xs X).heap) (hl : (xl X).stackTraces = false) (hx : ∀ x ∈ (xc X).exceptionTable.toList, False) (hr : (xh X).sig.returnType = some .boolean) (x2 : Int32) (x3 : Int32) (s : Mem) : LX X V A 32 544 c0 s0 (FM X V A (fun x => some (.int x))) 32 [(2, .int x2), (3, .int x3)] [] s (pur s (m_X8_comesTo_j32 x2 x3 s )) := by
  unfold m_X8_comesTo_j32
  refine lx_iload_n hC dX8_comesTo_32 rfl 1 rfl ?_
  refine lx_iload_n hC dX8_comesTo_33 rfl 0 rfl ?_
  refine lq_icmp_ne hC 41 dX8_comesTo_34 (by decide) ?_ ?_
  · skip
    refine lx_iconstv (v := 0) hC dX8_comesTo_41 rfl ?_
    exact lx_zret hC rfl hr rfl dX8_comesTo_42
  · skip
    refine lx_iconstv (v := 1) hC dX8_comesTo_37 rfl ?_
    refine lx_goto hC 42 dX8_comesTo_38 (by decide) ?_
    exact lx_zret hC rfl hr rfl dX8_comesTo_42
set_option maxRecDepth 100000 in
set_option maxHeartbeats 2000000 in
theorem l_X8_comesTo_b2 {X : Cx} {V : Vx} {A : Nat → Prop} {adV : Nat → Nat} {c0 s0 : Nat} (hC : Cok X V A yX8_comesTo.cls cX8_comesTo 4) (hE : Env0 V adV A (xs X) (xs X).heap) (hl : (xl X).stackTraces = false) (hx : ∀ x ∈ (xc X).exceptionTable.toList, False) (hr : (xh X).sig.returnType = some .boolean) (x1 : Int32) (s : Mem) (kf2 : Int32 → Option Int32) (hk2 : ∀ a, LX X V A 32 544 c0 s0 (FM X V A (fun x => some (.int x))) 2 [(0, .ref 8), (2, .int x1), (3, .int a)] [] s (pur s (kf2 a))) (w3 : Int32) : LX X V A 32 544 c0 s0 (FM X V A (fun x => some (.int x))) 2 [(0, .ref 8), (2, .int x1), (3, .int w3)] [] s (pur s (m_X8_comesTo_b2 x1 s kf2 w3 )) := by
  unfold m_X8_comesTo_b2
  refine lx_iload_n hC dX8_comesTo_2 rfl 2 rfl ?_
  refine lx_iload_n hC dX8_comesTo_3 rfl 1 rfl ?_
  refine lq_icmp_eq hC 32 dX8_comesTo_4 (by decide) ?_ ?_
  · skip
    exact lx_sub [1, 2] rfl (l_X8_comesTo_j32 hC hE hl hx hr x1 w3 s )
  · skip
    refine lx_aload_n hC dX8_comesTo_7 rfl 0 rfl ?_
    refine lx_iload_n hC dX8_comesTo_8 rfl 2 rfl ?_
    refine lx_iconstv (v := 3) hC dX8_comesTo_9 rfl ?_
    refine lq_call hC hx (sat_X8_is (xl X) hl w3 3 s) (run_V (as := [.int w3, .int 3]) (rest := []) hC hE ly8 rfl cw_X8_is ci_X8_is wd1740 cs_X8_is ce_X8_is cd_X8_is (by decide) (by decide) (Nat.le_of_ble_eq_true rfl) dX8_comesTo_10 rfl) (fun v6 _ => ?_)
    refine lq_if_eq hC 32 dX8_comesTo_13 (by decide) ?_ ?_
    · skip
      exact lx_sub [1, 2] rfl (l_X8_comesTo_j32 hC hE hl hx hr x1 w3 s )
    · skip
      refine lx_aload_n hC dX8_comesTo_16 rfl 0 rfl ?_
      refine lx_aload_n hC dX8_comesTo_17 rfl 0 rfl ?_
      refine lx_iload_n hC dX8_comesTo_18 rfl 2 rfl ?_
      refine lx_iconstv (v := 3) hC dX8_comesTo_19 rfl ?_
      refine lq_call hC hx (sat_X8_is (xl X) hl w3 3 s) (run_V (as := [.int w3, .int 3]) (rest := [.ref 8]) hC hE ly8 rfl cw_X8_is ci_X8_is wd1740 cs_X8_is ce_X8_is cd_X8_is (by decide) (by decide) (Nat.le_of_ble_eq_true rfl) dX8_comesTo_20 rfl) (fun v9 _ => ?_)
      refine lx_iconstv (v := 1) hC dX8_comesTo_23 rfl ?_
      refine lx_isub hC dX8_comesTo_24 ?_
      refine lq_call hC hx (sat_X8_slotOf (xl X) hl (v9 - 1) s) (run_V (as := [.int (v9 - 1)]) (rest := []) hC hE ly8 rfl cw_X8_slotOf ci_X8_slotOf wd1768 cs_X8_slotOf ce_X8_slotOf cd_X8_slotOf (by decide) (by decide) (Nat.le_of_ble_eq_true rfl) dX8_comesTo_25 rfl) (fun v10 _ => ?_)
      refine lx_istore_n hC dX8_comesTo_28 rfl (by decide) ?_
      refine lx_goto hC 2 dX8_comesTo_29 (by decide) ?_
      exact lx_sub [1, 2, 0] rfl (hk2 v10)
set_option maxRecDepth 100000 in
set_option maxHeartbeats 2000000 in
theorem sat_X8_comesTo (l : Launch) (hl : l.stackTraces = false) (p0 : Int32) (p1 : Int32) (s : Mem) : Sat l yX8_comesTo (.code yX8_comesTo cX8_comesTo 4 (some .boolean)) 32 544 (fun x => some (.int x)) [.ref 8, .int p0, .int p1] s (pur s (m_X8_comesTo p0 p1 s)) := by
  refine sat_of hl (by decide) (Nat.le_of_ble_eq_true rfl) (fun X V A adV hxl hC hE hx hr => ?_) pur_mono
  subst hxl
  show LX X V A 32 544 (nC s) (nS s) _ 0 [(0, .ref 8), (1, .int p0), (2, .int p1)] [] s _
  unfold m_X8_comesTo
  refine lx_iload_n hC dX8_comesTo_0 rfl 1 rfl ?_
  refine lx_istore_n hC dX8_comesTo_1 rfl (by decide) ?_
  refine lx_sub [1, 3, 0] rfl ?_
  exact lq_lp (lv := fun a => [(0, .ref 8), (2, .int p1), (3, .int a)]) (st := fun _ => []) (fun kf hq a => l_X8_comesTo_b2 hC hE hl hx hr p1 s kf hq a) FUEL p0
set_option maxRecDepth 100000 in
set_option maxHeartbeats 2000000 in
theorem sat_X8_notSetHeir (l : Launch) (hl : l.stackTraces = false) (p0 : Int32) (p1 : Int32) (s : Mem) : Sat l yX8_notSetHeir (.code yX8_notSetHeir cX8_notSetHeir 3 (some .int)) 33 567 (fun x => some (.int x)) [.ref 8, .int p0, .int p1] s (pur s (m_X8_notSetHeir p0 p1 s)) := by
  refine sat_of hl (by decide) (Nat.le_of_ble_eq_true rfl) (fun X V A adV hxl hC hE hx hr => ?_) pur_mono
  subst hxl
  show LX X V A 33 567 (nC s) (nS s) _ 0 [(0, .ref 8), (1, .int p0), (2, .int p1)] [] s _
  unfold m_X8_notSetHeir
  refine lx_aload_n hC dX8_notSetHeir_0 rfl 0 rfl ?_
  refine lx_iload_n hC dX8_notSetHeir_1 rfl 1 rfl ?_
  refine lq_call hC hx (sat_X8_slotOf (xl X) hl p0 s) (run_V (as := [.int p0]) (rest := []) hC hE ly8 rfl cw_X8_slotOf ci_X8_slotOf wd1768 cs_X8_slotOf ce_X8_slotOf cd_X8_slotOf (by decide) (by decide) (Nat.le_of_ble_eq_true rfl) dX8_notSetHeir_2 rfl) (fun v1 _ => ?_)
  refine lq_if_lt hC 16 dX8_notSetHeir_5 (by decide) ?_ ?_
  · skip
    refine lx_iconstv (v := 1) hC dX8_notSetHeir_16 rfl ?_
    exact lx_iret hC rfl hr dX8_notSetHeir_17
  · skip
    refine lx_aload_n hC dX8_notSetHeir_8 rfl 0 rfl ?_
    refine lx_iload_n hC dX8_notSetHeir_9 rfl 2 rfl ?_
    refine lq_call hC hx (sat_X8_slotOf (xl X) hl p1 s) (run_V (as := [.int p1]) (rest := []) hC hE ly8 rfl cw_X8_slotOf ci_X8_slotOf wd1768 cs_X8_slotOf ce_X8_slotOf cd_X8_slotOf (by decide) (by decide) (Nat.le_of_ble_eq_true rfl) dX8_notSetHeir_10 rfl) (fun v2 _ => ?_)
    refine lq_if_ge hC 18 dX8_notSetHeir_13 (by decide) ?_ ?_
    · skip
      refine lx_iload_n hC dX8_notSetHeir_18 rfl 1 rfl ?_
      refine lx_iload_n hC dX8_notSetHeir_19 rfl 2 rfl ?_
      refine lq_icmp_ne hC 25 dX8_notSetHeir_20 (by decide) ?_ ?_
      · skip
        refine lx_aload_n hC dX8_notSetHeir_25 rfl 0 rfl ?_
        refine lx_aload_n hC dX8_notSetHeir_26 rfl 0 rfl ?_
        refine lx_iload_n hC dX8_notSetHeir_27 rfl 2 rfl ?_
        refine lq_call hC hx (sat_X8_slotOf (xl X) hl p1 s) (run_V (as := [.int p1]) (rest := [.ref 8]) hC hE ly8 rfl cw_X8_slotOf ci_X8_slotOf wd1768 cs_X8_slotOf ce_X8_slotOf cd_X8_slotOf (by decide) (by decide) (Nat.le_of_ble_eq_true rfl) dX8_notSetHeir_28 rfl) (fun v3 _ => ?_)
        refine lx_aload_n hC dX8_notSetHeir_31 rfl 0 rfl ?_
        refine lx_iload_n hC dX8_notSetHeir_32 rfl 1 rfl ?_
        refine lq_call hC hx (sat_X8_slotOf (xl X) hl p0 s) (run_V (as := [.int p0]) (rest := [.int v3, .ref 8]) hC hE ly8 rfl cw_X8_slotOf ci_X8_slotOf wd1768 cs_X8_slotOf ce_X8_slotOf cd_X8_slotOf (by decide) (by decide) (Nat.le_of_ble_eq_true rfl) dX8_notSetHeir_33 rfl) (fun v4 _ => ?_)
        refine lq_call hC hx (sat_X8_comesTo (xl X) hl v3 v4 s) (run_V (as := [.int v3, .int v4]) (rest := []) hC hE ly8 rfl cw_X8_comesTo ci_X8_comesTo wd1800 cs_X8_comesTo ce_X8_comesTo cd_X8_comesTo (by decide) (by decide) (Nat.le_of_ble_eq_true rfl) dX8_notSetHeir_36 rfl) (fun v5 _ => ?_)
        refine lq_if_eq hC 46 dX8_notSetHeir_39 (by decide) ?_ ?_
        · skip
          refine lx_iconstv (v := 0) hC dX8_notSetHeir_46 rfl ?_
          exact lx_iret hC rfl hr dX8_notSetHeir_47
        · skip
          refine lx_iconstv (v := 3) hC dX8_notSetHeir_42 rfl ?_
          refine lx_goto hC 47 dX8_notSetHeir_43 (by decide) ?_
          exact lx_iret hC rfl hr dX8_notSetHeir_47
      · skip
        refine lx_iconstv (v := 2) hC dX8_notSetHeir_23 rfl ?_
        exact lx_iret hC rfl hr dX8_notSetHeir_24
    · skip
      refine lx_iconstv (v := 1) hC dX8_notSetHeir_16 rfl ?_
      exact lx_iret hC rfl hr dX8_notSetHeir_17
set_option maxRecDepth 100000 in
set_option maxHeartbeats 2000000 in
theorem n_X8_setsHeir (p0 : Int32) (p1 : Int32) (s : Mem) : Mn s (m_X8_setsHeir p0 p1 s) := by
  unfold m_X8_setsHeir
  refine mn_bindP (fun v1 => ?_)
  refine mn_bindP (fun v2 => ?_)
  refine mn_vl (fun y3 => ?_)
  refine mn_bind (n_X8_sets v1 3 (p1 + 1) s) (fun v4 s5 => ?_)
  exact mn_some
set_option maxRecDepth 100000 in
set_option maxHeartbeats 2000000 in
theorem sat_X8_setsHeir (l : Launch) (hl : l.stackTraces = false) (p0 : Int32) (p1 : Int32) (s : Mem) : Sat l yX8_setsHeir (.code yX8_setsHeir cX8_setsHeir 5 (some .int)) 32 544 (fun x => some (.int x)) [.ref 8, .int p0, .int p1] s (m_X8_setsHeir p0 p1 s) := by
  refine sat_of hl (by decide) (Nat.le_of_ble_eq_true rfl) (fun X V A adV hxl hC hE hx hr => ?_) (n_X8_setsHeir p0 p1 s)
  subst hxl
  show LX X V A 32 544 (nC s) (nS s) _ 0 [(0, .ref 8), (1, .int p0), (2, .int p1)] [] s _
  unfold m_X8_setsHeir
  refine lx_aload_n hC dX8_setsHeir_0 rfl 0 rfl ?_
  refine lx_iload_n hC dX8_setsHeir_1 rfl 1 rfl ?_
  refine lx_callP hC hx (sat_X8_slotOf (xl X) hl p0 s) (run_V (as := [.int p0]) (rest := []) hC hE ly8 rfl cw_X8_slotOf ci_X8_slotOf wd1768 cs_X8_slotOf ce_X8_slotOf cd_X8_slotOf (by decide) (by decide) (Nat.le_of_ble_eq_true rfl) dX8_setsHeir_2 rfl) (fun v1 _ => ?_)
  refine lx_istore_n hC dX8_setsHeir_5 rfl (by decide) ?_
  refine lx_aload_n hC dX8_setsHeir_6 rfl 1 rfl ?_
  refine lx_iload_n hC dX8_setsHeir_7 rfl 0 rfl ?_
  refine lx_iconstv (v := 3) hC dX8_setsHeir_8 rfl ?_
  refine lx_callP hC hx (sat_X8_is (xl X) hl v1 3 s) (run_V (as := [.int v1, .int 3]) (rest := []) hC hE ly8 rfl cw_X8_is ci_X8_is wd1740 cs_X8_is ce_X8_is cd_X8_is (by decide) (by decide) (Nat.le_of_ble_eq_true rfl) dX8_setsHeir_9 rfl) (fun v2 _ => ?_)
  refine lx_iconstv (v := 1) hC dX8_setsHeir_12 rfl ?_
  refine lx_isub hC dX8_setsHeir_13 ?_
  refine lx_istoreN hC dX8_setsHeir_14 (by decide) (fun y3 => ?_)
  refine lx_aload_n hC dX8_setsHeir_16 rfl 2 rfl ?_
  refine lx_iload_n hC dX8_setsHeir_17 rfl 1 rfl ?_
  refine lx_iconstv (v := 3) hC dX8_setsHeir_18 rfl ?_
  refine lx_iload_n hC dX8_setsHeir_19 rfl 4 rfl ?_
  refine lx_iconstv (v := 1) hC dX8_setsHeir_20 rfl ?_
  refine lx_iadd hC dX8_setsHeir_21 ?_
  refine lx_callX hC hx (sat_X8_sets (xl X) hl v1 3 (p1 + 1) s) (run_V (as := [.int v1, .int 3, .int (p1 + 1)]) (rest := []) hC hE ly8 rfl cw_X8_sets ci_X8_sets wd1756 cs_X8_sets ce_X8_sets cd_X8_sets (by decide) (by decide) (Nat.le_of_ble_eq_true rfl) dX8_setsHeir_22 rfl) (fun v4 s5 _ => ?_)
  refine lx_iload hC dX8_setsHeir_25 0 rfl ?_
  exact lx_iret hC rfl hr dX8_setsHeir_27
set_option maxRecDepth 100000 in
set_option maxHeartbeats 2000000 in
theorem n_X8_setHeir (p0 : Int32) (p1 : Int32) (s : Mem) : Mn s (m_X8_setHeir p0 p1 s) := by
  unfold m_X8_setHeir
  refine mn_put (fun s1 => ?_)
  refine mn_bindP (fun v2 => ?_)
  refine mn_if ?_ ?_
  · skip
    refine mn_bind (n_X8_remembers s1) (fun v3 s4 => ?_)
    refine mn_bind (n_X8_setsHeir p0 p1 s4) (fun v5 s6 => ?_)
    exact mn_some
  · skip
    refine mn_bind (n_X8_fails v2 s1) (fun v7 s8 => ?_)
    exact mn_some
set_option maxRecDepth 100000 in
set_option maxHeartbeats 2000000 in
theorem sat_X8_setHeir (l : Launch) (hl : l.stackTraces = false) (p0 : Int32) (p1 : Int32) (s : Mem) : Sat l yX8_setHeir (.code yX8_setHeir cX8_setHeir 4 (some .int)) 34 589 (fun x => some (.int x)) [.ref 8, .int p0, .int p1] s (m_X8_setHeir p0 p1 s) := by
  refine sat_of hl (by decide) (Nat.le_of_ble_eq_true rfl) (fun X V A adV hxl hC hE hx hr => ?_) (n_X8_setHeir p0 p1 s)
  subst hxl
  show LX X V A 34 589 (nC s) (nS s) _ 0 [(0, .ref 8), (1, .int p0), (2, .int p1)] [] s _
  unfold m_X8_setHeir
  refine lx_aload_n hC dX8_setHeir_0 rfl 0 rfl ?_
  refine lx_iconstv (v := 0) hC dX8_setHeir_1 rfl ?_
  refine lx_putI hC ly8 rfl 0 (by decide) rfl tyX8 tyX8_ok nmX8 rfl rfl rfl inX8 wd1605 dX8_setHeir_2 (fun s1 => ?_)
  refine lx_aload_n hC dX8_setHeir_5 rfl 0 rfl ?_
  refine lx_iload_n hC dX8_setHeir_6 rfl 1 rfl ?_
  refine lx_iload_n hC dX8_setHeir_7 rfl 2 rfl ?_
  refine lx_callP hC hx (sat_X8_notSetHeir (xl X) hl p0 p1 s1) (run_V (as := [.int p0, .int p1]) (rest := []) hC hE ly8 rfl cw_X8_notSetHeir ci_X8_notSetHeir wd1796 cs_X8_notSetHeir ce_X8_notSetHeir cd_X8_notSetHeir (by decide) (by decide) (Nat.le_of_ble_eq_true rfl) dX8_setHeir_8 rfl) (fun v2 _ => ?_)
  refine lx_istore_n hC dX8_setHeir_11 rfl (by decide) ?_
  refine lx_iload_n hC dX8_setHeir_12 rfl 0 rfl ?_
  refine lx_if_eq hC 22 dX8_setHeir_13 (by decide) ?_ ?_
  · skip
    refine lx_aload_n hC dX8_setHeir_22 rfl 1 rfl ?_
    refine lx_callX hC hx (sat_X8_remembers (xl X) hl s1) (run_V (as := []) (rest := []) hC hE ly8 rfl cw_X8_remembers ci_X8_remembers wd1680 cs_X8_remembers ce_X8_remembers cd_X8_remembers (by decide) (by decide) (Nat.le_of_ble_eq_true rfl) dX8_setHeir_23 rfl) (fun v3 s4 _ => ?_)
    refine lx_aload_n hC dX8_setHeir_26 rfl 1 rfl ?_
    refine lx_iload_n hC dX8_setHeir_27 rfl 2 rfl ?_
    refine lx_iload_n hC dX8_setHeir_28 rfl 3 rfl ?_
    refine lx_callX hC hx (sat_X8_setsHeir (xl X) hl p0 p1 s4) (run_V (as := [.int p0, .int p1]) (rest := []) hC hE ly8 rfl cw_X8_setsHeir ci_X8_setsHeir wd1804 cs_X8_setsHeir ce_X8_setsHeir cd_X8_setsHeir (by decide) (by decide) (Nat.le_of_ble_eq_true rfl) dX8_setHeir_29 rfl) (fun v5 s6 _ => ?_)
    exact lx_iret hC rfl hr dX8_setHeir_32
  · skip
    refine lx_aload_n hC dX8_setHeir_16 rfl 1 rfl ?_
    refine lx_iload_n hC dX8_setHeir_17 rfl 0 rfl ?_
    refine lx_callX hC hx (sat_X8_fails (xl X) hl v2 s1) (run_V (as := [.int v2]) (rest := []) hC hE ly8 rfl cw_X8_fails ci_X8_fails wd1676 cs_X8_fails ce_X8_fails cd_X8_fails (by decide) (by decide) (Nat.le_of_ble_eq_true rfl) dX8_setHeir_18 rfl) (fun v7 s8 _ => ?_)
    exact lx_iret hC rfl hr dX8_setHeir_21
set_option maxRecDepth 100000 in
set_option maxHeartbeats 2000000 in
theorem sat_X8_notClearHeir (l : Launch) (hl : l.stackTraces = false) (p0 : Int32) (s : Mem) : Sat l yX8_notClearHeir (.code yX8_notClearHeir cX8_notClearHeir 2 (some .int)) 32 544 (fun x => some (.int x)) [.ref 8, .int p0] s (pur s (m_X8_notClearHeir p0 s)) := by
  refine sat_of hl (by decide) (Nat.le_of_ble_eq_true rfl) (fun X V A adV hxl hC hE hx hr => ?_) pur_mono
  subst hxl
  show LX X V A 32 544 (nC s) (nS s) _ 0 [(0, .ref 8), (1, .int p0)] [] s _
  unfold m_X8_notClearHeir
  refine lx_aload_n hC dX8_notClearHeir_0 rfl 0 rfl ?_
  refine lx_iload_n hC dX8_notClearHeir_1 rfl 1 rfl ?_
  refine lq_call hC hx (sat_X8_slotOf (xl X) hl p0 s) (run_V (as := [.int p0]) (rest := []) hC hE ly8 rfl cw_X8_slotOf ci_X8_slotOf wd1768 cs_X8_slotOf ce_X8_slotOf cd_X8_slotOf (by decide) (by decide) (Nat.le_of_ble_eq_true rfl) dX8_notClearHeir_2 rfl) (fun v1 _ => ?_)
  refine lq_if_ge hC 10 dX8_notClearHeir_5 (by decide) ?_ ?_
  · skip
    refine lx_aload_n hC dX8_notClearHeir_10 rfl 0 rfl ?_
    refine lx_aload_n hC dX8_notClearHeir_11 rfl 0 rfl ?_
    refine lx_iload_n hC dX8_notClearHeir_12 rfl 1 rfl ?_
    refine lq_call hC hx (sat_X8_slotOf (xl X) hl p0 s) (run_V (as := [.int p0]) (rest := [.ref 8]) hC hE ly8 rfl cw_X8_slotOf ci_X8_slotOf wd1768 cs_X8_slotOf ce_X8_slotOf cd_X8_slotOf (by decide) (by decide) (Nat.le_of_ble_eq_true rfl) dX8_notClearHeir_13 rfl) (fun v2 _ => ?_)
    refine lx_iconstv (v := 3) hC dX8_notClearHeir_16 rfl ?_
    refine lq_call hC hx (sat_X8_is (xl X) hl v2 3 s) (run_V (as := [.int v2, .int 3]) (rest := []) hC hE ly8 rfl cw_X8_is ci_X8_is wd1740 cs_X8_is ce_X8_is cd_X8_is (by decide) (by decide) (Nat.le_of_ble_eq_true rfl) dX8_notClearHeir_17 rfl) (fun v3 _ => ?_)
    refine lq_if_ne hC 27 dX8_notClearHeir_20 (by decide) ?_ ?_
    · skip
      refine lx_iconstv (v := 0) hC dX8_notClearHeir_27 rfl ?_
      exact lx_iret hC rfl hr dX8_notClearHeir_28
    · skip
      refine lx_iconstv (v := 2) hC dX8_notClearHeir_23 rfl ?_
      refine lx_goto hC 28 dX8_notClearHeir_24 (by decide) ?_
      exact lx_iret hC rfl hr dX8_notClearHeir_28
  · skip
    refine lx_iconstv (v := 1) hC dX8_notClearHeir_8 rfl ?_
    exact lx_iret hC rfl hr dX8_notClearHeir_9
set_option maxRecDepth 100000 in
set_option maxHeartbeats 2000000 in
theorem n_X8_clearHeir (p0 : Int32) (s : Mem) : Mn s (m_X8_clearHeir p0 s) := by
  unfold m_X8_clearHeir
  refine mn_put (fun s1 => ?_)
  refine mn_bindP (fun v2 => ?_)
  refine mn_if ?_ ?_
  · skip
    refine mn_bind (n_X8_remembers s1) (fun v3 s4 => ?_)
    refine mn_bind (n_X8_setsHeir p0 (-1) s4) (fun v5 s6 => ?_)
    exact mn_some
  · skip
    refine mn_bind (n_X8_fails v2 s1) (fun v7 s8 => ?_)
    exact mn_some
set_option maxRecDepth 100000 in
set_option maxHeartbeats 2000000 in
theorem sat_X8_clearHeir (l : Launch) (hl : l.stackTraces = false) (p0 : Int32) (s : Mem) : Sat l yX8_clearHeir (.code yX8_clearHeir cX8_clearHeir 3 (some .int)) 33 568 (fun x => some (.int x)) [.ref 8, .int p0] s (m_X8_clearHeir p0 s) := by
  refine sat_of hl (by decide) (Nat.le_of_ble_eq_true rfl) (fun X V A adV hxl hC hE hx hr => ?_) (n_X8_clearHeir p0 s)
  subst hxl
  show LX X V A 33 568 (nC s) (nS s) _ 0 [(0, .ref 8), (1, .int p0)] [] s _
  unfold m_X8_clearHeir
  refine lx_aload_n hC dX8_clearHeir_0 rfl 0 rfl ?_
  refine lx_iconstv (v := 0) hC dX8_clearHeir_1 rfl ?_
  refine lx_putI hC ly8 rfl 0 (by decide) rfl tyX8 tyX8_ok nmX8 rfl rfl rfl inX8 wd1605 dX8_clearHeir_2 (fun s1 => ?_)
  refine lx_aload_n hC dX8_clearHeir_5 rfl 0 rfl ?_
  refine lx_iload_n hC dX8_clearHeir_6 rfl 1 rfl ?_
  refine lx_callP hC hx (sat_X8_notClearHeir (xl X) hl p0 s1) (run_V (as := [.int p0]) (rest := []) hC hE ly8 rfl cw_X8_notClearHeir ci_X8_notClearHeir wd1812 cs_X8_notClearHeir ce_X8_notClearHeir cd_X8_notClearHeir (by decide) (by decide) (Nat.le_of_ble_eq_true rfl) dX8_clearHeir_7 rfl) (fun v2 _ => ?_)
  refine lx_istore_n hC dX8_clearHeir_10 rfl (by decide) ?_
  refine lx_iload_n hC dX8_clearHeir_11 rfl 0 rfl ?_
  refine lx_if_eq hC 21 dX8_clearHeir_12 (by decide) ?_ ?_
  · skip
    refine lx_aload_n hC dX8_clearHeir_21 rfl 1 rfl ?_
    refine lx_callX hC hx (sat_X8_remembers (xl X) hl s1) (run_V (as := []) (rest := []) hC hE ly8 rfl cw_X8_remembers ci_X8_remembers wd1680 cs_X8_remembers ce_X8_remembers cd_X8_remembers (by decide) (by decide) (Nat.le_of_ble_eq_true rfl) dX8_clearHeir_22 rfl) (fun v3 s4 _ => ?_)
    refine lx_aload_n hC dX8_clearHeir_25 rfl 1 rfl ?_
    refine lx_iload_n hC dX8_clearHeir_26 rfl 2 rfl ?_
    refine lx_iconstv (v := (-1)) hC dX8_clearHeir_27 rfl ?_
    refine lx_callX hC hx (sat_X8_setsHeir (xl X) hl p0 (-1) s4) (run_V (as := [.int p0, .int (-1)]) (rest := []) hC hE ly8 rfl cw_X8_setsHeir ci_X8_setsHeir wd1804 cs_X8_setsHeir ce_X8_setsHeir cd_X8_setsHeir (by decide) (by decide) (Nat.le_of_ble_eq_true rfl) dX8_clearHeir_28 rfl) (fun v5 s6 _ => ?_)
    exact lx_iret hC rfl hr dX8_clearHeir_31
  · skip
    refine lx_aload_n hC dX8_clearHeir_15 rfl 1 rfl ?_
    refine lx_iload_n hC dX8_clearHeir_16 rfl 0 rfl ?_
    refine lx_callX hC hx (sat_X8_fails (xl X) hl v2 s1) (run_V (as := [.int v2]) (rest := []) hC hE ly8 rfl cw_X8_fails ci_X8_fails wd1676 cs_X8_fails ce_X8_fails cd_X8_fails (by decide) (by decide) (Nat.le_of_ble_eq_true rfl) dX8_clearHeir_17 rfl) (fun v7 s8 _ => ?_)
    exact lx_iret hC rfl hr dX8_clearHeir_20
set_option maxRecDepth 100000 in
set_option maxHeartbeats 2000000 in
theorem sat_X8_notLock (l : Launch) (hl : l.stackTraces = false) (p0 : Int32) (p1 : Int32) (s : Mem) : Sat l yX8_notLock (.code yX8_notLock cX8_notLock 3 (some .int)) 32 543 (fun x => some (.int x)) [.ref 8, .int p0, .int p1] s (pur s (m_X8_notLock p0 p1 s)) := by
  refine sat_of hl (by decide) (Nat.le_of_ble_eq_true rfl) (fun X V A adV hxl hC hE hx hr => ?_) pur_mono
  subst hxl
  show LX X V A 32 543 (nC s) (nS s) _ 0 [(0, .ref 8), (1, .int p0), (2, .int p1)] [] s _
  unfold m_X8_notLock
  refine lx_aload_n hC dX8_notLock_0 rfl 0 rfl ?_
  refine lx_iload_n hC dX8_notLock_1 rfl 1 rfl ?_
  refine lq_call hC hx (sat_X8_isRow (xl X) hl p0 s) (run_V (as := [.int p0]) (rest := []) hC hE ly8 rfl cw_X8_isRow ci_X8_isRow wd1708 cs_X8_isRow ce_X8_isRow cd_X8_isRow (by decide) (by decide) (Nat.le_of_ble_eq_true rfl) dX8_notLock_2 rfl) (fun v1 _ => ?_)
  refine lq_if_ne hC 10 dX8_notLock_5 (by decide) ?_ ?_
  · skip
    refine lx_aload_n hC dX8_notLock_10 rfl 0 rfl ?_
    refine lx_iload_n hC dX8_notLock_11 rfl 1 rfl ?_
    refine lx_iconstv (v := 2) hC dX8_notLock_12 rfl ?_
    refine lq_call hC hx (sat_X8_of (xl X) hl p0 2 s) (run_V (as := [.int p0, .int 2]) (rest := []) hC hE ly8 rfl cw_X8_of ci_X8_of wd1716 cs_X8_of ce_X8_of cd_X8_of (by decide) (by decide) (Nat.le_of_ble_eq_true rfl) dX8_notLock_13 rfl) (fun v2 _ => ?_)
    refine lx_iload_n hC dX8_notLock_16 rfl 2 rfl ?_
    refine lq_icmp_ne hC 24 dX8_notLock_17 (by decide) ?_ ?_
    · skip
      refine lx_iconstv (v := 0) hC dX8_notLock_24 rfl ?_
      exact lx_iret hC rfl hr dX8_notLock_25
    · skip
      refine lx_iconstv (v := 2) hC dX8_notLock_20 rfl ?_
      refine lx_goto hC 25 dX8_notLock_21 (by decide) ?_
      exact lx_iret hC rfl hr dX8_notLock_25
  · skip
    refine lx_iconstv (v := 1) hC dX8_notLock_8 rfl ?_
    exact lx_iret hC rfl hr dX8_notLock_9
set_option maxRecDepth 100000 in
set_option maxHeartbeats 2000000 in
theorem n_X8_locks (p0 : Int32) (p1 : Int32) (s : Mem) : Mn s (m_X8_locks p0 p1 s) := by
  unfold m_X8_locks
  refine mn_bind (n_X8_puts p0 2 p1 s) (fun v1 s2 => ?_)
  refine mn_bindP (fun v3 => ?_)
  exact mn_some
set_option maxRecDepth 100000 in
set_option maxHeartbeats 2000000 in
theorem sat_X8_locks (l : Launch) (hl : l.stackTraces = false) (p0 : Int32) (p1 : Int32) (s : Mem) : Sat l yX8_locks (.code yX8_locks cX8_locks 3 (some .int)) 32 544 (fun x => some (.int x)) [.ref 8, .int p0, .int p1] s (m_X8_locks p0 p1 s) := by
  refine sat_of hl (by decide) (Nat.le_of_ble_eq_true rfl) (fun X V A adV hxl hC hE hx hr => ?_) (n_X8_locks p0 p1 s)
  subst hxl
  show LX X V A 32 544 (nC s) (nS s) _ 0 [(0, .ref 8), (1, .int p0), (2, .int p1)] [] s _
  unfold m_X8_locks
  refine lx_aload_n hC dX8_locks_0 rfl 0 rfl ?_
  refine lx_iload_n hC dX8_locks_1 rfl 1 rfl ?_
  refine lx_iconstv (v := 2) hC dX8_locks_2 rfl ?_
  refine lx_iload_n hC dX8_locks_3 rfl 2 rfl ?_
  refine lx_callX hC hx (sat_X8_puts (xl X) hl p0 2 p1 s) (run_V (as := [.int p0, .int 2, .int p1]) (rest := []) hC hE ly8 rfl cw_X8_puts ci_X8_puts wd1696 cs_X8_puts ce_X8_puts cd_X8_puts (by decide) (by decide) (Nat.le_of_ble_eq_true rfl) dX8_locks_4 rfl) (fun v1 s2 _ => ?_)
  refine lx_aload_n hC dX8_locks_7 rfl 0 rfl ?_
  refine lx_callP hC hx (sat_X8_lockedRows (xl X) hl s2) (run_V (as := []) (rest := []) hC hE ly8 rfl cw_X8_lockedRows ci_X8_lockedRows wd1832 cs_X8_lockedRows ce_X8_lockedRows cd_X8_lockedRows (by decide) (by decide) (Nat.le_of_ble_eq_true rfl) dX8_locks_8 rfl) (fun v3 _ => ?_)
  exact lx_iret hC rfl hr dX8_locks_11
set_option maxRecDepth 100000 in
set_option maxHeartbeats 2000000 in
theorem n_X8_setsLock (p0 : Int32) (p1 : Int32) (s : Mem) : Mn s (m_X8_setsLock p0 p1 s) := by
  unfold m_X8_setsLock
  refine mn_put (fun s1 => ?_)
  refine mn_bindP (fun v2 => ?_)
  refine mn_if ?_ ?_
  · skip
    refine mn_bind (n_X8_remembers s1) (fun v3 s4 => ?_)
    refine mn_bind (n_X8_locks p0 p1 s4) (fun v5 s6 => ?_)
    exact mn_some
  · skip
    refine mn_bind (n_X8_fails v2 s1) (fun v7 s8 => ?_)
    exact mn_some
set_option maxRecDepth 100000 in
set_option maxHeartbeats 2000000 in
theorem sat_X8_setsLock (l : Launch) (hl : l.stackTraces = false) (p0 : Int32) (p1 : Int32) (s : Mem) : Sat l yX8_setsLock (.code yX8_setsLock cX8_setsLock 4 (some .int)) 33 566 (fun x => some (.int x)) [.ref 8, .int p0, .int p1] s (m_X8_setsLock p0 p1 s) := by
  refine sat_of hl (by decide) (Nat.le_of_ble_eq_true rfl) (fun X V A adV hxl hC hE hx hr => ?_) (n_X8_setsLock p0 p1 s)
  subst hxl
  show LX X V A 33 566 (nC s) (nS s) _ 0 [(0, .ref 8), (1, .int p0), (2, .int p1)] [] s _
  unfold m_X8_setsLock
  refine lx_aload_n hC dX8_setsLock_0 rfl 0 rfl ?_
  refine lx_iconstv (v := 0) hC dX8_setsLock_1 rfl ?_
  refine lx_putI hC ly8 rfl 0 (by decide) rfl tyX8 tyX8_ok nmX8 rfl rfl rfl inX8 wd1605 dX8_setsLock_2 (fun s1 => ?_)
  refine lx_aload_n hC dX8_setsLock_5 rfl 0 rfl ?_
  refine lx_iload_n hC dX8_setsLock_6 rfl 1 rfl ?_
  refine lx_iload_n hC dX8_setsLock_7 rfl 2 rfl ?_
  refine lx_callP hC hx (sat_X8_notLock (xl X) hl p0 p1 s1) (run_V (as := [.int p0, .int p1]) (rest := []) hC hE ly8 rfl cw_X8_notLock ci_X8_notLock wd1824 cs_X8_notLock ce_X8_notLock cd_X8_notLock (by decide) (by decide) (Nat.le_of_ble_eq_true rfl) dX8_setsLock_8 rfl) (fun v2 _ => ?_)
  refine lx_istore_n hC dX8_setsLock_11 rfl (by decide) ?_
  refine lx_iload_n hC dX8_setsLock_12 rfl 0 rfl ?_
  refine lx_if_eq hC 22 dX8_setsLock_13 (by decide) ?_ ?_
  · skip
    refine lx_aload_n hC dX8_setsLock_22 rfl 1 rfl ?_
    refine lx_callX hC hx (sat_X8_remembers (xl X) hl s1) (run_V (as := []) (rest := []) hC hE ly8 rfl cw_X8_remembers ci_X8_remembers wd1680 cs_X8_remembers ce_X8_remembers cd_X8_remembers (by decide) (by decide) (Nat.le_of_ble_eq_true rfl) dX8_setsLock_23 rfl) (fun v3 s4 _ => ?_)
    refine lx_aload_n hC dX8_setsLock_26 rfl 1 rfl ?_
    refine lx_iload_n hC dX8_setsLock_27 rfl 2 rfl ?_
    refine lx_iload_n hC dX8_setsLock_28 rfl 3 rfl ?_
    refine lx_callX hC hx (sat_X8_locks (xl X) hl p0 p1 s4) (run_V (as := [.int p0, .int p1]) (rest := []) hC hE ly8 rfl cw_X8_locks ci_X8_locks wd1828 cs_X8_locks ce_X8_locks cd_X8_locks (by decide) (by decide) (Nat.le_of_ble_eq_true rfl) dX8_setsLock_29 rfl) (fun v5 s6 _ => ?_)
    exact lx_iret hC rfl hr dX8_setsLock_32
  · skip
    refine lx_aload_n hC dX8_setsLock_16 rfl 1 rfl ?_
    refine lx_iload_n hC dX8_setsLock_17 rfl 0 rfl ?_
    refine lx_callX hC hx (sat_X8_fails (xl X) hl v2 s1) (run_V (as := [.int v2]) (rest := []) hC hE ly8 rfl cw_X8_fails ci_X8_fails wd1676 cs_X8_fails ce_X8_fails cd_X8_fails (by decide) (by decide) (Nat.le_of_ble_eq_true rfl) dX8_setsLock_18 rfl) (fun v7 s8 _ => ?_)
    exact lx_iret hC rfl hr dX8_setsLock_21
set_option maxRecDepth 100000 in
set_option maxHeartbeats 2000000 in
theorem n_X8_lock (p0 : Int32) (s : Mem) : Mn s (m_X8_lock p0 s) := by
  unfold m_X8_lock
  refine mn_bind (n_X8_setsLock p0 1 s) (fun v1 s2 => ?_)
  exact mn_some
set_option maxRecDepth 100000 in
set_option maxHeartbeats 2000000 in
theorem sat_X8_lock (l : Launch) (hl : l.stackTraces = false) (p0 : Int32) (s : Mem) : Sat l yX8_lock (.code yX8_lock cX8_lock 2 (some .int)) 34 589 (fun x => some (.int x)) [.ref 8, .int p0] s (m_X8_lock p0 s) := by
  refine sat_of hl (by decide) (Nat.le_of_ble_eq_true rfl) (fun X V A adV hxl hC hE hx hr => ?_) (n_X8_lock p0 s)
  subst hxl
  show LX X V A 34 589 (nC s) (nS s) _ 0 [(0, .ref 8), (1, .int p0)] [] s _
  unfold m_X8_lock
  refine lx_aload_n hC dX8_lock_0 rfl 0 rfl ?_
  refine lx_iload_n hC dX8_lock_1 rfl 1 rfl ?_
  refine lx_iconstv (v := 1) hC dX8_lock_2 rfl ?_
  refine lx_callX hC hx (sat_X8_setsLock (xl X) hl p0 1 s) (run_V (as := [.int p0, .int 1]) (rest := []) hC hE ly8 rfl cw_X8_setsLock ci_X8_setsLock wd1820 cs_X8_setsLock ce_X8_setsLock cd_X8_setsLock (by decide) (by decide) (Nat.le_of_ble_eq_true rfl) dX8_lock_3 rfl) (fun v1 s2 _ => ?_)
  exact lx_iret hC rfl hr dX8_lock_6
set_option maxRecDepth 100000 in
set_option maxHeartbeats 2000000 in
theorem n_X8_unlock (p0 : Int32) (s : Mem) : Mn s (m_X8_unlock p0 s) := by
  unfold m_X8_unlock
  refine mn_bind (n_X8_setsLock p0 0 s) (fun v1 s2 => ?_)
  exact mn_some
set_option maxRecDepth 100000 in
set_option maxHeartbeats 2000000 in
theorem sat_X8_unlock (l : Launch) (hl : l.stackTraces = false) (p0 : Int32) (s : Mem) : Sat l yX8_unlock (.code yX8_unlock cX8_unlock 2 (some .int)) 34 589 (fun x => some (.int x)) [.ref 8, .int p0] s (m_X8_unlock p0 s) := by
  refine sat_of hl (by decide) (Nat.le_of_ble_eq_true rfl) (fun X V A adV hxl hC hE hx hr => ?_) (n_X8_unlock p0 s)
  subst hxl
  show LX X V A 34 589 (nC s) (nS s) _ 0 [(0, .ref 8), (1, .int p0)] [] s _
  unfold m_X8_unlock
  refine lx_aload_n hC dX8_unlock_0 rfl 0 rfl ?_
  refine lx_iload_n hC dX8_unlock_1 rfl 1 rfl ?_
  refine lx_iconstv (v := 0) hC dX8_unlock_2 rfl ?_
  refine lx_callX hC hx (sat_X8_setsLock (xl X) hl p0 0 s) (run_V (as := [.int p0, .int 0]) (rest := []) hC hE ly8 rfl cw_X8_setsLock ci_X8_setsLock wd1820 cs_X8_setsLock ce_X8_setsLock cd_X8_setsLock (by decide) (by decide) (Nat.le_of_ble_eq_true rfl) dX8_unlock_3 rfl) (fun v1 s2 _ => ?_)
  exact lx_iret hC rfl hr dX8_unlock_6
set_option maxRecDepth 100000 in
set_option maxHeartbeats 2000000 in
theorem sat_X8_isBox (l : Launch) (hl : l.stackTraces = false) (p0 : Int32) (s : Mem) : Sat l yX8_isBox (.code yX8_isBox cX8_isBox 1 (some .boolean)) 31 522 (fun x => some (.int x)) [.int p0] s (pur s (m_X8_isBox p0 s)) := by
  refine sat_of hl (by decide) (Nat.le_of_ble_eq_true rfl) (fun X V A adV hxl hC hE hx hr => ?_) pur_mono
  subst hxl
  show LX X V A 31 522 (nC s) (nS s) _ 0 [(0, .int p0)] [] s _
  unfold m_X8_isBox
  refine lx_iload_n hC dX8_isBox_0 rfl 0 rfl ?_
  refine lx_bipush (v := 97) hC dX8_isBox_1 (by decide) ?_
  refine lx_bipush (v := 104) hC dX8_isBox_3 (by decide) ?_
  refine lq_call hC hx (sat_X8_isBetween (xl X) hl p0 97 104 s) (run_S (as := [.int p0, .int 97, .int 104]) (rest := []) hC hE cw_X8_isBetween ci_X8_isBetween wd1673 cs_X8_isBetween cd_X8_isBetween (by decide) (by decide) (Nat.le_of_ble_eq_true rfl) dX8_isBox_5 rfl) (fun v1 _ => ?_)
  exact lq_zretn hC rfl hr (by simp) dX8_isBox_8
set_option maxRecDepth 100000 in
set_option maxHeartbeats 2000000 in
theorem sat_X8_notName (l : Launch) (hl : l.stackTraces = false) (p0 : Int32) (p1 : Int32) (s : Mem) : Sat l yX8_notName (.code yX8_notName cX8_notName 3 (some .int)) 32 543 (fun x => some (.int x)) [.ref 8, .int p0, .int p1] s (pur s (m_X8_notName p0 p1 s)) := by
  refine sat_of hl (by decide) (Nat.le_of_ble_eq_true rfl) (fun X V A adV hxl hC hE hx hr => ?_) pur_mono
  subst hxl
  show LX X V A 32 543 (nC s) (nS s) _ 0 [(0, .ref 8), (1, .int p0), (2, .int p1)] [] s _
  unfold m_X8_notName
  refine lx_iload_n hC dX8_notName_0 rfl 1 rfl ?_
  refine lq_call hC hx (sat_X8_isBox (xl X) hl p0 s) (run_S (as := [.int p0]) (rest := []) hC hE cw_X8_isBox ci_X8_isBox wd1848 cs_X8_isBox cd_X8_isBox (by decide) (by decide) (Nat.le_of_ble_eq_true rfl) dX8_notName_1 rfl) (fun v1 _ => ?_)
  refine lq_if_ne hC 9 dX8_notName_4 (by decide) ?_ ?_
  · skip
    refine lx_aload_n hC dX8_notName_9 rfl 0 rfl ?_
    refine lx_iload_n hC dX8_notName_10 rfl 2 rfl ?_
    refine lq_call hC hx (sat_X8_isRow (xl X) hl p1 s) (run_V (as := [.int p1]) (rest := []) hC hE ly8 rfl cw_X8_isRow ci_X8_isRow wd1708 cs_X8_isRow ce_X8_isRow cd_X8_isRow (by decide) (by decide) (Nat.le_of_ble_eq_true rfl) dX8_notName_11 rfl) (fun v2 _ => ?_)
    refine lq_if_eq hC 21 dX8_notName_14 (by decide) ?_ ?_
    · skip
      refine lx_iconstv (v := 2) hC dX8_notName_21 rfl ?_
      exact lx_iret hC rfl hr dX8_notName_22
    · skip
      refine lx_iconstv (v := 0) hC dX8_notName_17 rfl ?_
      refine lx_goto hC 22 dX8_notName_18 (by decide) ?_
      exact lx_iret hC rfl hr dX8_notName_22
  · skip
    refine lx_iconstv (v := 1) hC dX8_notName_7 rfl ?_
    exact lx_iret hC rfl hr dX8_notName_8
set_option maxRecDepth 100000 in
set_option maxHeartbeats 2000000 in
theorem n_X8_names (p0 : Int32) (p1 : Int32) (s : Mem) : Mn s (m_X8_names p0 p1 s) := by
  unfold m_X8_names
  refine mn_if ?_ mn_none
  refine mn_vl (fun y1 => ?_)
  refine mn_if ?_ mn_none
  refine mn_put (fun s2 => ?_)
  exact mn_some
set_option maxRecDepth 100000 in
set_option maxHeartbeats 2000000 in
theorem sat_X8_names (l : Launch) (hl : l.stackTraces = false) (p0 : Int32) (p1 : Int32) (s : Mem) : Sat l yX8_names (.code yX8_names cX8_names 4 (some .int)) 30 500 (fun x => some (.int x)) [.ref 8, .int p0, .int p1] s (m_X8_names p0 p1 s) := by
  refine sat_of hl (by decide) (Nat.le_of_ble_eq_true rfl) (fun X V A adV hxl hC hE hx hr => ?_) (n_X8_names p0 p1 s)
  subst hxl
  show LX X V A 30 500 (nC s) (nS s) _ 0 [(0, .ref 8), (1, .int p0), (2, .int p1)] [] s _
  unfold m_X8_names
  refine lx_aload_n hC dX8_names_0 rfl 0 rfl ?_
  refine lx_getR (q := 136) hC ly8 rfl 1 (by decide) rfl rfl inX8 wd1606 dX8_names_1 ?_
  refine lx_bipush (v := 7) hC dX8_names_4 (by decide) ?_
  refine lx_iload_n hC dX8_names_6 rfl 1 rfl ?_
  refine lx_iadd hC dX8_names_7 ?_
  refine lx_bipush (v := 97) hC dX8_names_8 (by decide) ?_
  refine lx_isub hC dX8_names_10 ?_
  refine lx_iaload hC ly136 dX8_names_11 ?_
  refine lx_iconstv (v := 1) hC dX8_names_12 rfl ?_
  refine lx_isub hC dX8_names_13 ?_
  refine lx_istore_nN hC dX8_names_14 rfl (by decide) (fun y1 => ?_)
  refine lx_aload_n hC dX8_names_15 rfl 1 rfl ?_
  refine lx_getR (q := 136) hC ly8 rfl 1 (by decide) rfl rfl inX8 wd1606 dX8_names_16 ?_
  refine lx_bipush (v := 7) hC dX8_names_19 (by decide) ?_
  refine lx_iload_n hC dX8_names_21 rfl 2 rfl ?_
  refine lx_iadd hC dX8_names_22 ?_
  refine lx_bipush (v := 97) hC dX8_names_23 (by decide) ?_
  refine lx_isub hC dX8_names_25 ?_
  refine lx_iload_n hC dX8_names_26 rfl 3 rfl ?_
  refine lx_iconstv (v := 1) hC dX8_names_27 rfl ?_
  refine lx_iadd hC dX8_names_28 ?_
  refine lx_iastore hC ly136 dX8_names_29 (fun s2 => ?_)
  refine lx_iload_n hC dX8_names_30 rfl 0 rfl ?_
  exact lx_iret hC rfl hr dX8_names_31
set_option maxRecDepth 100000 in
set_option maxHeartbeats 2000000 in
theorem n_X8_nameRow (p0 : Int32) (p1 : Int32) (s : Mem) : Mn s (m_X8_nameRow p0 p1 s) := by
  unfold m_X8_nameRow
  refine mn_put (fun s1 => ?_)
  refine mn_bindP (fun v2 => ?_)
  refine mn_if ?_ ?_
  · skip
    refine mn_bind (n_X8_remembers s1) (fun v3 s4 => ?_)
    refine mn_bind (n_X8_names p0 p1 s4) (fun v5 s6 => ?_)
    exact mn_some
  · skip
    refine mn_bind (n_X8_fails v2 s1) (fun v7 s8 => ?_)
    exact mn_some
set_option maxRecDepth 100000 in
set_option maxHeartbeats 2000000 in
theorem sat_X8_nameRow (l : Launch) (hl : l.stackTraces = false) (p0 : Int32) (p1 : Int32) (s : Mem) : Sat l yX8_nameRow (.code yX8_nameRow cX8_nameRow 4 (some .int)) 33 565 (fun x => some (.int x)) [.ref 8, .int p0, .int p1] s (m_X8_nameRow p0 p1 s) := by
  refine sat_of hl (by decide) (Nat.le_of_ble_eq_true rfl) (fun X V A adV hxl hC hE hx hr => ?_) (n_X8_nameRow p0 p1 s)
  subst hxl
  show LX X V A 33 565 (nC s) (nS s) _ 0 [(0, .ref 8), (1, .int p0), (2, .int p1)] [] s _
  unfold m_X8_nameRow
  refine lx_aload_n hC dX8_nameRow_0 rfl 0 rfl ?_
  refine lx_iconstv (v := 0) hC dX8_nameRow_1 rfl ?_
  refine lx_putI hC ly8 rfl 0 (by decide) rfl tyX8 tyX8_ok nmX8 rfl rfl rfl inX8 wd1605 dX8_nameRow_2 (fun s1 => ?_)
  refine lx_aload_n hC dX8_nameRow_5 rfl 0 rfl ?_
  refine lx_iload_n hC dX8_nameRow_6 rfl 1 rfl ?_
  refine lx_iload_n hC dX8_nameRow_7 rfl 2 rfl ?_
  refine lx_callP hC hx (sat_X8_notName (xl X) hl p0 p1 s1) (run_V (as := [.int p0, .int p1]) (rest := []) hC hE ly8 rfl cw_X8_notName ci_X8_notName wd1844 cs_X8_notName ce_X8_notName cd_X8_notName (by decide) (by decide) (Nat.le_of_ble_eq_true rfl) dX8_nameRow_8 rfl) (fun v2 _ => ?_)
  refine lx_istore_n hC dX8_nameRow_11 rfl (by decide) ?_
  refine lx_iload_n hC dX8_nameRow_12 rfl 0 rfl ?_
  refine lx_if_eq hC 22 dX8_nameRow_13 (by decide) ?_ ?_
  · skip
    refine lx_aload_n hC dX8_nameRow_22 rfl 1 rfl ?_
    refine lx_callX hC hx (sat_X8_remembers (xl X) hl s1) (run_V (as := []) (rest := []) hC hE ly8 rfl cw_X8_remembers ci_X8_remembers wd1680 cs_X8_remembers ce_X8_remembers cd_X8_remembers (by decide) (by decide) (Nat.le_of_ble_eq_true rfl) dX8_nameRow_23 rfl) (fun v3 s4 _ => ?_)
    refine lx_aload_n hC dX8_nameRow_26 rfl 1 rfl ?_
    refine lx_iload_n hC dX8_nameRow_27 rfl 2 rfl ?_
    refine lx_iload_n hC dX8_nameRow_28 rfl 3 rfl ?_
    refine lx_callX hC hx (sat_X8_names (xl X) hl p0 p1 s4) (run_V (as := [.int p0, .int p1]) (rest := []) hC hE ly8 rfl cw_X8_names ci_X8_names wd1851 cs_X8_names ce_X8_names cd_X8_names (by decide) (by decide) (Nat.le_of_ble_eq_true rfl) dX8_nameRow_29 rfl) (fun v5 s6 _ => ?_)
    exact lx_iret hC rfl hr dX8_nameRow_32
  · skip
    refine lx_aload_n hC dX8_nameRow_16 rfl 1 rfl ?_
    refine lx_iload_n hC dX8_nameRow_17 rfl 0 rfl ?_
    refine lx_callX hC hx (sat_X8_fails (xl X) hl v2 s1) (run_V (as := [.int v2]) (rest := []) hC hE ly8 rfl cw_X8_fails ci_X8_fails wd1676 cs_X8_fails ce_X8_fails cd_X8_fails (by decide) (by decide) (Nat.le_of_ble_eq_true rfl) dX8_nameRow_18 rfl) (fun v7 s8 _ => ?_)
    exact lx_iret hC rfl hr dX8_nameRow_21
set_option maxRecDepth 100000 in
set_option maxHeartbeats 2000000 in
theorem l_X8_loudestIn_j33 {X : Cx} {V : Vx} {A : Nat → Prop} {adV : Nat → Nat} {c0 s0 : Nat} (hC : Cok X V A yX8_loudestIn.cls cX8_loudestIn 5) (hE : Env0 V adV A (xs X) (xs X).heap) (hl : (xl X).stackTraces = false) (hx : ∀ x ∈ (xc X).exceptionTable.toList, False) (hr : (xh X).sig.returnType = some .int) (x1 : Int32) (x4 : Int32) (x5 : Int32) (x6 : Int32) (s : Mem) (kf4 : (Int32 × Int32) → Option Int32) (hk4 : ∀ a, LX X V A 31 522 c0 s0 (FM X V A (fun x => some (.int x))) 4 [(0, .ref 8), (1, .int x1), (2, .int a.1), (3, .int a.2)] [] s (pur s (kf4 a))) : LX X V A 31 522 c0 s0 (FM X V A (fun x => some (.int x))) 33 [(0, .ref 8), (1, .int x1), (2, .int x4), (3, .int x5)] [.int x6] s (pur s (m_X8_loudestIn_j33 x1 x4 x5 x6 s kf4 )) := by
  unfold m_X8_loudestIn_j33
  refine lx_istore hC dX8_loudestIn_33 (by decide) ?_
  refine lx_iload hC dX8_loudestIn_35 0 rfl ?_
  refine lq_if_eq hC 61 dX8_loudestIn_37 (by decide) ?_ ?_
  · skip
    refine lq_iincN (v := 1) hC dX8_loudestIn_61 4 rfl (by decide) rfl (fun y7 => ?_)
    refine lx_goto hC 4 dX8_loudestIn_64 (by decide) ?_
    exact lx_sub [2, 3, 4, 0] rfl (hk4 (x4, y7))
  · skip
    refine lx_iload_n hC dX8_loudestIn_40 rfl 3 rfl ?_
    refine lq_if_lt hC 59 dX8_loudestIn_41 (by decide) ?_ ?_
    · skip
      refine lx_iload_n hC dX8_loudestIn_59 rfl 4 rfl ?_
      refine lx_istore_n hC dX8_loudestIn_60 rfl (by decide) ?_
      refine lq_iincN (v := 1) hC dX8_loudestIn_61 4 rfl (by decide) rfl (fun y8 => ?_)
      refine lx_goto hC 4 dX8_loudestIn_64 (by decide) ?_
      exact lx_sub [3, 4, 1, 0] rfl (hk4 (x5, y8))
    · skip
      refine lx_aload_n hC dX8_loudestIn_44 rfl 1 rfl ?_
      refine lx_iload_n hC dX8_loudestIn_45 rfl 4 rfl ?_
      refine lx_iconstv (v := 2) hC dX8_loudestIn_46 rfl ?_
      refine lq_call hC hx (sat_X8_is (xl X) hl x5 2 s) (run_V (as := [.int x5, .int 2]) (rest := []) hC hE ly8 rfl cw_X8_is ci_X8_is wd1740 cs_X8_is ce_X8_is cd_X8_is (by decide) (by decide) (Nat.le_of_ble_eq_true rfl) dX8_loudestIn_47 rfl) (fun v9 _ => ?_)
      refine lx_aload_n hC dX8_loudestIn_50 rfl 1 rfl ?_
      refine lx_iload_n hC dX8_loudestIn_51 rfl 3 rfl ?_
      refine lx_iconstv (v := 2) hC dX8_loudestIn_52 rfl ?_
      refine lq_call hC hx (sat_X8_is (xl X) hl x4 2 s) (run_V (as := [.int x4, .int 2]) (rest := [.int v9]) hC hE ly8 rfl cw_X8_is ci_X8_is wd1740 cs_X8_is ce_X8_is cd_X8_is (by decide) (by decide) (Nat.le_of_ble_eq_true rfl) dX8_loudestIn_53 rfl) (fun v10 _ => ?_)
      refine lq_icmp_le hC 61 dX8_loudestIn_56 (by decide) ?_ ?_
      · skip
        refine lq_iincN (v := 1) hC dX8_loudestIn_61 4 rfl (by decide) rfl (fun y11 => ?_)
        refine lx_goto hC 4 dX8_loudestIn_64 (by decide) ?_
        exact lx_sub [2, 3, 4, 0] rfl (hk4 (x4, y11))
      · skip
        refine lx_iload_n hC dX8_loudestIn_59 rfl 4 rfl ?_
        refine lx_istore_n hC dX8_loudestIn_60 rfl (by decide) ?_
        refine lq_iincN (v := 1) hC dX8_loudestIn_61 4 rfl (by decide) rfl (fun y12 => ?_)
        refine lx_goto hC 4 dX8_loudestIn_64 (by decide) ?_
        exact lx_sub [3, 4, 1, 0] rfl (hk4 (x5, y12))
set_option maxRecDepth 100000 in
set_option maxHeartbeats 2000000 in
theorem l_X8_loudestIn_j28 {X : Cx} {V : Vx} {A : Nat → Prop} {adV : Nat → Nat} {c0 s0 : Nat} (hC : Cok X V A yX8_loudestIn.cls cX8_loudestIn 5) (hE : Env0 V adV A (xs X) (xs X).heap) (hl : (xl X).stackTraces = false) (hx : ∀ x ∈ (xc X).exceptionTable.toList, False) (hr : (xh X).sig.returnType = some .int) (x1 : Int32) (x2 : Int32) (x3 : Int32) (s : Mem) (kf4 : (Int32 × Int32) → Option Int32) (hk4 : ∀ a, LX X V A 31 522 c0 s0 (FM X V A (fun x => some (.int x))) 4 [(0, .ref 8), (1, .int x1), (2, .int a.1), (3, .int a.2)] [] s (pur s (kf4 a))) : LX X V A 31 522 c0 s0 (FM X V A (fun x => some (.int x))) 28 [(0, .ref 8), (1, .int x1), (2, .int x2), (3, .int x3)] [] s (pur s (m_X8_loudestIn_j28 x1 x2 x3 s kf4 )) := by
  unfold m_X8_loudestIn_j28
  refine lx_iconstv (v := 1) hC dX8_loudestIn_28 rfl ?_
  refine lx_goto hC 33 dX8_loudestIn_29 (by decide) ?_
  exact lx_sub [0, 1, 2, 3] rfl (l_X8_loudestIn_j33 hC hE hl hx hr x1 x2 x3 1 s kf4 hk4 )
set_option maxRecDepth 100000 in
set_option maxHeartbeats 2000000 in
theorem l_X8_loudestIn_b4 {X : Cx} {V : Vx} {A : Nat → Prop} {adV : Nat → Nat} {c0 s0 : Nat} (hC : Cok X V A yX8_loudestIn.cls cX8_loudestIn 5) (hE : Env0 V adV A (xs X) (xs X).heap) (hl : (xl X).stackTraces = false) (hx : ∀ x ∈ (xc X).exceptionTable.toList, False) (hr : (xh X).sig.returnType = some .int) (x1 : Int32) (s : Mem) (kf4 : (Int32 × Int32) → Option Int32) (hk4 : ∀ a, LX X V A 31 522 c0 s0 (FM X V A (fun x => some (.int x))) 4 [(0, .ref 8), (1, .int x1), (2, .int a.1), (3, .int a.2)] [] s (pur s (kf4 a))) (w2 : Int32) (w3 : Int32) : LX X V A 31 522 c0 s0 (FM X V A (fun x => some (.int x))) 4 [(0, .ref 8), (1, .int x1), (2, .int w2), (3, .int w3)] [] s (pur s (m_X8_loudestIn_b4 x1 s kf4 w2 w3 )) := by
  unfold m_X8_loudestIn_b4
  refine lx_iload_n hC dX8_loudestIn_4 rfl 3 rfl ?_
  refine lx_aload_n hC dX8_loudestIn_5 rfl 0 rfl ?_
  refine lx_getR (q := 136) hC ly8 rfl 1 (by decide) rfl rfl inX8 wd1606 dX8_loudestIn_6 ?_
  refine lx_iconstv (v := 1) hC dX8_loudestIn_9 rfl ?_
  refine lq_iaload hC ly136 dX8_loudestIn_10 ?_
  refine lq_icmp_ge hC 67 dX8_loudestIn_11 (by decide) ?_ ?_
  · skip
    refine lx_iload_n hC dX8_loudestIn_67 rfl 2 rfl ?_
    exact lx_iret hC rfl hr dX8_loudestIn_68
  · skip
    refine lx_iload_n hC dX8_loudestIn_14 rfl 1 rfl ?_
    refine lq_if_lt hC 28 dX8_loudestIn_15 (by decide) ?_ ?_
    · skip
      exact lx_sub [0, 1, 2, 3] rfl (l_X8_loudestIn_j28 hC hE hl hx hr x1 w2 w3 s kf4 hk4 )
    · skip
      refine lx_aload_n hC dX8_loudestIn_18 rfl 0 rfl ?_
      refine lx_iload_n hC dX8_loudestIn_19 rfl 3 rfl ?_
      refine lx_iconstv (v := 1) hC dX8_loudestIn_20 rfl ?_
      refine lq_call hC hx (sat_X8_is (xl X) hl w3 1 s) (run_V (as := [.int w3, .int 1]) (rest := []) hC hE ly8 rfl cw_X8_is ci_X8_is wd1740 cs_X8_is ce_X8_is cd_X8_is (by decide) (by decide) (Nat.le_of_ble_eq_true rfl) dX8_loudestIn_21 rfl) (fun v18 _ => ?_)
      refine lx_iload_n hC dX8_loudestIn_24 rfl 1 rfl ?_
      refine lq_icmp_ne hC 32 dX8_loudestIn_25 (by decide) ?_ ?_
      · skip
        refine lx_iconstv (v := 0) hC dX8_loudestIn_32 rfl ?_
        exact lx_sub [0, 1, 2, 3] rfl (l_X8_loudestIn_j33 hC hE hl hx hr x1 w2 w3 0 s kf4 hk4 )
      · skip
        exact lx_sub [0, 1, 2, 3] rfl (l_X8_loudestIn_j28 hC hE hl hx hr x1 w2 w3 s kf4 hk4 )
set_option maxRecDepth 100000 in
set_option maxHeartbeats 2000000 in
theorem sat_X8_loudestIn (l : Launch) (hl : l.stackTraces = false) (p0 : Int32) (s : Mem) : Sat l yX8_loudestIn (.code yX8_loudestIn cX8_loudestIn 5 (some .int)) 31 522 (fun x => some (.int x)) [.ref 8, .int p0] s (pur s (m_X8_loudestIn p0 s)) := by
  refine sat_of hl (by decide) (Nat.le_of_ble_eq_true rfl) (fun X V A adV hxl hC hE hx hr => ?_) pur_mono
  subst hxl
  show LX X V A 31 522 (nC s) (nS s) _ 0 [(0, .ref 8), (1, .int p0)] [] s _
  unfold m_X8_loudestIn
  refine lx_iconstv (v := (-1)) hC dX8_loudestIn_0 rfl ?_
  refine lx_istore_n hC dX8_loudestIn_1 rfl (by decide) ?_
  refine lx_iconstv (v := 0) hC dX8_loudestIn_2 rfl ?_
  refine lx_istore_n hC dX8_loudestIn_3 rfl (by decide) ?_
  refine lx_sub [2, 3, 1, 0] rfl ?_
  exact lq_lp (lv := fun a => [(0, .ref 8), (1, .int p0), (2, .int a.1), (3, .int a.2)]) (st := fun _ => []) (fun kf hq a => l_X8_loudestIn_b4 hC hE hl hx hr p0 s kf hq a.1 a.2) FUEL ((-1), 0)
set_option maxRecDepth 100000 in
set_option maxHeartbeats 2000000 in
theorem sat_X8_notSpread (l : Launch) (hl : l.stackTraces = false) (p0 : Int32) (s : Mem) : Sat l yX8_notSpread (.code yX8_notSpread cX8_notSpread 2 (some .int)) 32 543 (fun x => some (.int x)) [.ref 8, .int p0] s (pur s (m_X8_notSpread p0 s)) := by
  refine sat_of hl (by decide) (Nat.le_of_ble_eq_true rfl) (fun X V A adV hxl hC hE hx hr => ?_) pur_mono
  subst hxl
  show LX X V A 32 543 (nC s) (nS s) _ 0 [(0, .ref 8), (1, .int p0)] [] s _
  unfold m_X8_notSpread
  refine lx_aload_n hC dX8_notSpread_0 rfl 0 rfl ?_
  refine lx_iload_n hC dX8_notSpread_1 rfl 1 rfl ?_
  refine lq_call hC hx (sat_X8_isRow (xl X) hl p0 s) (run_V (as := [.int p0]) (rest := []) hC hE ly8 rfl cw_X8_isRow ci_X8_isRow wd1708 cs_X8_isRow ce_X8_isRow cd_X8_isRow (by decide) (by decide) (Nat.le_of_ble_eq_true rfl) dX8_notSpread_2 rfl) (fun v1 _ => ?_)
  refine lq_if_ne hC 10 dX8_notSpread_5 (by decide) ?_ ?_
  · skip
    refine lx_aload_n hC dX8_notSpread_10 rfl 0 rfl ?_
    refine lx_iload_n hC dX8_notSpread_11 rfl 1 rfl ?_
    refine lq_call hC hx (sat_X8_isLockedRow (xl X) hl p0 s) (run_V (as := [.int p0]) (rest := []) hC hE ly8 rfl cw_X8_isLockedRow ci_X8_isLockedRow wd1712 cs_X8_isLockedRow ce_X8_isLockedRow cd_X8_isLockedRow (by decide) (by decide) (Nat.le_of_ble_eq_true rfl) dX8_notSpread_12 rfl) (fun v2 _ => ?_)
    refine lq_if_eq hC 22 dX8_notSpread_15 (by decide) ?_ ?_
    · skip
      refine lx_iconstv (v := 0) hC dX8_notSpread_22 rfl ?_
      exact lx_iret hC rfl hr dX8_notSpread_23
    · skip
      refine lx_iconstv (v := 2) hC dX8_notSpread_18 rfl ?_
      refine lx_goto hC 23 dX8_notSpread_19 (by decide) ?_
      exact lx_iret hC rfl hr dX8_notSpread_23
  · skip
    refine lx_iconstv (v := 1) hC dX8_notSpread_8 rfl ?_
    exact lx_iret hC rfl hr dX8_notSpread_9
set_option maxRecDepth 100000 in
set_option maxHeartbeats 2000000 in
theorem l_X8_rowFor_b2 {X : Cx} {V : Vx} {A : Nat → Prop} {adV : Nat → Nat} {c0 s0 : Nat} (hC : Cok X V A yX8_rowFor.cls cX8_rowFor 4) (hE : Env0 V adV A (xs X) (xs X).heap) (hl : (xl X).stackTraces = false) (hx : ∀ x ∈ (xc X).exceptionTable.toList, False) (hr : (xh X).sig.returnType = some .int) (x1 : Int32) (s : Mem) (kf2 : Int32 → Option Int32) (hk2 : ∀ a, LX X V A 32 545 c0 s0 (FM X V A (fun x => some (.int x))) 2 [(0, .ref 8), (1, .int x1), (2, .int a)] [] s (pur s (kf2 a))) (w2 : Int32) : LX X V A 32 545 c0 s0 (FM X V A (fun x => some (.int x))) 2 [(0, .ref 8), (1, .int x1), (2, .int w2)] [] s (pur s (m_X8_rowFor_b2 x1 s kf2 w2 )) := by
  unfold m_X8_rowFor_b2
  refine lx_iload_n hC dX8_rowFor_2 rfl 2 rfl ?_
  refine lx_aload_n hC dX8_rowFor_3 rfl 0 rfl ?_
  refine lx_getR (q := 136) hC ly8 rfl 1 (by decide) rfl rfl inX8 wd1606 dX8_rowFor_4 ?_
  refine lx_iconstv (v := 0) hC dX8_rowFor_7 rfl ?_
  refine lq_iaload hC ly136 dX8_rowFor_8 ?_
  refine lq_icmp_ge hC 53 dX8_rowFor_9 (by decide) ?_ ?_
  · skip
    refine lx_iconstv (v := (-1)) hC dX8_rowFor_53 rfl ?_
    exact lx_iret hC rfl hr dX8_rowFor_54
  · skip
    refine lx_iload_n hC dX8_rowFor_12 rfl 1 rfl ?_
    refine lx_iload_n hC dX8_rowFor_13 rfl 2 rfl ?_
    refine lx_iadd hC dX8_rowFor_14 ?_
    refine lx_aload_n hC dX8_rowFor_15 rfl 0 rfl ?_
    refine lx_getR (q := 136) hC ly8 rfl 1 (by decide) rfl rfl inX8 wd1606 dX8_rowFor_16 ?_
    refine lx_iconstv (v := 0) hC dX8_rowFor_19 rfl ?_
    refine lq_iaload hC ly136 dX8_rowFor_20 ?_
    refine lq_g fun h2 => lx_irem hC dX8_rowFor_21 h2 ?_
    refine lq_istore_nN hC dX8_rowFor_22 rfl (by decide) (fun y3 => ?_)
    refine lx_aload_n hC dX8_rowFor_23 rfl 1 rfl ?_
    refine lx_iload_n hC dX8_rowFor_24 rfl 0 rfl ?_
    refine lq_call hC hx (sat_X8_isLockedRow (xl X) hl y3 s) (run_V (as := [.int y3]) (rest := []) hC hE ly8 rfl cw_X8_isLockedRow ci_X8_isLockedRow wd1712 cs_X8_isLockedRow ce_X8_isLockedRow cd_X8_isLockedRow (by decide) (by decide) (Nat.le_of_ble_eq_true rfl) dX8_rowFor_25 rfl) (fun v4 _ => ?_)
    refine lq_if_ne hC 47 dX8_rowFor_28 (by decide) ?_ ?_
    · skip
      refine lq_iincN (v := 1) hC dX8_rowFor_47 3 rfl (by decide) rfl (fun y5 => ?_)
      refine lx_goto hC 2 dX8_rowFor_50 (by decide) ?_
      exact lx_sub [2, 3, 0] rfl (hk2 y5)
    · skip
      refine lx_aload_n hC dX8_rowFor_31 rfl 1 rfl ?_
      refine lx_iload_n hC dX8_rowFor_32 rfl 0 rfl ?_
      refine lq_call hC hx (sat_X8_countIn (xl X) hl y3 s) (run_V (as := [.int y3]) (rest := []) hC hE ly8 rfl cw_X8_countIn ci_X8_countIn wd1736 cs_X8_countIn ce_X8_countIn cd_X8_countIn (by decide) (by decide) (Nat.le_of_ble_eq_true rfl) dX8_rowFor_33 rfl) (fun v6 _ => ?_)
      refine lx_aload_n hC dX8_rowFor_36 rfl 1 rfl ?_
      refine lx_iload_n hC dX8_rowFor_37 rfl 0 rfl ?_
      refine lx_iconstv (v := 0) hC dX8_rowFor_38 rfl ?_
      refine lq_call hC hx (sat_X8_of (xl X) hl y3 0 s) (run_V (as := [.int y3, .int 0]) (rest := [.int v6]) hC hE ly8 rfl cw_X8_of ci_X8_of wd1716 cs_X8_of ce_X8_of cd_X8_of (by decide) (by decide) (Nat.le_of_ble_eq_true rfl) dX8_rowFor_39 rfl) (fun v7 _ => ?_)
      refine lq_icmp_ge hC 47 dX8_rowFor_42 (by decide) ?_ ?_
      · skip
        refine lq_iincN (v := 1) hC dX8_rowFor_47 3 rfl (by decide) rfl (fun y8 => ?_)
        refine lx_goto hC 2 dX8_rowFor_50 (by decide) ?_
        exact lx_sub [2, 3, 0] rfl (hk2 y8)
      · skip
        refine lx_iload_n hC dX8_rowFor_45 rfl 0 rfl ?_
        exact lx_iret hC rfl hr dX8_rowFor_46
set_option maxRecDepth 100000 in
set_option maxHeartbeats 2000000 in
theorem sat_X8_rowFor (l : Launch) (hl : l.stackTraces = false) (p0 : Int32) (s : Mem) : Sat l yX8_rowFor (.code yX8_rowFor cX8_rowFor 4 (some .int)) 32 545 (fun x => some (.int x)) [.ref 8, .int p0] s (pur s (m_X8_rowFor p0 s)) := by
  refine sat_of hl (by decide) (Nat.le_of_ble_eq_true rfl) (fun X V A adV hxl hC hE hx hr => ?_) pur_mono
  subst hxl
  show LX X V A 32 545 (nC s) (nS s) _ 0 [(0, .ref 8), (1, .int p0)] [] s _
  unfold m_X8_rowFor
  refine lx_iconstv (v := 1) hC dX8_rowFor_0 rfl ?_
  refine lx_istore_n hC dX8_rowFor_1 rfl (by decide) ?_
  refine lx_sub [1, 2, 0] rfl ?_
  exact lq_lp (lv := fun a => [(0, .ref 8), (1, .int p0), (2, .int a)]) (st := fun _ => []) (fun kf hq a => l_X8_rowFor_b2 hC hE hl hx hr p0 s kf hq a) FUEL 1
set_option maxRecDepth 100000 in
set_option maxHeartbeats 2000000 in
theorem l_X8_spreads_b2 {X : Cx} {V : Vx} {A : Nat → Prop} {adV : Nat → Nat} {c0 s0 : Nat} (hC : Cok X V A yX8_spreads.cls cX8_spreads 3) (hE : Env0 V adV A (xs X) (xs X).heap) (hl : (xl X).stackTraces = false) (hx : ∀ x ∈ (xc X).exceptionTable.toList, False) (hr : (xh X).sig.returnType = some .int) (x1 : Int32) (s : Mem) (kf2 : (Int32 × Mem) → Res Int32) (hk2 : ∀ a, LX X V A 33 568 c0 s0 (FM X V A (fun x => some (.int x))) 2 [(0, .ref 8), (1, .int x1), (2, .int a.1)] [] a.2 (kf2 a)) (w2 : Int32) : LX X V A 33 568 c0 s0 (FM X V A (fun x => some (.int x))) 2 [(0, .ref 8), (1, .int x1), (2, .int w2)] [] s (m_X8_spreads_b2 x1 s kf2 w2 ) := by
  unfold m_X8_spreads_b2
  refine lx_aload_n hC dX8_spreads_2 rfl 0 rfl ?_
  refine lx_iload_n hC dX8_spreads_3 rfl 1 rfl ?_
  refine lx_callP hC hx (sat_X8_isCrowdedRow (xl X) hl x1 s) (run_V (as := [.int x1]) (rest := []) hC hE ly8 rfl cw_X8_isCrowdedRow ci_X8_isCrowdedRow wd1867 cs_X8_isCrowdedRow ce_X8_isCrowdedRow cd_X8_isCrowdedRow (by decide) (by decide) (Nat.le_of_ble_eq_true rfl) dX8_spreads_4 rfl) (fun v2 _ => ?_)
  refine lx_if_eq hC 49 dX8_spreads_7 (by decide) ?_ ?_
  · skip
    refine lx_iload_n hC dX8_spreads_49 rfl 2 rfl ?_
    exact lx_iret hC rfl hr dX8_spreads_50
  · skip
    refine lx_aload_n hC dX8_spreads_10 rfl 0 rfl ?_
    refine lx_iload_n hC dX8_spreads_11 rfl 1 rfl ?_
    refine lx_callP hC hx (sat_X8_rowFor (xl X) hl x1 s) (run_V (as := [.int x1]) (rest := []) hC hE ly8 rfl cw_X8_rowFor ci_X8_rowFor wd1871 cs_X8_rowFor ce_X8_rowFor cd_X8_rowFor (by decide) (by decide) (Nat.le_of_ble_eq_true rfl) dX8_spreads_12 rfl) (fun v3 _ => ?_)
    refine lx_if_lt hC 49 dX8_spreads_15 (by decide) ?_ ?_
    · skip
      refine lx_iload_n hC dX8_spreads_49 rfl 2 rfl ?_
      exact lx_iret hC rfl hr dX8_spreads_50
    · skip
      refine lx_aload_n hC dX8_spreads_18 rfl 0 rfl ?_
      refine lx_aload_n hC dX8_spreads_19 rfl 0 rfl ?_
      refine lx_iload_n hC dX8_spreads_20 rfl 1 rfl ?_
      refine lx_callP hC hx (sat_X8_loudestIn (xl X) hl x1 s) (run_V (as := [.int x1]) (rest := [.ref 8]) hC hE ly8 rfl cw_X8_loudestIn ci_X8_loudestIn wd1875 cs_X8_loudestIn ce_X8_loudestIn cd_X8_loudestIn (by decide) (by decide) (Nat.le_of_ble_eq_true rfl) dX8_spreads_21 rfl) (fun v4 _ => ?_)
      refine lx_iconstv (v := 1) hC dX8_spreads_24 rfl ?_
      refine lx_aload_n hC dX8_spreads_25 rfl 0 rfl ?_
      refine lx_iload_n hC dX8_spreads_26 rfl 1 rfl ?_
      refine lx_callP hC hx (sat_X8_rowFor (xl X) hl x1 s) (run_V (as := [.int x1]) (rest := [.int 1, .int v4, .ref 8]) hC hE ly8 rfl cw_X8_rowFor ci_X8_rowFor wd1871 cs_X8_rowFor ce_X8_rowFor cd_X8_rowFor (by decide) (by decide) (Nat.le_of_ble_eq_true rfl) dX8_spreads_27 rfl) (fun v5 _ => ?_)
      refine lx_callX hC hx (sat_X8_sets (xl X) hl v4 1 v5 s) (run_V (as := [.int v4, .int 1, .int v5]) (rest := []) hC hE ly8 rfl cw_X8_sets ci_X8_sets wd1756 cs_X8_sets ce_X8_sets cd_X8_sets (by decide) (by decide) (Nat.le_of_ble_eq_true rfl) dX8_spreads_30 rfl) (fun v6 s7 _ => ?_)
      refine lx_aload_n hC dX8_spreads_33 rfl 0 rfl ?_
      refine lx_getR (q := 136) hC ly8 rfl 1 (by decide) rfl rfl inX8 wd1606 dX8_spreads_34 ?_
      refine lx_iconstv (v := 3) hC dX8_spreads_37 rfl ?_
      refine lx_dup2ir hC dX8_spreads_38 ?_
      refine lx_iaload hC ly136 dX8_spreads_39 ?_
      refine lx_iconstv (v := 1) hC dX8_spreads_40 rfl ?_
      refine lx_iadd hC dX8_spreads_41 ?_
      refine lx_iastore hC ly136 dX8_spreads_42 (fun s8 => ?_)
      refine lx_iincN (v := 1) hC dX8_spreads_43 2 rfl (by decide) rfl (fun y9 => ?_)
      refine lx_goto hC 2 dX8_spreads_46 (by decide) ?_
      exact lx_sub [1, 2, 0] rfl (hk2 (y9, s8))
set_option maxRecDepth 100000 in
set_option maxHeartbeats 2000000 in
theorem n_X8_spreads_b2 (x1 : Int32) (s : Mem) (kf2 : (Int32 × Mem) → Res Int32) (hm2 : ∀ a, Mn a.2 (kf2 a)) (w2 : Int32) : Mn s (m_X8_spreads_b2 x1 s kf2 w2 ) := by
  unfold m_X8_spreads_b2
  refine mn_bindP (fun v2 => ?_)
  refine mn_if ?_ ?_
  · skip
    exact mn_some
  · skip
    refine mn_bindP (fun v3 => ?_)
    refine mn_if ?_ ?_
    · skip
      exact mn_some
    · skip
      refine mn_bindP (fun v4 => ?_)
      refine mn_bindP (fun v5 => ?_)
      refine mn_bind (n_X8_sets v4 1 v5 s) (fun v6 s7 => ?_)
      refine mn_if ?_ mn_none
      refine mn_if ?_ mn_none
      refine mn_put (fun s8 => ?_)
      refine mn_vl (fun y9 => ?_)
      exact hm2 (y9, s8)
set_option maxRecDepth 100000 in
set_option maxHeartbeats 2000000 in
theorem n_X8_spreads (p0 : Int32) (s : Mem) : Mn s (m_X8_spreads p0 s) := by
  unfold m_X8_spreads
  exact mn_lp (sg := fun a => a.2) (fun kf hq a => n_X8_spreads_b2 p0 a.2 kf hq a.1) FUEL (0, s)
set_option maxRecDepth 100000 in
set_option maxHeartbeats 2000000 in
theorem sat_X8_spreads (l : Launch) (hl : l.stackTraces = false) (p0 : Int32) (s : Mem) : Sat l yX8_spreads (.code yX8_spreads cX8_spreads 3 (some .int)) 33 568 (fun x => some (.int x)) [.ref 8, .int p0] s (m_X8_spreads p0 s) := by
  refine sat_of hl (by decide) (Nat.le_of_ble_eq_true rfl) (fun X V A adV hxl hC hE hx hr => ?_) (n_X8_spreads p0 s)
  subst hxl
  show LX X V A 33 568 (nC s) (nS s) _ 0 [(0, .ref 8), (1, .int p0)] [] s _
  unfold m_X8_spreads
  refine lx_iconstv (v := 0) hC dX8_spreads_0 rfl ?_
  refine lx_istore_n hC dX8_spreads_1 rfl (by decide) ?_
  refine lx_sub [1, 2, 0] rfl ?_
  exact lx_lp (lv := fun a => [(0, .ref 8), (1, .int p0), (2, .int a.1)]) (st := fun _ => []) (sg := fun a => a.2) (fun kf hq a => l_X8_spreads_b2 hC hE hl hx hr p0 a.2 kf hq a.1) FUEL (0, s)
