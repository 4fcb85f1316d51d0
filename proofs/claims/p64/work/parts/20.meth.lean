set_option maxRecDepth 100000 in
set_option maxHeartbeats 2000000 in
theorem sat_X3_placeAfter (l : Launch) (hl : l.stackTraces = false) (p0 : Int32) (s : Mem) : Sat l yX3_placeAfter (.code yX3_placeAfter cX3_placeAfter 1 (some .int)) 30 500 (fun x => some (.int x)) [.int p0] s (pur s (m_X3_placeAfter p0 s)) := by
  refine sat_of hl (by decide) (Nat.le_of_ble_eq_true rfl) (fun X V A adV hxl hC hE hx hr => ?_) pur_mono
  subst hxl
  show LX X V A 30 500 (nC s) (nS s) _ 0 [(0, .int p0)] [] s _
  unfold m_X3_placeAfter
  refine lx_iload_n hC dX3_placeAfter_0 rfl 0 rfl ?_
  refine lx_iconstv (v := 1) hC dX3_placeAfter_1 rfl ?_
  refine lx_iadd hC dX3_placeAfter_2 ?_
  refine lx_bipush (v := 10) hC dX3_placeAfter_3 (by decide) ?_
  refine lq_icmp_ge hC 14 dX3_placeAfter_5 (by decide) ?_ ?_
  · skip
    refine lx_iconstv (v := 0) hC dX3_placeAfter_14 rfl ?_
    exact lx_iret hC rfl hr dX3_placeAfter_15
  · skip
    refine lx_iload_n hC dX3_placeAfter_8 rfl 0 rfl ?_
    refine lx_iconstv (v := 1) hC dX3_placeAfter_9 rfl ?_
    refine lx_iadd hC dX3_placeAfter_10 ?_
    refine lx_goto hC 15 dX3_placeAfter_11 (by decide) ?_
    exact lx_iret hC rfl hr dX3_placeAfter_15
set_option maxRecDepth 100000 in
set_option maxHeartbeats 2000000 in
theorem n_X6_copySlot (t : Nat) (p0 : Int32) (p1 : Nat) (p2 : Int32) (s : Mem) : Mn s (m_X6_copySlot t p0 p1 p2 s) := by
  unfold m_X6_copySlot
  refine mn_if ?_ mn_none
  refine mn_if ?_ mn_none
  refine mn_put (fun s1 => ?_)
  refine mn_if ?_ mn_none
  refine mn_if ?_ mn_none
  refine mn_put (fun s2 => ?_)
  refine mn_if ?_ mn_none
  refine mn_if ?_ mn_none
  refine mn_put (fun s3 => ?_)
  refine mn_if ?_ mn_none
  refine mn_if ?_ mn_none
  refine mn_put (fun s4 => ?_)
  exact mn_some
set_option maxRecDepth 100000 in
set_option maxHeartbeats 2000000 in
theorem sat_X6_copySlot (l : Launch) (hl : l.stackTraces = false) (t : Nat) (p0 : Int32) (p1 : Nat) (p2 : Int32) (ht : isTh t) (hp1 : isTh p1) (s : Mem) : Sat l yX6_copySlot (.code yX6_copySlot cX6_copySlot 4 (none)) 30 500 (fun _ => none) [.ref t, .int p0, .ref p1, .int p2] s (m_X6_copySlot t p0 p1 p2 s) := by
  refine sat_of hl (by decide) (Nat.le_of_ble_eq_true rfl) (fun X V A adV hxl hC hE hx hr => ?_) (n_X6_copySlot t p0 p1 p2 s)
  subst hxl
  show LX X V A 30 500 (nC s) (nS s) _ 0 [(0, .ref t), (1, .int p0), (2, .ref p1), (3, .int p2)] [] s _
  unfold m_X6_copySlot
  refine lx_aload_n hC dX6_copySlot_0 rfl 0 rfl ?_
  refine lx_getR (q := t + 384) hC (th_o ht) rfl 5 (by decide) rfl rfl inX6 wd90 dX6_copySlot_1 ?_
  refine lx_iload_n hC dX6_copySlot_4 rfl 1 rfl ?_
  refine lx_aload_n hC dX6_copySlot_5 rfl 2 rfl ?_
  refine lx_getR (q := p1 + 384) hC (th_o hp1) rfl 5 (by decide) rfl rfl inX6 wd90 dX6_copySlot_6 ?_
  refine lx_iload_n hC dX6_copySlot_9 rfl 3 rfl ?_
  refine lx_iaload hC (th_a5 hp1) dX6_copySlot_10 ?_
  refine lx_iastore hC (th_a5 ht) dX6_copySlot_11 (fun s1 => ?_)
  refine lx_aload_n hC dX6_copySlot_12 rfl 0 rfl ?_
  refine lx_getR (q := t + 448) hC (th_o ht) rfl 6 (by decide) rfl rfl inX6 wd93 dX6_copySlot_13 ?_
  refine lx_iload_n hC dX6_copySlot_16 rfl 1 rfl ?_
  refine lx_aload_n hC dX6_copySlot_17 rfl 2 rfl ?_
  refine lx_getR (q := p1 + 448) hC (th_o hp1) rfl 6 (by decide) rfl rfl inX6 wd93 dX6_copySlot_18 ?_
  refine lx_iload_n hC dX6_copySlot_21 rfl 3 rfl ?_
  refine lx_iaload hC (th_a6 hp1) dX6_copySlot_22 ?_
  refine lx_iastore hC (th_a6 ht) dX6_copySlot_23 (fun s2 => ?_)
  refine lx_aload_n hC dX6_copySlot_24 rfl 0 rfl ?_
  refine lx_getR (q := t + 512) hC (th_o ht) rfl 7 (by decide) rfl rfl inX6 wd97 dX6_copySlot_25 ?_
  refine lx_iload_n hC dX6_copySlot_28 rfl 1 rfl ?_
  refine lx_aload_n hC dX6_copySlot_29 rfl 2 rfl ?_
  refine lx_getR (q := p1 + 512) hC (th_o hp1) rfl 7 (by decide) rfl rfl inX6 wd97 dX6_copySlot_30 ?_
  refine lx_iload_n hC dX6_copySlot_33 rfl 3 rfl ?_
  refine lx_iaload hC (th_a7 hp1) dX6_copySlot_34 ?_
  refine lx_iastore hC (th_a7 ht) dX6_copySlot_35 (fun s3 => ?_)
  refine lx_aload_n hC dX6_copySlot_36 rfl 0 rfl ?_
  refine lx_getR (q := t + 576) hC (th_o ht) rfl 8 (by decide) rfl rfl inX6 wd100 dX6_copySlot_37 ?_
  refine lx_iload_n hC dX6_copySlot_40 rfl 1 rfl ?_
  refine lx_aload_n hC dX6_copySlot_41 rfl 2 rfl ?_
  refine lx_getR (q := p1 + 576) hC (th_o hp1) rfl 8 (by decide) rfl rfl inX6 wd100 dX6_copySlot_42 ?_
  refine lx_iload_n hC dX6_copySlot_45 rfl 3 rfl ?_
  refine lx_iaload hC (th_a8 hp1) dX6_copySlot_46 ?_
  refine lx_iastore hC (th_a8 ht) dX6_copySlot_47 (fun s4 => ?_)
  exact lx_vret hC rfl hr dX6_copySlot_48
set_option maxRecDepth 100000 in
set_option maxHeartbeats 2000000 in
theorem l_X6_copyFrom_b78 {X : Cx} {V : Vx} {A : Nat → Prop} {adV : Nat → Nat} {c0 s0 : Nat} (hC : Cok X V A yX6_copyFrom.cls cX6_copyFrom 3) (hE : Env0 V adV A (xs X) (xs X).heap) (hl : (xl X).stackTraces = false) (hx : ∀ x ∈ (xc X).exceptionTable.toList, False) (hr : (xh X).sig.returnType = none) (q5 : Nat) (q6 : Nat) (hq5 : isTh q5) (hq6 : isTh q6) (s : Mem) (kf78 : (Int32 × Mem) → Res Unit) (hk78 : ∀ a, LX X V A 31 523 c0 s0 (FM X V A (fun _ => none)) 78 [(0, .ref q5), (1, .ref q6), (2, .int a.1)] [] a.2 (kf78 a)) (w2 : Int32) : LX X V A 31 523 c0 s0 (FM X V A (fun _ => none)) 78 [(0, .ref q5), (1, .ref q6), (2, .int w2)] [] s (m_X6_copyFrom_b78 q5 q6 s kf78 w2 ) := by
  unfold m_X6_copyFrom_b78
  refine lx_iload_n hC dX6_copyFrom_78 rfl 2 rfl ?_
  refine lx_bipush (v := 24) hC dX6_copyFrom_79 (by decide) ?_
  refine lx_icmp_ge hC 97 dX6_copyFrom_81 (by decide) ?_ ?_
  · skip
    refine lx_aload_n hC dX6_copyFrom_97 rfl 0 rfl ?_
    refine lx_aload_n hC dX6_copyFrom_98 rfl 1 rfl ?_
    refine lx_getI hC (th_o hq6) rfl 4 (by decide) rfl inX6 wd86 dX6_copyFrom_99 ?_
    refine lx_putI hC (th_o hq5) rfl 4 (by decide) rfl tyX6 tyX6_ok nmX6 rfl rfl rfl inX6 wd86 dX6_copyFrom_102 (fun s7 => ?_)
    refine lx_aload_n hC dX6_copyFrom_105 rfl 0 rfl ?_
    refine lx_aload_n hC dX6_copyFrom_106 rfl 1 rfl ?_
    refine lx_getI hC (th_o hq6) rfl 9 (by decide) rfl inX6 wd105 dX6_copyFrom_107 ?_
    refine lx_putI hC (th_o hq5) rfl 9 (by decide) rfl tyX6 tyX6_ok nmX6 rfl rfl rfl inX6 wd105 dX6_copyFrom_110 (fun s8 => ?_)
    refine lx_aload_n hC dX6_copyFrom_113 rfl 0 rfl ?_
    refine lx_aload_n hC dX6_copyFrom_114 rfl 1 rfl ?_
    refine lx_getI hC (th_o hq6) rfl 10 (by decide) rfl inX6 wd109 dX6_copyFrom_115 ?_
    refine lx_putI hC (th_o hq5) rfl 10 (by decide) rfl tyX6 tyX6_ok nmX6 rfl rfl rfl inX6 wd109 dX6_copyFrom_118 (fun s9 => ?_)
    refine lx_aload_n hC dX6_copyFrom_121 rfl 0 rfl ?_
    refine lx_aload_n hC dX6_copyFrom_122 rfl 1 rfl ?_
    refine lx_getI hC (th_o hq6) rfl 11 (by decide) rfl inX6 wd111 dX6_copyFrom_123 ?_
    refine lx_putI hC (th_o hq5) rfl 11 (by decide) rfl tyX6 tyX6_ok nmX6 rfl rfl rfl inX6 wd111 dX6_copyFrom_126 (fun s10 => ?_)
    refine lx_aload_n hC dX6_copyFrom_129 rfl 0 rfl ?_
    refine lx_aload_n hC dX6_copyFrom_130 rfl 1 rfl ?_
    refine lx_getI hC (th_o hq6) rfl 12 (by decide) rfl inX6 wd114 dX6_copyFrom_131 ?_
    refine lx_putI hC (th_o hq5) rfl 12 (by decide) rfl tyX6 tyX6_ok nmX6 rfl rfl rfl inX6 wd114 dX6_copyFrom_134 (fun s11 => ?_)
    refine lx_aload_n hC dX6_copyFrom_137 rfl 0 rfl ?_
    refine lx_aload_n hC dX6_copyFrom_138 rfl 1 rfl ?_
    refine lx_getJ hC (th_o hq6) rfl 13 (by decide) rfl inX6 wd117 dX6_copyFrom_139 ?_
    refine lx_putJ hC (th_o hq5) rfl 13 (by decide) rfl tyX6 tyX6_ok nmX6 rfl rfl rfl inX6 wd117 dX6_copyFrom_142 (fun s12 => ?_)
    refine lx_aload_n hC dX6_copyFrom_145 rfl 0 rfl ?_
    refine lx_aload_n hC dX6_copyFrom_146 rfl 1 rfl ?_
    refine lx_getJ hC (th_o hq6) rfl 14 (by decide) rfl inX6 wd120 dX6_copyFrom_147 ?_
    refine lx_putJ hC (th_o hq5) rfl 14 (by decide) rfl tyX6 tyX6_ok nmX6 rfl rfl rfl inX6 wd120 dX6_copyFrom_150 (fun s13 => ?_)
    exact lx_vret hC rfl hr dX6_copyFrom_153
  · skip
    refine lx_aload_n hC dX6_copyFrom_84 rfl 0 rfl ?_
    refine lx_iload_n hC dX6_copyFrom_85 rfl 2 rfl ?_
    refine lx_aload_n hC dX6_copyFrom_86 rfl 1 rfl ?_
    refine lx_iload_n hC dX6_copyFrom_87 rfl 2 rfl ?_
    refine lx_callX hC hx (sat_X6_copySlot (xl X) hl q5 w2 q6 w2 hq5 hq6 s) (run_V (as := [.int w2, .ref q6, .int w2]) (rest := []) hC hE (th_o hq5) rfl cw_X6_copySlot ci_X6_copySlot wd298 cs_X6_copySlot ce_X6_copySlot cd_X6_copySlot (by decide) (by decide) (Nat.le_of_ble_eq_true rfl) dX6_copyFrom_88 rfl) (fun v14 s15 _ => ?_)
    refine lx_iincN (v := 1) hC dX6_copyFrom_91 2 rfl (by decide) rfl (fun y16 => ?_)
    refine lx_goto hC 78 dX6_copyFrom_94 (by decide) ?_
    exact lx_sub [1, 2, 0] rfl (hk78 (y16, s15))
set_option maxRecDepth 100000 in
set_option maxHeartbeats 2000000 in
theorem n_X6_copyFrom_b78 (q5 : Nat) (q6 : Nat) (s : Mem) (kf78 : (Int32 × Mem) → Res Unit) (hm78 : ∀ a, Mn a.2 (kf78 a)) (w2 : Int32) : Mn s (m_X6_copyFrom_b78 q5 q6 s kf78 w2 ) := by
  unfold m_X6_copyFrom_b78
  refine mn_if ?_ ?_
  · skip
    refine mn_put (fun s7 => ?_)
    refine mn_put (fun s8 => ?_)
    refine mn_put (fun s9 => ?_)
    refine mn_put (fun s10 => ?_)
    refine mn_put (fun s11 => ?_)
    refine mn_put (fun s12 => ?_)
    refine mn_put (fun s13 => ?_)
    exact mn_some
  · skip
    refine mn_bind (n_X6_copySlot q5 w2 q6 w2 s) (fun v14 s15 => ?_)
    refine mn_vl (fun y16 => ?_)
    exact hm78 (y16, s15)
set_option maxRecDepth 100000 in
set_option maxHeartbeats 2000000 in
theorem l_X6_copyFrom_b52 {X : Cx} {V : Vx} {A : Nat → Prop} {adV : Nat → Nat} {c0 s0 : Nat} (hC : Cok X V A yX6_copyFrom.cls cX6_copyFrom 3) (hE : Env0 V adV A (xs X) (xs X).heap) (hl : (xl X).stackTraces = false) (hx : ∀ x ∈ (xc X).exceptionTable.toList, False) (hr : (xh X).sig.returnType = none) (q3 : Nat) (q4 : Nat) (hq3 : isTh q3) (hq4 : isTh q4) (s : Mem) (kf52 : (Int32 × Mem) → Res Unit) (hk52 : ∀ a, LX X V A 31 523 c0 s0 (FM X V A (fun _ => none)) 52 [(0, .ref q3), (1, .ref q4), (2, .int a.1)] [] a.2 (kf52 a)) (w2 : Int32) : LX X V A 31 523 c0 s0 (FM X V A (fun _ => none)) 52 [(0, .ref q3), (1, .ref q4), (2, .int w2)] [] s (m_X6_copyFrom_b52 q3 q4 s kf52 w2 ) := by
  unfold m_X6_copyFrom_b52
  refine lx_iload_n hC dX6_copyFrom_52 rfl 2 rfl ?_
  refine lx_bipush (v := 8) hC dX6_copyFrom_53 (by decide) ?_
  refine lx_icmp_ge hC 76 dX6_copyFrom_55 (by decide) ?_ ?_
  · skip
    refine lx_iconstv (v := 0) hC dX6_copyFrom_76 rfl ?_
    refine lx_istore_n hC dX6_copyFrom_77 rfl (by decide) ?_
    refine lx_sub [1, 2, 0] rfl ?_
    exact lx_lp (lv := fun a => [(0, .ref q3), (1, .ref q4), (2, .int a.1)]) (st := fun _ => []) (sg := fun a => a.2) (fun kf hq a => l_X6_copyFrom_b78 hC hE hl hx hr q3 q4 hq3 hq4 a.2 kf hq a.1) FUEL (0, s)
  · skip
    refine lx_aload_n hC dX6_copyFrom_58 rfl 0 rfl ?_
    refine lx_getR (q := q3 + 256) hC (th_o hq3) rfl 3 (by decide) rfl rfl inX6 wd82 dX6_copyFrom_59 ?_
    refine lx_iload_n hC dX6_copyFrom_62 rfl 2 rfl ?_
    refine lx_aload_n hC dX6_copyFrom_63 rfl 1 rfl ?_
    refine lx_getR (q := q4 + 256) hC (th_o hq4) rfl 3 (by decide) rfl rfl inX6 wd82 dX6_copyFrom_64 ?_
    refine lx_iload_n hC dX6_copyFrom_67 rfl 2 rfl ?_
    refine lx_iaload hC (th_a3 hq4) dX6_copyFrom_68 ?_
    refine lx_iastore hC (th_a3 hq3) dX6_copyFrom_69 (fun s17 => ?_)
    refine lx_iincN (v := 1) hC dX6_copyFrom_70 2 rfl (by decide) rfl (fun y18 => ?_)
    refine lx_goto hC 52 dX6_copyFrom_73 (by decide) ?_
    exact lx_sub [1, 2, 0] rfl (hk52 (y18, s17))
set_option maxRecDepth 100000 in
set_option maxHeartbeats 2000000 in
theorem n_X6_copyFrom_b52 (q3 : Nat) (q4 : Nat) (s : Mem) (kf52 : (Int32 × Mem) → Res Unit) (hm52 : ∀ a, Mn a.2 (kf52 a)) (w2 : Int32) : Mn s (m_X6_copyFrom_b52 q3 q4 s kf52 w2 ) := by
  unfold m_X6_copyFrom_b52
  refine mn_if ?_ ?_
  · skip
    exact mn_lp (sg := fun a => a.2) (fun kf hq a => n_X6_copyFrom_b78 q3 q4 a.2 kf hq a.1) FUEL (0, s)
  · skip
    refine mn_if ?_ mn_none
    refine mn_if ?_ mn_none
    refine mn_put (fun s17 => ?_)
    refine mn_vl (fun y18 => ?_)
    exact hm52 (y18, s17)
set_option maxRecDepth 100000 in
set_option maxHeartbeats 2000000 in
theorem l_X6_copyFrom_b2 {X : Cx} {V : Vx} {A : Nat → Prop} {adV : Nat → Nat} {c0 s0 : Nat} (hC : Cok X V A yX6_copyFrom.cls cX6_copyFrom 3) (hE : Env0 V adV A (xs X) (xs X).heap) (hl : (xl X).stackTraces = false) (hx : ∀ x ∈ (xc X).exceptionTable.toList, False) (hr : (xh X).sig.returnType = none) (q1 : Nat) (q2 : Nat) (hq1 : isTh q1) (hq2 : isTh q2) (s : Mem) (kf2 : (Int32 × Mem) → Res Unit) (hk2 : ∀ a, LX X V A 31 523 c0 s0 (FM X V A (fun _ => none)) 2 [(0, .ref q1), (1, .ref q2), (2, .int a.1)] [] a.2 (kf2 a)) (w2 : Int32) : LX X V A 31 523 c0 s0 (FM X V A (fun _ => none)) 2 [(0, .ref q1), (1, .ref q2), (2, .int w2)] [] s (m_X6_copyFrom_b2 q1 q2 s kf2 w2 ) := by
  unfold m_X6_copyFrom_b2
  refine lx_iload_n hC dX6_copyFrom_2 rfl 2 rfl ?_
  refine lx_bipush (v := 8) hC dX6_copyFrom_3 (by decide) ?_
  refine lx_icmp_ge hC 50 dX6_copyFrom_5 (by decide) ?_ ?_
  · skip
    refine lx_iconstv (v := 0) hC dX6_copyFrom_50 rfl ?_
    refine lx_istore_n hC dX6_copyFrom_51 rfl (by decide) ?_
    refine lx_sub [1, 2, 0] rfl ?_
    exact lx_lp (lv := fun a => [(0, .ref q1), (1, .ref q2), (2, .int a.1)]) (st := fun _ => []) (sg := fun a => a.2) (fun kf hq a => l_X6_copyFrom_b52 hC hE hl hx hr q1 q2 hq1 hq2 a.2 kf hq a.1) FUEL (0, s)
  · skip
    refine lx_aload_n hC dX6_copyFrom_8 rfl 0 rfl ?_
    refine lx_getR (q := q1 + 64) hC (th_o hq1) rfl 0 (by decide) rfl rfl inX6 wd71 dX6_copyFrom_9 ?_
    refine lx_iload_n hC dX6_copyFrom_12 rfl 2 rfl ?_
    refine lx_aload_n hC dX6_copyFrom_13 rfl 1 rfl ?_
    refine lx_getR (q := q2 + 64) hC (th_o hq2) rfl 0 (by decide) rfl rfl inX6 wd71 dX6_copyFrom_14 ?_
    refine lx_iload_n hC dX6_copyFrom_17 rfl 2 rfl ?_
    refine lx_iaload hC (th_a0 hq2) dX6_copyFrom_18 ?_
    refine lx_iastore hC (th_a0 hq1) dX6_copyFrom_19 (fun s19 => ?_)
    refine lx_aload_n hC dX6_copyFrom_20 rfl 0 rfl ?_
    refine lx_getR (q := q1 + 128) hC (th_o hq1) rfl 1 (by decide) rfl rfl inX6 wd74 dX6_copyFrom_21 ?_
    refine lx_iload_n hC dX6_copyFrom_24 rfl 2 rfl ?_
    refine lx_aload_n hC dX6_copyFrom_25 rfl 1 rfl ?_
    refine lx_getR (q := q2 + 128) hC (th_o hq2) rfl 1 (by decide) rfl rfl inX6 wd74 dX6_copyFrom_26 ?_
    refine lx_iload_n hC dX6_copyFrom_29 rfl 2 rfl ?_
    refine lx_iaload hC (th_a1 hq2) dX6_copyFrom_30 ?_
    refine lx_iastore hC (th_a1 hq1) dX6_copyFrom_31 (fun s20 => ?_)
    refine lx_aload_n hC dX6_copyFrom_32 rfl 0 rfl ?_
    refine lx_getR (q := q1 + 192) hC (th_o hq1) rfl 2 (by decide) rfl rfl inX6 wd78 dX6_copyFrom_33 ?_
    refine lx_iload_n hC dX6_copyFrom_36 rfl 2 rfl ?_
    refine lx_aload_n hC dX6_copyFrom_37 rfl 1 rfl ?_
    refine lx_getR (q := q2 + 192) hC (th_o hq2) rfl 2 (by decide) rfl rfl inX6 wd78 dX6_copyFrom_38 ?_
    refine lx_iload_n hC dX6_copyFrom_41 rfl 2 rfl ?_
    refine lx_zaload hC (th_a2 hq2) dX6_copyFrom_42 ?_
    refine lx_zastore hC (th_a2 hq1) dX6_copyFrom_43 (fun s21 => ?_)
    refine lx_iincN (v := 1) hC dX6_copyFrom_44 2 rfl (by decide) rfl (fun y22 => ?_)
    refine lx_goto hC 2 dX6_copyFrom_47 (by decide) ?_
    exact lx_sub [1, 2, 0] rfl (hk2 (y22, s21))
set_option maxRecDepth 100000 in
set_option maxHeartbeats 2000000 in
theorem n_X6_copyFrom_b2 (q1 : Nat) (q2 : Nat) (s : Mem) (kf2 : (Int32 × Mem) → Res Unit) (hm2 : ∀ a, Mn a.2 (kf2 a)) (w2 : Int32) : Mn s (m_X6_copyFrom_b2 q1 q2 s kf2 w2 ) := by
  unfold m_X6_copyFrom_b2
  refine mn_if ?_ ?_
  · skip
    exact mn_lp (sg := fun a => a.2) (fun kf hq a => n_X6_copyFrom_b52 q1 q2 a.2 kf hq a.1) FUEL (0, s)
  · skip
    refine mn_if ?_ mn_none
    refine mn_if ?_ mn_none
    refine mn_put (fun s19 => ?_)
    refine mn_if ?_ mn_none
    refine mn_if ?_ mn_none
    refine mn_put (fun s20 => ?_)
    refine mn_if ?_ mn_none
    refine mn_if ?_ mn_none
    refine mn_put (fun s21 => ?_)
    refine mn_vl (fun y22 => ?_)
    exact hm2 (y22, s21)
set_option maxRecDepth 100000 in
set_option maxHeartbeats 2000000 in
theorem n_X6_copyFrom (t : Nat) (p0 : Nat) (s : Mem) : Mn s (m_X6_copyFrom t p0 s) := by
  unfold m_X6_copyFrom
  exact mn_lp (sg := fun a => a.2) (fun kf hq a => n_X6_copyFrom_b2 t p0 a.2 kf hq a.1) FUEL (0, s)
set_option maxRecDepth 100000 in
set_option maxHeartbeats 2000000 in
theorem sat_X6_copyFrom (l : Launch) (hl : l.stackTraces = false) (t : Nat) (p0 : Nat) (ht : isTh t) (hp0 : isTh p0) (s : Mem) : Sat l yX6_copyFrom (.code yX6_copyFrom cX6_copyFrom 3 (none)) 31 523 (fun _ => none) [.ref t, .ref p0] s (m_X6_copyFrom t p0 s) := by
  refine sat_of hl (by decide) (Nat.le_of_ble_eq_true rfl) (fun X V A adV hxl hC hE hx hr => ?_) (n_X6_copyFrom t p0 s)
  subst hxl
  show LX X V A 31 523 (nC s) (nS s) _ 0 [(0, .ref t), (1, .ref p0)] [] s _
  unfold m_X6_copyFrom
  refine lx_iconstv (v := 0) hC dX6_copyFrom_0 rfl ?_
  refine lx_istore_n hC dX6_copyFrom_1 rfl (by decide) ?_
  refine lx_sub [1, 2, 0] rfl ?_
  exact lx_lp (lv := fun a => [(0, .ref t), (1, .ref p0), (2, .int a.1)]) (st := fun _ => []) (sg := fun a => a.2) (fun kf hq a => l_X6_copyFrom_b2 hC hE hl hx hr t p0 ht hp0 a.2 kf hq a.1) FUEL (0, s)
set_option maxRecDepth 100000 in
set_option maxHeartbeats 2000000 in
theorem n_X3_draft (s : Mem) : Mn s (m_X3_draft s) := by
  unfold m_X3_draft
  refine mn_bindP (fun v1 => ?_)
  refine mn_if ?_ mn_none
  refine mn_if ?_ mn_none
  refine mn_bind (n_X6_copyFrom (arf 65 v1.toNatClampNeg) (arf 65 (gI s 1 1).toNatClampNeg) s) (fun v4 s5 => ?_)
  exact mn_some
set_option maxRecDepth 100000 in
set_option maxHeartbeats 2000000 in
theorem sat_X3_draft (l : Launch) (hl : l.stackTraces = false) (s : Mem) : Sat l yX3_draft (.code yX3_draft cX3_draft 2 (some (.object "EchoCensus$Theatre"))) 32 545 (fun x => some (.ref x)) [.ref 1] s (m_X3_draft s) := by
  refine sat_of hl (by decide) (Nat.le_of_ble_eq_true rfl) (fun X V A adV hxl hC hE hx hr => ?_) (n_X3_draft s)
  subst hxl
  show LX X V A 32 545 (nC s) (nS s) _ 0 [(0, .ref 1)] [] s _
  unfold m_X3_draft
  refine lx_aload_n hC dX3_draft_0 rfl 0 rfl ?_
  refine lx_getR (q := 65) hC ly1 rfl 0 (by decide) rfl rfl inX3 wd156 dX3_draft_1 ?_
  refine lx_aload_n hC dX3_draft_4 rfl 0 rfl ?_
  refine lx_getI hC ly1 rfl 1 (by decide) rfl inX3 wd157 dX3_draft_5 ?_
  refine lx_callP hC hx (sat_X3_placeAfter (xl X) hl (gI s 1 1) s) (run_S (as := [.int (gI s 1 1)]) (rest := [.ref 65]) hC hE cw_X3_placeAfter ci_X3_placeAfter wd319 cs_X3_placeAfter cd_X3_placeAfter (by decide) (by decide) (Nat.le_of_ble_eq_true rfl) dX3_draft_8 rfl) (fun v1 _ => ?_)
  refine lx_aaload hC ly65 rfl rfl dX3_draft_11 (fun h2 => ?_)
  refine lx_astore_n hC dX3_draft_12 rfl (by decide) ?_
  refine lx_aload_n hC dX3_draft_13 rfl 0 rfl ?_
  refine lx_aload_n hC dX3_draft_14 rfl 1 rfl ?_
  refine lx_getR (q := 65) hC ly1 rfl 0 (by decide) rfl rfl inX3 wd156 dX3_draft_15 ?_
  refine lx_aload_n hC dX3_draft_18 rfl 1 rfl ?_
  refine lx_getI hC ly1 rfl 1 (by decide) rfl inX3 wd157 dX3_draft_19 ?_
  refine lx_aaload hC ly65 rfl rfl dX3_draft_22 (fun h3 => ?_)
  refine lx_callX hC hx (sat_X6_copyFrom (xl X) hl (arf 65 v1.toNatClampNeg) (arf 65 (gI s 1 1).toNatClampNeg) (th_ring h2) (th_ring h3) s) (run_V (as := [.ref (arf 65 (gI s 1 1).toNatClampNeg)]) (rest := []) hC hE (th_o (th_ring h2)) rfl cw_X6_copyFrom ci_X6_copyFrom wd322 cs_X6_copyFrom ce_X6_copyFrom cd_X6_copyFrom (by decide) (by decide) (Nat.le_of_ble_eq_true rfl) dX3_draft_23 rfl) (fun v4 s5 _ => ?_)
  refine lx_aload_n hC dX3_draft_26 rfl 0 rfl ?_
  exact lx_aret hC rfl hr (Or.inl ⟨_, rfl⟩) dX3_draft_27
set_option maxRecDepth 100000 in
set_option maxHeartbeats 2000000 in
theorem sat_X5_within (l : Launch) (hl : l.stackTraces = false) (p0 : Int32) (p1 : Int32) (s : Mem) : Sat l yX5_within (.code yX5_within cX5_within 2 (some .boolean)) 30 500 (fun x => some (.int x)) [.int p0, .int p1] s (pur s (m_X5_within p0 p1 s)) := by
  refine sat_of hl (by decide) (Nat.le_of_ble_eq_true rfl) (fun X V A adV hxl hC hE hx hr => ?_) pur_mono
  subst hxl
  show LX X V A 30 500 (nC s) (nS s) _ 0 [(0, .int p0), (1, .int p1)] [] s _
  unfold m_X5_within
  refine lx_iload_n hC dX5_within_0 rfl 0 rfl ?_
  refine lx_iconstv (v := 1) hC dX5_within_1 rfl ?_
  refine lq_icmp_lt hC 14 dX5_within_2 (by decide) ?_ ?_
  · skip
    refine lx_iconstv (v := 0) hC dX5_within_14 rfl ?_
    exact lx_zret hC rfl hr rfl dX5_within_15
  · skip
    refine lx_iload_n hC dX5_within_5 rfl 0 rfl ?_
    refine lx_iload_n hC dX5_within_6 rfl 1 rfl ?_
    refine lq_icmp_gt hC 14 dX5_within_7 (by decide) ?_ ?_
    · skip
      refine lx_iconstv (v := 0) hC dX5_within_14 rfl ?_
      exact lx_zret hC rfl hr rfl dX5_within_15
    · skip
      refine lx_iconstv (v := 1) hC dX5_within_10 rfl ?_
      refine lx_goto hC 15 dX5_within_11 (by decide) ?_
      exact lx_zret hC rfl hr rfl dX5_within_15
set_option maxRecDepth 100000 in
set_option maxHeartbeats 2000000 in
theorem sat_X5_acceptedIf (l : Launch) (hl : l.stackTraces = false) (p0 : Int32) (s : Mem) : Sat l yX5_acceptedIf (.code yX5_acceptedIf cX5_acceptedIf 1 (some .int)) 30 500 (fun x => some (.int x)) [.int p0] s (pur s (m_X5_acceptedIf p0 s)) := by
  refine sat_of hl (by decide) (Nat.le_of_ble_eq_true rfl) (fun X V A adV hxl hC hE hx hr => ?_) pur_mono
  subst hxl
  show LX X V A 30 500 (nC s) (nS s) _ 0 [(0, .int p0)] [] s _
  unfold m_X5_acceptedIf
  refine lx_iload_n hC dX5_acceptedIf_0 rfl 0 rfl ?_
  refine lq_if_eq hC 8 dX5_acceptedIf_1 (by decide) ?_ ?_
  · skip
    refine lx_iconstv (v := 4) hC dX5_acceptedIf_8 rfl ?_
    exact lx_iret hC rfl hr dX5_acceptedIf_9
  · skip
    refine lx_iconstv (v := 0) hC dX5_acceptedIf_4 rfl ?_
    refine lx_goto hC 9 dX5_acceptedIf_5 (by decide) ?_
    exact lx_iret hC rfl hr dX5_acceptedIf_9
set_option maxRecDepth 100000 in
set_option maxHeartbeats 2000000 in
theorem sat_X5_refusalOfRow (l : Launch) (hl : l.stackTraces = false) (p0 : Nat) (p1 : Int32) (hp0 : isTh p0) (s : Mem) : Sat l yX5_refusalOfRow (.code yX5_refusalOfRow cX5_refusalOfRow 2 (some .int)) 31 521 (fun x => some (.int x)) [.ref p0, .int p1] s (pur s (m_X5_refusalOfRow p0 p1 s)) := by
  refine sat_of hl (by decide) (Nat.le_of_ble_eq_true rfl) (fun X V A adV hxl hC hE hx hr => ?_) pur_mono
  subst hxl
  show LX X V A 31 521 (nC s) (nS s) _ 0 [(0, .ref p0), (1, .int p1)] [] s _
  unfold m_X5_refusalOfRow
  refine lx_iload_n hC dX5_refusalOfRow_0 rfl 1 rfl ?_
  refine lx_bipush (v := 12) hC dX5_refusalOfRow_1 (by decide) ?_
  refine lq_call hC hx (sat_X5_within (xl X) hl p1 12 s) (run_S (as := [.int p1, .int 12]) (rest := []) hC hE cw_X5_within ci_X5_within wd329 cs_X5_within cd_X5_within (by decide) (by decide) (Nat.le_of_ble_eq_true rfl) dX5_refusalOfRow_3 rfl) (fun v1 _ => ?_)
  refine lq_if_ne hC 11 dX5_refusalOfRow_6 (by decide) ?_ ?_
  · skip
    refine lx_aload_n hC dX5_refusalOfRow_11 rfl 0 rfl ?_
    refine lx_getI hC (th_o hp0) rfl 4 (by decide) rfl inX6 wd88 dX5_refusalOfRow_12 ?_
    refine lx_bipush (v := 8) hC dX5_refusalOfRow_15 (by decide) ?_
    refine lq_icmp_ge hC 24 dX5_refusalOfRow_17 (by decide) ?_ ?_
    · skip
      refine lx_iconstv (v := 0) hC dX5_refusalOfRow_24 rfl ?_
      refine lq_call hC hx (sat_X5_acceptedIf (xl X) hl 0 s) (run_S (as := [.int 0]) (rest := []) hC hE cw_X5_acceptedIf ci_X5_acceptedIf wd332 cs_X5_acceptedIf cd_X5_acceptedIf (by decide) (by decide) (Nat.le_of_ble_eq_true rfl) dX5_refusalOfRow_25 rfl) (fun v2 _ => ?_)
      exact lx_iret hC rfl hr dX5_refusalOfRow_28
    · skip
      refine lx_iconstv (v := 1) hC dX5_refusalOfRow_20 rfl ?_
      refine lx_goto hC 25 dX5_refusalOfRow_21 (by decide) ?_
      refine lq_call hC hx (sat_X5_acceptedIf (xl X) hl 1 s) (run_S (as := [.int 1]) (rest := []) hC hE cw_X5_acceptedIf ci_X5_acceptedIf wd332 cs_X5_acceptedIf cd_X5_acceptedIf (by decide) (by decide) (Nat.le_of_ble_eq_true rfl) dX5_refusalOfRow_25 rfl) (fun v3 _ => ?_)
      exact lx_iret hC rfl hr dX5_refusalOfRow_28
  · skip
    refine lx_iconstv (v := 3) hC dX5_refusalOfRow_9 rfl ?_
    exact lx_iret hC rfl hr dX5_refusalOfRow_10
set_option maxRecDepth 100000 in
set_option maxHeartbeats 2000000 in
theorem sat_X6_hasRow (l : Launch) (hl : l.stackTraces = false) (t : Nat) (p0 : Int32) (ht : isTh t) (s : Mem) : Sat l yX6_hasRow (.code yX6_hasRow cX6_hasRow 2 (some .boolean)) 30 500 (fun x => some (.int x)) [.ref t, .int p0] s (pur s (m_X6_hasRow t p0 s)) := by
  refine sat_of hl (by decide) (Nat.le_of_ble_eq_true rfl) (fun X V A adV hxl hC hE hx hr => ?_) pur_mono
  subst hxl
  show LX X V A 30 500 (nC s) (nS s) _ 0 [(0, .ref t), (1, .int p0)] [] s _
  unfold m_X6_hasRow
  refine lx_iload_n hC dX6_hasRow_0 rfl 1 rfl ?_
  refine lq_if_lt hC 16 dX6_hasRow_1 (by decide) ?_ ?_
  · skip
    refine lx_iconstv (v := 0) hC dX6_hasRow_16 rfl ?_
    exact lx_zret hC rfl hr rfl dX6_hasRow_17
  · skip
    refine lx_iload_n hC dX6_hasRow_4 rfl 1 rfl ?_
    refine lx_aload_n hC dX6_hasRow_5 rfl 0 rfl ?_
    refine lx_getI hC (th_o ht) rfl 4 (by decide) rfl inX6 wd86 dX6_hasRow_6 ?_
    refine lq_icmp_ge hC 16 dX6_hasRow_9 (by decide) ?_ ?_
    · skip
      refine lx_iconstv (v := 0) hC dX6_hasRow_16 rfl ?_
      exact lx_zret hC rfl hr rfl dX6_hasRow_17
    · skip
      refine lx_iconstv (v := 1) hC dX6_hasRow_12 rfl ?_
      refine lx_goto hC 17 dX6_hasRow_13 (by decide) ?_
      exact lx_zret hC rfl hr rfl dX6_hasRow_17
set_option maxRecDepth 100000 in
set_option maxHeartbeats 2000000 in
theorem sat_X5_refusalOfPhantoms (l : Launch) (hl : l.stackTraces = false) (p0 : Nat) (p1 : Int32) (p2 : Int32) (hp0 : isTh p0) (s : Mem) : Sat l yX5_refusalOfPhantoms (.code yX5_refusalOfPhantoms cX5_refusalOfPhantoms 3 (some .int)) 31 521 (fun x => some (.int x)) [.ref p0, .int p1, .int p2] s (pur s (m_X5_refusalOfPhantoms p0 p1 p2 s)) := by
  refine sat_of hl (by decide) (Nat.le_of_ble_eq_true rfl) (fun X V A adV hxl hC hE hx hr => ?_) pur_mono
  subst hxl
  show LX X V A 31 521 (nC s) (nS s) _ 0 [(0, .ref p0), (1, .int p1), (2, .int p2)] [] s _
  unfold m_X5_refusalOfPhantoms
  refine lx_aload_n hC dX5_refusalOfPhantoms_0 rfl 0 rfl ?_
  refine lx_iload_n hC dX5_refusalOfPhantoms_1 rfl 1 rfl ?_
  refine lq_call hC hx (sat_X6_hasRow (xl X) hl p0 p1 hp0 s) (run_V (as := [.int p1]) (rest := []) hC hE (th_o hp0) rfl cw_X6_hasRow ci_X6_hasRow wd338 cs_X6_hasRow ce_X6_hasRow cd_X6_hasRow (by decide) (by decide) (Nat.le_of_ble_eq_true rfl) dX5_refusalOfPhantoms_2 rfl) (fun v1 _ => ?_)
  refine lq_if_ne hC 10 dX5_refusalOfPhantoms_5 (by decide) ?_ ?_
  · skip
    refine lx_iload_n hC dX5_refusalOfPhantoms_10 rfl 2 rfl ?_
    refine lx_bipush (v := 6) hC dX5_refusalOfPhantoms_11 (by decide) ?_
    refine lq_call hC hx (sat_X5_within (xl X) hl p2 6 s) (run_S (as := [.int p2, .int 6]) (rest := []) hC hE cw_X5_within ci_X5_within wd329 cs_X5_within cd_X5_within (by decide) (by decide) (Nat.le_of_ble_eq_true rfl) dX5_refusalOfPhantoms_13 rfl) (fun v2 _ => ?_)
    refine lq_if_ne hC 21 dX5_refusalOfPhantoms_16 (by decide) ?_ ?_
    · skip
      refine lx_aload_n hC dX5_refusalOfPhantoms_21 rfl 0 rfl ?_
      refine lx_getR (q := p0 + 192) hC (th_o hp0) rfl 2 (by decide) rfl rfl inX6 wd79 dX5_refusalOfPhantoms_22 ?_
      refine lx_iload_n hC dX5_refusalOfPhantoms_25 rfl 1 rfl ?_
      refine lq_zaload hC (th_a2 hp0) dX5_refusalOfPhantoms_26 ?_
      refine lq_if_ne hC 47 dX5_refusalOfPhantoms_27 (by decide) ?_ ?_
      · skip
        refine lx_iconstv (v := 0) hC dX5_refusalOfPhantoms_47 rfl ?_
        refine lq_call hC hx (sat_X5_acceptedIf (xl X) hl 0 s) (run_S (as := [.int 0]) (rest := []) hC hE cw_X5_acceptedIf ci_X5_acceptedIf wd332 cs_X5_acceptedIf cd_X5_acceptedIf (by decide) (by decide) (Nat.le_of_ble_eq_true rfl) dX5_refusalOfPhantoms_48 rfl) (fun v3 _ => ?_)
        exact lx_iret hC rfl hr dX5_refusalOfPhantoms_51
      · skip
        refine lx_aload_n hC dX5_refusalOfPhantoms_30 rfl 0 rfl ?_
        refine lx_getR (q := p0 + 128) hC (th_o hp0) rfl 1 (by decide) rfl rfl inX6 wd76 dX5_refusalOfPhantoms_31 ?_
        refine lx_iload_n hC dX5_refusalOfPhantoms_34 rfl 1 rfl ?_
        refine lq_iaload hC (th_a1 hp0) dX5_refusalOfPhantoms_35 ?_
        refine lx_iload_n hC dX5_refusalOfPhantoms_36 rfl 2 rfl ?_
        refine lx_iadd hC dX5_refusalOfPhantoms_37 ?_
        refine lx_bipush (v := 6) hC dX5_refusalOfPhantoms_38 (by decide) ?_
        refine lq_icmp_gt hC 47 dX5_refusalOfPhantoms_40 (by decide) ?_ ?_
        · skip
          refine lx_iconstv (v := 0) hC dX5_refusalOfPhantoms_47 rfl ?_
          refine lq_call hC hx (sat_X5_acceptedIf (xl X) hl 0 s) (run_S (as := [.int 0]) (rest := []) hC hE cw_X5_acceptedIf ci_X5_acceptedIf wd332 cs_X5_acceptedIf cd_X5_acceptedIf (by decide) (by decide) (Nat.le_of_ble_eq_true rfl) dX5_refusalOfPhantoms_48 rfl) (fun v4 _ => ?_)
          exact lx_iret hC rfl hr dX5_refusalOfPhantoms_51
        · skip
          refine lx_iconstv (v := 1) hC dX5_refusalOfPhantoms_43 rfl ?_
          refine lx_goto hC 48 dX5_refusalOfPhantoms_44 (by decide) ?_
          refine lq_call hC hx (sat_X5_acceptedIf (xl X) hl 1 s) (run_S (as := [.int 1]) (rest := []) hC hE cw_X5_acceptedIf ci_X5_acceptedIf wd332 cs_X5_acceptedIf cd_X5_acceptedIf (by decide) (by decide) (Nat.le_of_ble_eq_true rfl) dX5_refusalOfPhantoms_48 rfl) (fun v5 _ => ?_)
          exact lx_iret hC rfl hr dX5_refusalOfPhantoms_51
    · skip
      refine lx_iconstv (v := 3) hC dX5_refusalOfPhantoms_19 rfl ?_
      exact lx_iret hC rfl hr dX5_refusalOfPhantoms_20
  · skip
    refine lx_iconstv (v := 2) hC dX5_refusalOfPhantoms_8 rfl ?_
    exact lx_iret hC rfl hr dX5_refusalOfPhantoms_9
set_option maxRecDepth 100000 in
set_option maxHeartbeats 2000000 in
theorem l_X6_echoesIn_b4 {X : Cx} {V : Vx} {A : Nat → Prop} {adV : Nat → Nat} {c0 s0 : Nat} (hC : Cok X V A yX6_echoesIn.cls cX6_echoesIn 4) (hE : Env0 V adV A (xs X) (xs X).heap) (hl : (xl X).stackTraces = false) (hx : ∀ x ∈ (xc X).exceptionTable.toList, False) (hr : (xh X).sig.returnType = some .int) (q1 : Nat) (x2 : Int32) (hq1 : isTh q1) (s : Mem) (kf4 : (Int32 × Int32) → Option Int32) (hk4 : ∀ a, LX X V A 30 500 c0 s0 (FM X V A (fun x => some (.int x))) 4 [(0, .ref q1), (1, .int x2), (2, .int a.1), (3, .int a.2)] [] s (pur s (kf4 a))) (w2 : Int32) (w3 : Int32) : LX X V A 30 500 c0 s0 (FM X V A (fun x => some (.int x))) 4 [(0, .ref q1), (1, .int x2), (2, .int w2), (3, .int w3)] [] s (pur s (m_X6_echoesIn_b4 q1 x2 s kf4 w2 w3 )) := by
  unfold m_X6_echoesIn_b4
  refine lx_iload_n hC dX6_echoesIn_4 rfl 3 rfl ?_
  refine lx_aload_n hC dX6_echoesIn_5 rfl 0 rfl ?_
  refine lx_getI hC (th_o hq1) rfl 9 (by decide) rfl inX6 wd105 dX6_echoesIn_6 ?_
  refine lq_icmp_ge hC 31 dX6_echoesIn_9 (by decide) ?_ ?_
  · skip
    refine lx_iload_n hC dX6_echoesIn_31 rfl 2 rfl ?_
    exact lx_iret hC rfl hr dX6_echoesIn_32
  · skip
    refine lx_aload_n hC dX6_echoesIn_12 rfl 0 rfl ?_
    refine lx_getR (q := q1 + 448) hC (th_o hq1) rfl 6 (by decide) rfl rfl inX6 wd93 dX6_echoesIn_13 ?_
    refine lx_iload_n hC dX6_echoesIn_16 rfl 3 rfl ?_
    refine lq_iaload hC (th_a6 hq1) dX6_echoesIn_17 ?_
    refine lx_iload_n hC dX6_echoesIn_18 rfl 1 rfl ?_
    refine lq_icmp_ne hC 25 dX6_echoesIn_19 (by decide) ?_ ?_
    · skip
      refine lq_iincN (v := 1) hC dX6_echoesIn_25 3 rfl (by decide) rfl (fun y3 => ?_)
      refine lx_goto hC 4 dX6_echoesIn_28 (by decide) ?_
      exact lx_sub [1, 2, 3, 0] rfl (hk4 (w2, y3))
    · skip
      refine lq_iincN (v := 1) hC dX6_echoesIn_22 2 rfl (by decide) rfl (fun y4 => ?_)
      refine lq_iincN (v := 1) hC dX6_echoesIn_25 3 rfl (by decide) rfl (fun y5 => ?_)
      refine lx_goto hC 4 dX6_echoesIn_28 (by decide) ?_
      exact lx_sub [2, 3, 1, 0] rfl (hk4 (y4, y5))
set_option maxRecDepth 100000 in
set_option maxHeartbeats 2000000 in
theorem sat_X6_echoesIn (l : Launch) (hl : l.stackTraces = false) (t : Nat) (p0 : Int32) (ht : isTh t) (s : Mem) : Sat l yX6_echoesIn (.code yX6_echoesIn cX6_echoesIn 4 (some .int)) 30 500 (fun x => some (.int x)) [.ref t, .int p0] s (pur s (m_X6_echoesIn t p0 s)) := by
  refine sat_of hl (by decide) (Nat.le_of_ble_eq_true rfl) (fun X V A adV hxl hC hE hx hr => ?_) pur_mono
  subst hxl
  show LX X V A 30 500 (nC s) (nS s) _ 0 [(0, .ref t), (1, .int p0)] [] s _
  unfold m_X6_echoesIn
  refine lx_iconstv (v := 0) hC dX6_echoesIn_0 rfl ?_
  refine lx_istore_n hC dX6_echoesIn_1 rfl (by decide) ?_
  refine lx_iconstv (v := 0) hC dX6_echoesIn_2 rfl ?_
  refine lx_istore_n hC dX6_echoesIn_3 rfl (by decide) ?_
  refine lx_sub [2, 3, 1, 0] rfl ?_
  exact lq_lp (lv := fun a => [(0, .ref t), (1, .int p0), (2, .int a.1), (3, .int a.2)]) (st := fun _ => []) (fun kf hq a => l_X6_echoesIn_b4 hC hE hl hx hr t p0 ht s kf hq a.1 a.2) FUEL (0, 0)
set_option maxRecDepth 100000 in
set_option maxHeartbeats 2000000 in
theorem sat_X6_emptySeatsIn (l : Launch) (hl : l.stackTraces = false) (t : Nat) (p0 : Int32) (ht : isTh t) (s : Mem) : Sat l yX6_emptySeatsIn (.code yX6_emptySeatsIn cX6_emptySeatsIn 2 (some .int)) 31 523 (fun x => some (.int x)) [.ref t, .int p0] s (pur s (m_X6_emptySeatsIn t p0 s)) := by
  refine sat_of hl (by decide) (Nat.le_of_ble_eq_true rfl) (fun X V A adV hxl hC hE hx hr => ?_) pur_mono
  subst hxl
  show LX X V A 31 523 (nC s) (nS s) _ 0 [(0, .ref t), (1, .int p0)] [] s _
  unfold m_X6_emptySeatsIn
  refine lx_aload_n hC dX6_emptySeatsIn_0 rfl 0 rfl ?_
  refine lx_getR (q := t + 64) hC (th_o ht) rfl 0 (by decide) rfl rfl inX6 wd71 dX6_emptySeatsIn_1 ?_
  refine lx_iload_n hC dX6_emptySeatsIn_4 rfl 1 rfl ?_
  refine lq_iaload hC (th_a0 ht) dX6_emptySeatsIn_5 ?_
  refine lx_aload_n hC dX6_emptySeatsIn_6 rfl 0 rfl ?_
  refine lx_getR (q := t + 128) hC (th_o ht) rfl 1 (by decide) rfl rfl inX6 wd74 dX6_emptySeatsIn_7 ?_
  refine lx_iload_n hC dX6_emptySeatsIn_10 rfl 1 rfl ?_
  refine lq_iaload hC (th_a1 ht) dX6_emptySeatsIn_11 ?_
  refine lx_iadd hC dX6_emptySeatsIn_12 ?_
  refine lx_aload_n hC dX6_emptySeatsIn_13 rfl 0 rfl ?_
  refine lx_iload_n hC dX6_emptySeatsIn_14 rfl 1 rfl ?_
  refine lq_call hC hx (sat_X6_echoesIn (xl X) hl t p0 ht s) (run_V (as := [.int p0]) (rest := [.int ((gI s (t + 64) p0.toNatClampNeg) + (gI s (t + 128) p0.toNatClampNeg))]) hC hE (th_o ht) rfl cw_X6_echoesIn ci_X6_echoesIn wd349 cs_X6_echoesIn ce_X6_echoesIn cd_X6_echoesIn (by decide) (by decide) (Nat.le_of_ble_eq_true rfl) dX6_emptySeatsIn_15 rfl) (fun v1 _ => ?_)
  refine lx_isub hC dX6_emptySeatsIn_18 ?_
  exact lx_iret hC rfl hr dX6_emptySeatsIn_19
set_option maxRecDepth 100000 in
set_option maxHeartbeats 2000000 in
theorem sat_X5_refusalOfDismissal (l : Launch) (hl : l.stackTraces = false) (p0 : Nat) (p1 : Int32) (p2 : Int32) (hp0 : isTh p0) (s : Mem) : Sat l yX5_refusalOfDismissal (.code yX5_refusalOfDismissal cX5_refusalOfDismissal 3 (some .int)) 32 544 (fun x => some (.int x)) [.ref p0, .int p1, .int p2] s (pur s (m_X5_refusalOfDismissal p0 p1 p2 s)) := by
  refine sat_of hl (by decide) (Nat.le_of_ble_eq_true rfl) (fun X V A adV hxl hC hE hx hr => ?_) pur_mono
  subst hxl
  show LX X V A 32 544 (nC s) (nS s) _ 0 [(0, .ref p0), (1, .int p1), (2, .int p2)] [] s _
  unfold m_X5_refusalOfDismissal
  refine lx_aload_n hC dX5_refusalOfDismissal_0 rfl 0 rfl ?_
  refine lx_iload_n hC dX5_refusalOfDismissal_1 rfl 1 rfl ?_
  refine lq_call hC hx (sat_X6_hasRow (xl X) hl p0 p1 hp0 s) (run_V (as := [.int p1]) (rest := []) hC hE (th_o hp0) rfl cw_X6_hasRow ci_X6_hasRow wd338 cs_X6_hasRow ce_X6_hasRow cd_X6_hasRow (by decide) (by decide) (Nat.le_of_ble_eq_true rfl) dX5_refusalOfDismissal_2 rfl) (fun v1 _ => ?_)
  refine lq_if_ne hC 10 dX5_refusalOfDismissal_5 (by decide) ?_ ?_
  · skip
    refine lx_iload_n hC dX5_refusalOfDismissal_10 rfl 2 rfl ?_
    refine lx_bipush (v := 6) hC dX5_refusalOfDismissal_11 (by decide) ?_
    refine lq_call hC hx (sat_X5_within (xl X) hl p2 6 s) (run_S (as := [.int p2, .int 6]) (rest := []) hC hE cw_X5_within ci_X5_within wd329 cs_X5_within cd_X5_within (by decide) (by decide) (Nat.le_of_ble_eq_true rfl) dX5_refusalOfDismissal_13 rfl) (fun v2 _ => ?_)
    refine lq_if_ne hC 21 dX5_refusalOfDismissal_16 (by decide) ?_ ?_
    · skip
      refine lx_aload_n hC dX5_refusalOfDismissal_21 rfl 0 rfl ?_
      refine lx_getR (q := p0 + 192) hC (th_o hp0) rfl 2 (by decide) rfl rfl inX6 wd79 dX5_refusalOfDismissal_22 ?_
      refine lx_iload_n hC dX5_refusalOfDismissal_25 rfl 1 rfl ?_
      refine lq_zaload hC (th_a2 hp0) dX5_refusalOfDismissal_26 ?_
      refine lq_if_ne hC 53 dX5_refusalOfDismissal_27 (by decide) ?_ ?_
      · skip
        refine lx_iconstv (v := 0) hC dX5_refusalOfDismissal_53 rfl ?_
        refine lq_call hC hx (sat_X5_acceptedIf (xl X) hl 0 s) (run_S (as := [.int 0]) (rest := []) hC hE cw_X5_acceptedIf ci_X5_acceptedIf wd332 cs_X5_acceptedIf cd_X5_acceptedIf (by decide) (by decide) (Nat.le_of_ble_eq_true rfl) dX5_refusalOfDismissal_54 rfl) (fun v3 _ => ?_)
        exact lx_iret hC rfl hr dX5_refusalOfDismissal_57
      · skip
        refine lx_aload_n hC dX5_refusalOfDismissal_30 rfl 0 rfl ?_
        refine lx_getR (q := p0 + 128) hC (th_o hp0) rfl 1 (by decide) rfl rfl inX6 wd76 dX5_refusalOfDismissal_31 ?_
        refine lx_iload_n hC dX5_refusalOfDismissal_34 rfl 1 rfl ?_
        refine lq_iaload hC (th_a1 hp0) dX5_refusalOfDismissal_35 ?_
        refine lx_iload_n hC dX5_refusalOfDismissal_36 rfl 2 rfl ?_
        refine lq_icmp_lt hC 53 dX5_refusalOfDismissal_37 (by decide) ?_ ?_
        · skip
          refine lx_iconstv (v := 0) hC dX5_refusalOfDismissal_53 rfl ?_
          refine lq_call hC hx (sat_X5_acceptedIf (xl X) hl 0 s) (run_S (as := [.int 0]) (rest := []) hC hE cw_X5_acceptedIf ci_X5_acceptedIf wd332 cs_X5_acceptedIf cd_X5_acceptedIf (by decide) (by decide) (Nat.le_of_ble_eq_true rfl) dX5_refusalOfDismissal_54 rfl) (fun v4 _ => ?_)
          exact lx_iret hC rfl hr dX5_refusalOfDismissal_57
        · skip
          refine lx_aload_n hC dX5_refusalOfDismissal_40 rfl 0 rfl ?_
          refine lx_iload_n hC dX5_refusalOfDismissal_41 rfl 1 rfl ?_
          refine lq_call hC hx (sat_X6_emptySeatsIn (xl X) hl p0 p1 hp0 s) (run_V (as := [.int p1]) (rest := []) hC hE (th_o hp0) rfl cw_X6_emptySeatsIn ci_X6_emptySeatsIn wd345 cs_X6_emptySeatsIn ce_X6_emptySeatsIn cd_X6_emptySeatsIn (by decide) (by decide) (Nat.le_of_ble_eq_true rfl) dX5_refusalOfDismissal_42 rfl) (fun v5 _ => ?_)
          refine lx_iload_n hC dX5_refusalOfDismissal_45 rfl 2 rfl ?_
          refine lq_icmp_lt hC 53 dX5_refusalOfDismissal_46 (by decide) ?_ ?_
          · skip
            refine lx_iconstv (v := 0) hC dX5_refusalOfDismissal_53 rfl ?_
            refine lq_call hC hx (sat_X5_acceptedIf (xl X) hl 0 s) (run_S (as := [.int 0]) (rest := []) hC hE cw_X5_acceptedIf ci_X5_acceptedIf wd332 cs_X5_acceptedIf cd_X5_acceptedIf (by decide) (by decide) (Nat.le_of_ble_eq_true rfl) dX5_refusalOfDismissal_54 rfl) (fun v6 _ => ?_)
            exact lx_iret hC rfl hr dX5_refusalOfDismissal_57
          · skip
            refine lx_iconstv (v := 1) hC dX5_refusalOfDismissal_49 rfl ?_
            refine lx_goto hC 54 dX5_refusalOfDismissal_50 (by decide) ?_
            refine lq_call hC hx (sat_X5_acceptedIf (xl X) hl 1 s) (run_S (as := [.int 1]) (rest := []) hC hE cw_X5_acceptedIf ci_X5_acceptedIf wd332 cs_X5_acceptedIf cd_X5_acceptedIf (by decide) (by decide) (Nat.le_of_ble_eq_true rfl) dX5_refusalOfDismissal_54 rfl) (fun v7 _ => ?_)
            exact lx_iret hC rfl hr dX5_refusalOfDismissal_57
    · skip
      refine lx_iconstv (v := 3) hC dX5_refusalOfDismissal_19 rfl ?_
      exact lx_iret hC rfl hr dX5_refusalOfDismissal_20
  · skip
    refine lx_iconstv (v := 2) hC dX5_refusalOfDismissal_8 rfl ?_
    exact lx_iret hC rfl hr dX5_refusalOfDismissal_9
set_option maxRecDepth 100000 in
set_option maxHeartbeats 2000000 in
theorem sat_X5_refusalOfEcho (l : Launch) (hl : l.stackTraces = false) (p0 : Nat) (p1 : Int32) (p2 : Int32) (hp0 : isTh p0) (s : Mem) : Sat l yX5_refusalOfEcho (.code yX5_refusalOfEcho cX5_refusalOfEcho 3 (some .int)) 32 544 (fun x => some (.int x)) [.ref p0, .int p1, .int p2] s (pur s (m_X5_refusalOfEcho p0 p1 p2 s)) := by
  refine sat_of hl (by decide) (Nat.le_of_ble_eq_true rfl) (fun X V A adV hxl hC hE hx hr => ?_) pur_mono
  subst hxl
  show LX X V A 32 544 (nC s) (nS s) _ 0 [(0, .ref p0), (1, .int p1), (2, .int p2)] [] s _
  unfold m_X5_refusalOfEcho
  refine lx_aload_n hC dX5_refusalOfEcho_0 rfl 0 rfl ?_
  refine lx_iload_n hC dX5_refusalOfEcho_1 rfl 1 rfl ?_
  refine lq_call hC hx (sat_X6_hasRow (xl X) hl p0 p1 hp0 s) (run_V (as := [.int p1]) (rest := []) hC hE (th_o hp0) rfl cw_X6_hasRow ci_X6_hasRow wd338 cs_X6_hasRow ce_X6_hasRow cd_X6_hasRow (by decide) (by decide) (Nat.le_of_ble_eq_true rfl) dX5_refusalOfEcho_2 rfl) (fun v1 _ => ?_)
  refine lq_if_ne hC 10 dX5_refusalOfEcho_5 (by decide) ?_ ?_
  · skip
    refine lx_iload_n hC dX5_refusalOfEcho_10 rfl 2 rfl ?_
    refine lx_sipush (v := 999) hC dX5_refusalOfEcho_11 (by decide) ?_
    refine lq_call hC hx (sat_X5_within (xl X) hl p2 999 s) (run_S (as := [.int p2, .int 999]) (rest := []) hC hE cw_X5_within ci_X5_within wd329 cs_X5_within cd_X5_within (by decide) (by decide) (Nat.le_of_ble_eq_true rfl) dX5_refusalOfEcho_14 rfl) (fun v2 _ => ?_)
    refine lq_if_ne hC 22 dX5_refusalOfEcho_17 (by decide) ?_ ?_
    · skip
      refine lx_aload_n hC dX5_refusalOfEcho_22 rfl 0 rfl ?_
      refine lx_getR (q := p0 + 192) hC (th_o hp0) rfl 2 (by decide) rfl rfl inX6 wd79 dX5_refusalOfEcho_23 ?_
      refine lx_iload_n hC dX5_refusalOfEcho_26 rfl 1 rfl ?_
      refine lq_zaload hC (th_a2 hp0) dX5_refusalOfEcho_27 ?_
      refine lq_if_ne hC 52 dX5_refusalOfEcho_28 (by decide) ?_ ?_
      · skip
        refine lx_iconstv (v := 0) hC dX5_refusalOfEcho_52 rfl ?_
        refine lq_call hC hx (sat_X5_acceptedIf (xl X) hl 0 s) (run_S (as := [.int 0]) (rest := []) hC hE cw_X5_acceptedIf ci_X5_acceptedIf wd332 cs_X5_acceptedIf cd_X5_acceptedIf (by decide) (by decide) (Nat.le_of_ble_eq_true rfl) dX5_refusalOfEcho_53 rfl) (fun v3 _ => ?_)
        exact lx_iret hC rfl hr dX5_refusalOfEcho_56
      · skip
        refine lx_aload_n hC dX5_refusalOfEcho_31 rfl 0 rfl ?_
        refine lx_iload_n hC dX5_refusalOfEcho_32 rfl 1 rfl ?_
        refine lq_call hC hx (sat_X6_emptySeatsIn (xl X) hl p0 p1 hp0 s) (run_V (as := [.int p1]) (rest := []) hC hE (th_o hp0) rfl cw_X6_emptySeatsIn ci_X6_emptySeatsIn wd345 cs_X6_emptySeatsIn ce_X6_emptySeatsIn cd_X6_emptySeatsIn (by decide) (by decide) (Nat.le_of_ble_eq_true rfl) dX5_refusalOfEcho_33 rfl) (fun v4 _ => ?_)
        refine lq_if_le hC 52 dX5_refusalOfEcho_36 (by decide) ?_ ?_
        · skip
          refine lx_iconstv (v := 0) hC dX5_refusalOfEcho_52 rfl ?_
          refine lq_call hC hx (sat_X5_acceptedIf (xl X) hl 0 s) (run_S (as := [.int 0]) (rest := []) hC hE cw_X5_acceptedIf ci_X5_acceptedIf wd332 cs_X5_acceptedIf cd_X5_acceptedIf (by decide) (by decide) (Nat.le_of_ble_eq_true rfl) dX5_refusalOfEcho_53 rfl) (fun v5 _ => ?_)
          exact lx_iret hC rfl hr dX5_refusalOfEcho_56
        · skip
          refine lx_aload_n hC dX5_refusalOfEcho_39 rfl 0 rfl ?_
          refine lx_getI hC (th_o hp0) rfl 9 (by decide) rfl inX6 wd107 dX5_refusalOfEcho_40 ?_
          refine lx_bipush (v := 24) hC dX5_refusalOfEcho_43 (by decide) ?_
          refine lq_icmp_ge hC 52 dX5_refusalOfEcho_45 (by decide) ?_ ?_
          · skip
            refine lx_iconstv (v := 0) hC dX5_refusalOfEcho_52 rfl ?_
            refine lq_call hC hx (sat_X5_acceptedIf (xl X) hl 0 s) (run_S (as := [.int 0]) (rest := []) hC hE cw_X5_acceptedIf ci_X5_acceptedIf wd332 cs_X5_acceptedIf cd_X5_acceptedIf (by decide) (by decide) (Nat.le_of_ble_eq_true rfl) dX5_refusalOfEcho_53 rfl) (fun v6 _ => ?_)
            exact lx_iret hC rfl hr dX5_refusalOfEcho_56
          · skip
            refine lx_iconstv (v := 1) hC dX5_refusalOfEcho_48 rfl ?_
            refine lx_goto hC 53 dX5_refusalOfEcho_49 (by decide) ?_
            refine lq_call hC hx (sat_X5_acceptedIf (xl X) hl 1 s) (run_S (as := [.int 1]) (rest := []) hC hE cw_X5_acceptedIf ci_X5_acceptedIf wd332 cs_X5_acceptedIf cd_X5_acceptedIf (by decide) (by decide) (Nat.le_of_ble_eq_true rfl) dX5_refusalOfEcho_53 rfl) (fun v7 _ => ?_)
            exact lx_iret hC rfl hr dX5_refusalOfEcho_56
    · skip
      refine lx_iconstv (v := 3) hC dX5_refusalOfEcho_20 rfl ?_
      exact lx_iret hC rfl hr dX5_refusalOfEcho_21
  · skip
    refine lx_iconstv (v := 2) hC dX5_refusalOfEcho_8 rfl ?_
    exact lx_iret hC rfl hr dX5_refusalOfEcho_9
set_option maxRecDepth 100000 in
set_option maxHeartbeats 2000000 in
theorem l_X6_slotOf_b2 {X : Cx} {V : Vx} {A : Nat → Prop} {adV : Nat → Nat} {c0 s0 : Nat} (hC : Cok X V A yX6_slotOf.cls cX6_slotOf 3) (hE : Env0 V adV A (xs X) (xs X).heap) (hl : (xl X).stackTraces = false) (hx : ∀ x ∈ (xc X).exceptionTable.toList, False) (hr : (xh X).sig.returnType = some .int) (q1 : Nat) (x2 : Int32) (hq1 : isTh q1) (s : Mem) (kf2 : Int32 → Option Int32) (hk2 : ∀ a, LX X V A 30 500 c0 s0 (FM X V A (fun x => some (.int x))) 2 [(0, .ref q1), (1, .int x2), (2, .int a)] [] s (pur s (kf2 a))) (w2 : Int32) : LX X V A 30 500 c0 s0 (FM X V A (fun x => some (.int x))) 2 [(0, .ref q1), (1, .int x2), (2, .int w2)] [] s (pur s (m_X6_slotOf_b2 q1 x2 s kf2 w2 )) := by
  unfold m_X6_slotOf_b2
  refine lx_iload_n hC dX6_slotOf_2 rfl 2 rfl ?_
  refine lx_aload_n hC dX6_slotOf_3 rfl 0 rfl ?_
  refine lx_getI hC (th_o hq1) rfl 9 (by decide) rfl inX6 wd105 dX6_slotOf_4 ?_
  refine lq_icmp_ge hC 28 dX6_slotOf_7 (by decide) ?_ ?_
  · skip
    refine lx_iconstv (v := (-1)) hC dX6_slotOf_28 rfl ?_
    exact lx_iret hC rfl hr dX6_slotOf_29
  · skip
    refine lx_aload_n hC dX6_slotOf_10 rfl 0 rfl ?_
    refine lx_getR (q := q1 + 384) hC (th_o hq1) rfl 5 (by decide) rfl rfl inX6 wd90 dX6_slotOf_11 ?_
    refine lx_iload_n hC dX6_slotOf_14 rfl 2 rfl ?_
    refine lq_iaload hC (th_a5 hq1) dX6_slotOf_15 ?_
    refine lx_iload_n hC dX6_slotOf_16 rfl 1 rfl ?_
    refine lq_icmp_ne hC 22 dX6_slotOf_17 (by decide) ?_ ?_
    · skip
      refine lq_iincN (v := 1) hC dX6_slotOf_22 2 rfl (by decide) rfl (fun y3 => ?_)
      refine lx_goto hC 2 dX6_slotOf_25 (by decide) ?_
      exact lx_sub [1, 2, 0] rfl (hk2 y3)
    · skip
      refine lx_iload_n hC dX6_slotOf_20 rfl 2 rfl ?_
      exact lx_iret hC rfl hr dX6_slotOf_21
set_option maxRecDepth 100000 in
set_option maxHeartbeats 2000000 in
theorem sat_X6_slotOf (l : Launch) (hl : l.stackTraces = false) (t : Nat) (p0 : Int32) (ht : isTh t) (s : Mem) : Sat l yX6_slotOf (.code yX6_slotOf cX6_slotOf 3 (some .int)) 30 500 (fun x => some (.int x)) [.ref t, .int p0] s (pur s (m_X6_slotOf t p0 s)) := by
  refine sat_of hl (by decide) (Nat.le_of_ble_eq_true rfl) (fun X V A adV hxl hC hE hx hr => ?_) pur_mono
  subst hxl
  show LX X V A 30 500 (nC s) (nS s) _ 0 [(0, .ref t), (1, .int p0)] [] s _
  unfold m_X6_slotOf
  refine lx_iconstv (v := 0) hC dX6_slotOf_0 rfl ?_
  refine lx_istore_n hC dX6_slotOf_1 rfl (by decide) ?_
  refine lx_sub [1, 2, 0] rfl ?_
  exact lq_lp (lv := fun a => [(0, .ref t), (1, .int p0), (2, .int a)]) (st := fun _ => []) (fun kf hq a => l_X6_slotOf_b2 hC hE hl hx hr t p0 ht s kf hq a) FUEL 0
set_option maxRecDepth 100000 in
set_option maxHeartbeats 2000000 in
theorem sat_X5_refusalOfMove (l : Launch) (hl : l.stackTraces = false) (p0 : Nat) (p1 : Int32) (p2 : Int32) (hp0 : isTh p0) (s : Mem) : Sat l yX5_refusalOfMove (.code yX5_refusalOfMove cX5_refusalOfMove 5 (some .int)) 32 544 (fun x => some (.int x)) [.ref p0, .int p1, .int p2] s (pur s (m_X5_refusalOfMove p0 p1 p2 s)) := by
  refine sat_of hl (by decide) (Nat.le_of_ble_eq_true rfl) (fun X V A adV hxl hC hE hx hr => ?_) pur_mono
  subst hxl
  show LX X V A 32 544 (nC s) (nS s) _ 0 [(0, .ref p0), (1, .int p1), (2, .int p2)] [] s _
  unfold m_X5_refusalOfMove
  refine lx_aload_n hC dX5_refusalOfMove_0 rfl 0 rfl ?_
  refine lx_iload_n hC dX5_refusalOfMove_1 rfl 1 rfl ?_
  refine lq_call hC hx (sat_X6_slotOf (xl X) hl p0 p1 hp0 s) (run_V (as := [.int p1]) (rest := []) hC hE (th_o hp0) rfl cw_X6_slotOf ci_X6_slotOf wd359 cs_X6_slotOf ce_X6_slotOf cd_X6_slotOf (by decide) (by decide) (Nat.le_of_ble_eq_true rfl) dX5_refusalOfMove_2 rfl) (fun v1 _ => ?_)
  refine lx_istore_n hC dX5_refusalOfMove_5 rfl (by decide) ?_
  refine lx_iload_n hC dX5_refusalOfMove_6 rfl 0 rfl ?_
  refine lx_iconstv (v := (-1)) hC dX5_refusalOfMove_7 rfl ?_
  refine lq_icmp_ne hC 13 dX5_refusalOfMove_8 (by decide) ?_ ?_
  · skip
    refine lx_aload_n hC dX5_refusalOfMove_13 rfl 1 rfl ?_
    refine lx_iload_n hC dX5_refusalOfMove_14 rfl 3 rfl ?_
    refine lq_call hC hx (sat_X6_hasRow (xl X) hl p0 p2 hp0 s) (run_V (as := [.int p2]) (rest := []) hC hE (th_o hp0) rfl cw_X6_hasRow ci_X6_hasRow wd338 cs_X6_hasRow ce_X6_hasRow cd_X6_hasRow (by decide) (by decide) (Nat.le_of_ble_eq_true rfl) dX5_refusalOfMove_15 rfl) (fun v2 _ => ?_)
    refine lq_if_ne hC 23 dX5_refusalOfMove_18 (by decide) ?_ ?_
    · skip
      refine lx_aload_n hC dX5_refusalOfMove_23 rfl 1 rfl ?_
      refine lx_getR (q := p0 + 448) hC (th_o hp0) rfl 6 (by decide) rfl rfl inX6 wd95 dX5_refusalOfMove_24 ?_
      refine lx_iload_n hC dX5_refusalOfMove_27 rfl 0 rfl ?_
      refine lq_iaload hC (th_a6 hp0) dX5_refusalOfMove_28 ?_
      refine lq_istoreN hC dX5_refusalOfMove_29 (by decide) (fun y3 => ?_)
      refine lx_iload hC dX5_refusalOfMove_31 0 rfl ?_
      refine lx_iload_n hC dX5_refusalOfMove_33 rfl 4 rfl ?_
      refine lq_icmp_eq hC 68 dX5_refusalOfMove_34 (by decide) ?_ ?_
      · skip
        refine lx_iconstv (v := 0) hC dX5_refusalOfMove_68 rfl ?_
        refine lq_call hC hx (sat_X5_acceptedIf (xl X) hl 0 s) (run_S (as := [.int 0]) (rest := []) hC hE cw_X5_acceptedIf ci_X5_acceptedIf wd332 cs_X5_acceptedIf cd_X5_acceptedIf (by decide) (by decide) (Nat.le_of_ble_eq_true rfl) dX5_refusalOfMove_69 rfl) (fun v4 _ => ?_)
        exact lx_iret hC rfl hr dX5_refusalOfMove_72
      · skip
        refine lx_aload_n hC dX5_refusalOfMove_37 rfl 2 rfl ?_
        refine lx_getR (q := p0 + 192) hC (th_o hp0) rfl 2 (by decide) rfl rfl inX6 wd79 dX5_refusalOfMove_38 ?_
        refine lx_iload hC dX5_refusalOfMove_41 0 rfl ?_
        refine lq_zaload hC (th_a2 hp0) dX5_refusalOfMove_43 ?_
        refine lq_if_ne hC 68 dX5_refusalOfMove_44 (by decide) ?_ ?_
        · skip
          refine lx_iconstv (v := 0) hC dX5_refusalOfMove_68 rfl ?_
          refine lq_call hC hx (sat_X5_acceptedIf (xl X) hl 0 s) (run_S (as := [.int 0]) (rest := []) hC hE cw_X5_acceptedIf ci_X5_acceptedIf wd332 cs_X5_acceptedIf cd_X5_acceptedIf (by decide) (by decide) (Nat.le_of_ble_eq_true rfl) dX5_refusalOfMove_69 rfl) (fun v5 _ => ?_)
          exact lx_iret hC rfl hr dX5_refusalOfMove_72
        · skip
          refine lx_aload_n hC dX5_refusalOfMove_47 rfl 2 rfl ?_
          refine lx_getR (q := p0 + 192) hC (th_o hp0) rfl 2 (by decide) rfl rfl inX6 wd79 dX5_refusalOfMove_48 ?_
          refine lx_iload_n hC dX5_refusalOfMove_51 rfl 4 rfl ?_
          refine lq_zaload hC (th_a2 hp0) dX5_refusalOfMove_52 ?_
          refine lq_if_ne hC 68 dX5_refusalOfMove_53 (by decide) ?_ ?_
          · skip
            refine lx_iconstv (v := 0) hC dX5_refusalOfMove_68 rfl ?_
            refine lq_call hC hx (sat_X5_acceptedIf (xl X) hl 0 s) (run_S (as := [.int 0]) (rest := []) hC hE cw_X5_acceptedIf ci_X5_acceptedIf wd332 cs_X5_acceptedIf cd_X5_acceptedIf (by decide) (by decide) (Nat.le_of_ble_eq_true rfl) dX5_refusalOfMove_69 rfl) (fun v6 _ => ?_)
            exact lx_iret hC rfl hr dX5_refusalOfMove_72
          · skip
            refine lx_aload_n hC dX5_refusalOfMove_56 rfl 2 rfl ?_
            refine lx_iload_n hC dX5_refusalOfMove_57 rfl 4 rfl ?_
            refine lq_call hC hx (sat_X6_emptySeatsIn (xl X) hl p0 p2 hp0 s) (run_V (as := [.int p2]) (rest := []) hC hE (th_o hp0) rfl cw_X6_emptySeatsIn ci_X6_emptySeatsIn wd345 cs_X6_emptySeatsIn ce_X6_emptySeatsIn cd_X6_emptySeatsIn (by decide) (by decide) (Nat.le_of_ble_eq_true rfl) dX5_refusalOfMove_58 rfl) (fun v7 _ => ?_)
            refine lq_if_le hC 68 dX5_refusalOfMove_61 (by decide) ?_ ?_
            · skip
              refine lx_iconstv (v := 0) hC dX5_refusalOfMove_68 rfl ?_
              refine lq_call hC hx (sat_X5_acceptedIf (xl X) hl 0 s) (run_S (as := [.int 0]) (rest := []) hC hE cw_X5_acceptedIf ci_X5_acceptedIf wd332 cs_X5_acceptedIf cd_X5_acceptedIf (by decide) (by decide) (Nat.le_of_ble_eq_true rfl) dX5_refusalOfMove_69 rfl) (fun v8 _ => ?_)
              exact lx_iret hC rfl hr dX5_refusalOfMove_72
            · skip
              refine lx_iconstv (v := 1) hC dX5_refusalOfMove_64 rfl ?_
              refine lx_goto hC 69 dX5_refusalOfMove_65 (by decide) ?_
              refine lq_call hC hx (sat_X5_acceptedIf (xl X) hl 1 s) (run_S (as := [.int 1]) (rest := []) hC hE cw_X5_acceptedIf ci_X5_acceptedIf wd332 cs_X5_acceptedIf cd_X5_acceptedIf (by decide) (by decide) (Nat.le_of_ble_eq_true rfl) dX5_refusalOfMove_69 rfl) (fun v9 _ => ?_)
              exact lx_iret hC rfl hr dX5_refusalOfMove_72
    · skip
      refine lx_iconstv (v := 2) hC dX5_refusalOfMove_21 rfl ?_
      exact lx_iret hC rfl hr dX5_refusalOfMove_22
  · skip
    refine lx_iconstv (v := 1) hC dX5_refusalOfMove_11 rfl ?_
    exact lx_iret hC rfl hr dX5_refusalOfMove_12
set_option maxRecDepth 100000 in
set_option maxHeartbeats 2000000 in
theorem sat_X5_refusalOfRemoval (l : Launch) (hl : l.stackTraces = false) (p0 : Nat) (p1 : Int32) (hp0 : isTh p0) (s : Mem) : Sat l yX5_refusalOfRemoval (.code yX5_refusalOfRemoval cX5_refusalOfRemoval 3 (some .int)) 31 522 (fun x => some (.int x)) [.ref p0, .int p1] s (pur s (m_X5_refusalOfRemoval p0 p1 s)) := by
  refine sat_of hl (by decide) (Nat.le_of_ble_eq_true rfl) (fun X V A adV hxl hC hE hx hr => ?_) pur_mono
  subst hxl
  show LX X V A 31 522 (nC s) (nS s) _ 0 [(0, .ref p0), (1, .int p1)] [] s _
  unfold m_X5_refusalOfRemoval
  refine lx_aload_n hC dX5_refusalOfRemoval_0 rfl 0 rfl ?_
  refine lx_iload_n hC dX5_refusalOfRemoval_1 rfl 1 rfl ?_
  refine lq_call hC hx (sat_X6_slotOf (xl X) hl p0 p1 hp0 s) (run_V (as := [.int p1]) (rest := []) hC hE (th_o hp0) rfl cw_X6_slotOf ci_X6_slotOf wd359 cs_X6_slotOf ce_X6_slotOf cd_X6_slotOf (by decide) (by decide) (Nat.le_of_ble_eq_true rfl) dX5_refusalOfRemoval_2 rfl) (fun v1 _ => ?_)
  refine lx_istore_n hC dX5_refusalOfRemoval_5 rfl (by decide) ?_
  refine lx_iload_n hC dX5_refusalOfRemoval_6 rfl 0 rfl ?_
  refine lx_iconstv (v := (-1)) hC dX5_refusalOfRemoval_7 rfl ?_
  refine lq_icmp_ne hC 13 dX5_refusalOfRemoval_8 (by decide) ?_ ?_
  · skip
    refine lx_aload_n hC dX5_refusalOfRemoval_13 rfl 1 rfl ?_
    refine lx_getR (q := p0 + 192) hC (th_o hp0) rfl 2 (by decide) rfl rfl inX6 wd79 dX5_refusalOfRemoval_14 ?_
    refine lx_aload_n hC dX5_refusalOfRemoval_17 rfl 1 rfl ?_
    refine lx_getR (q := p0 + 448) hC (th_o hp0) rfl 6 (by decide) rfl rfl inX6 wd95 dX5_refusalOfRemoval_18 ?_
    refine lx_iload_n hC dX5_refusalOfRemoval_21 rfl 0 rfl ?_
    refine lq_iaload hC (th_a6 hp0) dX5_refusalOfRemoval_22 ?_
    refine lq_zaload hC (th_a2 hp0) dX5_refusalOfRemoval_23 ?_
    refine lq_if_ne hC 31 dX5_refusalOfRemoval_24 (by decide) ?_ ?_
    · skip
      refine lx_iconstv (v := 0) hC dX5_refusalOfRemoval_31 rfl ?_
      refine lq_call hC hx (sat_X5_acceptedIf (xl X) hl 0 s) (run_S (as := [.int 0]) (rest := []) hC hE cw_X5_acceptedIf ci_X5_acceptedIf wd332 cs_X5_acceptedIf cd_X5_acceptedIf (by decide) (by decide) (Nat.le_of_ble_eq_true rfl) dX5_refusalOfRemoval_32 rfl) (fun v2 _ => ?_)
      exact lx_iret hC rfl hr dX5_refusalOfRemoval_35
    · skip
      refine lx_iconstv (v := 1) hC dX5_refusalOfRemoval_27 rfl ?_
      refine lx_goto hC 32 dX5_refusalOfRemoval_28 (by decide) ?_
      refine lq_call hC hx (sat_X5_acceptedIf (xl X) hl 1 s) (run_S (as := [.int 1]) (rest := []) hC hE cw_X5_acceptedIf ci_X5_acceptedIf wd332 cs_X5_acceptedIf cd_X5_acceptedIf (by decide) (by decide) (Nat.le_of_ble_eq_true rfl) dX5_refusalOfRemoval_32 rfl) (fun v3 _ => ?_)
      exact lx_iret hC rfl hr dX5_refusalOfRemoval_35
  · skip
    refine lx_iconstv (v := 1) hC dX5_refusalOfRemoval_11 rfl ?_
    exact lx_iret hC rfl hr dX5_refusalOfRemoval_12
set_option maxRecDepth 100000 in
set_option maxHeartbeats 2000000 in
theorem sat_X6_heirSlotOf (l : Launch) (hl : l.stackTraces = false) (t : Nat) (p0 : Int32) (ht : isTh t) (s : Mem) : Sat l yX6_heirSlotOf (.code yX6_heirSlotOf cX6_heirSlotOf 2 (some .int)) 31 522 (fun x => some (.int x)) [.ref t, .int p0] s (pur s (m_X6_heirSlotOf t p0 s)) := by
  refine sat_of hl (by decide) (Nat.le_of_ble_eq_true rfl) (fun X V A adV hxl hC hE hx hr => ?_) pur_mono
  subst hxl
  show LX X V A 31 522 (nC s) (nS s) _ 0 [(0, .ref t), (1, .int p0)] [] s _
  unfold m_X6_heirSlotOf
  refine lx_aload_n hC dX6_heirSlotOf_0 rfl 0 rfl ?_
  refine lx_getR (q := t + 576) hC (th_o ht) rfl 8 (by decide) rfl rfl inX6 wd100 dX6_heirSlotOf_1 ?_
  refine lx_iload_n hC dX6_heirSlotOf_4 rfl 1 rfl ?_
  refine lq_iaload hC (th_a8 ht) dX6_heirSlotOf_5 ?_
  refine lx_iconstv (v := (-1)) hC dX6_heirSlotOf_6 rfl ?_
  refine lq_icmp_ne hC 14 dX6_heirSlotOf_7 (by decide) ?_ ?_
  · skip
    refine lx_aload_n hC dX6_heirSlotOf_14 rfl 0 rfl ?_
    refine lx_aload_n hC dX6_heirSlotOf_15 rfl 0 rfl ?_
    refine lx_getR (q := t + 576) hC (th_o ht) rfl 8 (by decide) rfl rfl inX6 wd100 dX6_heirSlotOf_16 ?_
    refine lx_iload_n hC dX6_heirSlotOf_19 rfl 1 rfl ?_
    refine lq_iaload hC (th_a8 ht) dX6_heirSlotOf_20 ?_
    refine lq_call hC hx (sat_X6_slotOf (xl X) hl t (gI s (t + 576) p0.toNatClampNeg) ht s) (run_V (as := [.int (gI s (t + 576) p0.toNatClampNeg)]) (rest := []) hC hE (th_o ht) rfl cw_X6_slotOf ci_X6_slotOf wd377 cs_X6_slotOf ce_X6_slotOf cd_X6_slotOf (by decide) (by decide) (Nat.le_of_ble_eq_true rfl) dX6_heirSlotOf_21 rfl) (fun v1 _ => ?_)
    exact lx_iret hC rfl hr dX6_heirSlotOf_24
  · skip
    refine lx_iconstv (v := (-1)) hC dX6_heirSlotOf_10 rfl ?_
    refine lx_goto hC 24 dX6_heirSlotOf_11 (by decide) ?_
    exact lx_iret hC rfl hr dX6_heirSlotOf_24
set_option maxRecDepth 100000 in
set_option maxHeartbeats 2000000 in
theorem l_X6_chainPasses_b5 {X : Cx} {V : Vx} {A : Nat → Prop} {adV : Nat → Nat} {c0 s0 : Nat} (hC : Cok X V A yX6_chainPasses.cls cX6_chainPasses 5) (hE : Env0 V adV A (xs X) (xs X).heap) (hl : (xl X).stackTraces = false) (hx : ∀ x ∈ (xc X).exceptionTable.toList, False) (hr : (xh X).sig.returnType = some .boolean) (q1 : Nat) (x2 : Int32) (hq1 : isTh q1) (s : Mem) (kf5 : (Int32 × Int32) → Option Int32) (hk5 : ∀ a, LX X V A 32 543 c0 s0 (FM X V A (fun x => some (.int x))) 5 [(0, .ref q1), (2, .int x2), (3, .int a.1), (4, .int a.2)] [] s (pur s (kf5 a))) (w3 : Int32) (w4 : Int32) : LX X V A 32 543 c0 s0 (FM X V A (fun x => some (.int x))) 5 [(0, .ref q1), (2, .int x2), (3, .int w3), (4, .int w4)] [] s (pur s (m_X6_chainPasses_b5 q1 x2 s kf5 w3 w4 )) := by
  unfold m_X6_chainPasses_b5
  refine lx_iload hC dX6_chainPasses_5 3 rfl ?_
  refine lx_bipush (v := 24) hC dX6_chainPasses_7 (by decide) ?_
  refine lq_icmp_ge hC 36 dX6_chainPasses_9 (by decide) ?_ ?_
  · skip
    refine lx_iconstv (v := 0) hC dX6_chainPasses_36 rfl ?_
    exact lx_zret hC rfl hr rfl dX6_chainPasses_37
  · skip
    refine lx_iload_n hC dX6_chainPasses_12 rfl 2 rfl ?_
    refine lx_iconstv (v := (-1)) hC dX6_chainPasses_13 rfl ?_
    refine lq_icmp_eq hC 36 dX6_chainPasses_14 (by decide) ?_ ?_
    · skip
      refine lx_iconstv (v := 0) hC dX6_chainPasses_36 rfl ?_
      exact lx_zret hC rfl hr rfl dX6_chainPasses_37
    · skip
      refine lx_iload_n hC dX6_chainPasses_17 rfl 2 rfl ?_
      refine lx_iload_n hC dX6_chainPasses_18 rfl 1 rfl ?_
      refine lq_icmp_ne hC 24 dX6_chainPasses_19 (by decide) ?_ ?_
      · skip
        refine lx_aload_n hC dX6_chainPasses_24 rfl 0 rfl ?_
        refine lx_iload_n hC dX6_chainPasses_25 rfl 2 rfl ?_
        refine lq_call hC hx (sat_X6_heirSlotOf (xl X) hl q1 w3 hq1 s) (run_V (as := [.int w3]) (rest := []) hC hE (th_o hq1) rfl cw_X6_heirSlotOf ci_X6_heirSlotOf wd373 cs_X6_heirSlotOf ce_X6_heirSlotOf cd_X6_heirSlotOf (by decide) (by decide) (Nat.le_of_ble_eq_true rfl) dX6_chainPasses_26 rfl) (fun v3 _ => ?_)
        refine lx_istore_n hC dX6_chainPasses_29 rfl (by decide) ?_
        refine lq_iincN (v := 1) hC dX6_chainPasses_30 3 rfl (by decide) rfl (fun y4 => ?_)
        refine lx_goto hC 5 dX6_chainPasses_33 (by decide) ?_
        exact lx_sub [2, 3, 1, 0] rfl (hk5 (v3, y4))
      · skip
        refine lx_iconstv (v := 1) hC dX6_chainPasses_22 rfl ?_
        exact lx_zret hC rfl hr rfl dX6_chainPasses_23
set_option maxRecDepth 100000 in
set_option maxHeartbeats 2000000 in
theorem sat_X6_chainPasses (l : Launch) (hl : l.stackTraces = false) (t : Nat) (p0 : Int32) (p1 : Int32) (ht : isTh t) (s : Mem) : Sat l yX6_chainPasses (.code yX6_chainPasses cX6_chainPasses 5 (some .boolean)) 32 543 (fun x => some (.int x)) [.ref t, .int p0, .int p1] s (pur s (m_X6_chainPasses t p0 p1 s)) := by
  refine sat_of hl (by decide) (Nat.le_of_ble_eq_true rfl) (fun X V A adV hxl hC hE hx hr => ?_) pur_mono
  subst hxl
  show LX X V A 32 543 (nC s) (nS s) _ 0 [(0, .ref t), (1, .int p0), (2, .int p1)] [] s _
  unfold m_X6_chainPasses
  refine lx_iload_n hC dX6_chainPasses_0 rfl 1 rfl ?_
  refine lx_istore_n hC dX6_chainPasses_1 rfl (by decide) ?_
  refine lx_iconstv (v := 0) hC dX6_chainPasses_2 rfl ?_
  refine lx_istore hC dX6_chainPasses_3 (by decide) ?_
  refine lx_sub [2, 4, 1, 0] rfl ?_
  exact lq_lp (lv := fun a => [(0, .ref t), (2, .int p1), (3, .int a.1), (4, .int a.2)]) (st := fun _ => []) (fun kf hq a => l_X6_chainPasses_b5 hC hE hl hx hr t p1 ht s kf hq a.1 a.2) FUEL (p0, 0)
set_option maxRecDepth 100000 in
set_option maxHeartbeats 2000000 in
theorem sat_X5_refusalOfHeir (l : Launch) (hl : l.stackTraces = false) (p0 : Nat) (p1 : Int32) (p2 : Int32) (hp0 : isTh p0) (s : Mem) : Sat l yX5_refusalOfHeir (.code yX5_refusalOfHeir cX5_refusalOfHeir 5 (some .int)) 33 567 (fun x => some (.int x)) [.ref p0, .int p1, .int p2] s (pur s (m_X5_refusalOfHeir p0 p1 p2 s)) := by
  refine sat_of hl (by decide) (Nat.le_of_ble_eq_true rfl) (fun X V A adV hxl hC hE hx hr => ?_) pur_mono
  subst hxl
  show LX X V A 33 567 (nC s) (nS s) _ 0 [(0, .ref p0), (1, .int p1), (2, .int p2)] [] s _
  unfold m_X5_refusalOfHeir
  refine lx_aload_n hC dX5_refusalOfHeir_0 rfl 0 rfl ?_
  refine lx_iload_n hC dX5_refusalOfHeir_1 rfl 1 rfl ?_
  refine lq_call hC hx (sat_X6_slotOf (xl X) hl p0 p1 hp0 s) (run_V (as := [.int p1]) (rest := []) hC hE (th_o hp0) rfl cw_X6_slotOf ci_X6_slotOf wd359 cs_X6_slotOf ce_X6_slotOf cd_X6_slotOf (by decide) (by decide) (Nat.le_of_ble_eq_true rfl) dX5_refusalOfHeir_2 rfl) (fun v1 _ => ?_)
  refine lx_istore_n hC dX5_refusalOfHeir_5 rfl (by decide) ?_
  refine lx_aload_n hC dX5_refusalOfHeir_6 rfl 1 rfl ?_
  refine lx_iload_n hC dX5_refusalOfHeir_7 rfl 3 rfl ?_
  refine lq_call hC hx (sat_X6_slotOf (xl X) hl p0 p2 hp0 s) (run_V (as := [.int p2]) (rest := []) hC hE (th_o hp0) rfl cw_X6_slotOf ci_X6_slotOf wd359 cs_X6_slotOf ce_X6_slotOf cd_X6_slotOf (by decide) (by decide) (Nat.le_of_ble_eq_true rfl) dX5_refusalOfHeir_8 rfl) (fun v2 _ => ?_)
  refine lx_istore hC dX5_refusalOfHeir_11 (by decide) ?_
  refine lx_iload_n hC dX5_refusalOfHeir_13 rfl 1 rfl ?_
  refine lx_iconstv (v := (-1)) hC dX5_refusalOfHeir_14 rfl ?_
  refine lq_icmp_eq hC 24 dX5_refusalOfHeir_15 (by decide) ?_ ?_
  · skip
    refine lx_iconstv (v := 1) hC dX5_refusalOfHeir_24 rfl ?_
    exact lx_iret hC rfl hr dX5_refusalOfHeir_25
  · skip
    refine lx_iload hC dX5_refusalOfHeir_18 0 rfl ?_
    refine lx_iconstv (v := (-1)) hC dX5_refusalOfHeir_20 rfl ?_
    refine lq_icmp_ne hC 26 dX5_refusalOfHeir_21 (by decide) ?_ ?_
    · skip
      refine lx_iload_n hC dX5_refusalOfHeir_26 rfl 1 rfl ?_
      refine lx_iload hC dX5_refusalOfHeir_27 0 rfl ?_
      refine lq_icmp_ne hC 34 dX5_refusalOfHeir_29 (by decide) ?_ ?_
      · skip
        refine lx_aload_n hC dX5_refusalOfHeir_34 rfl 2 rfl ?_
        refine lx_iload hC dX5_refusalOfHeir_35 0 rfl ?_
        refine lx_iload_n hC dX5_refusalOfHeir_37 rfl 1 rfl ?_
        refine lq_call hC hx (sat_X6_chainPasses (xl X) hl p0 v2 v1 hp0 s) (run_V (as := [.int v2, .int v1]) (rest := []) hC hE (th_o hp0) rfl cw_X6_chainPasses ci_X6_chainPasses wd369 cs_X6_chainPasses ce_X6_chainPasses cd_X6_chainPasses (by decide) (by decide) (Nat.le_of_ble_eq_true rfl) dX5_refusalOfHeir_38 rfl) (fun v3 _ => ?_)
        refine lq_if_ne hC 48 dX5_refusalOfHeir_41 (by decide) ?_ ?_
        · skip
          refine lx_iconstv (v := 0) hC dX5_refusalOfHeir_48 rfl ?_
          refine lq_call hC hx (sat_X5_acceptedIf (xl X) hl 0 s) (run_S (as := [.int 0]) (rest := []) hC hE cw_X5_acceptedIf ci_X5_acceptedIf wd332 cs_X5_acceptedIf cd_X5_acceptedIf (by decide) (by decide) (Nat.le_of_ble_eq_true rfl) dX5_refusalOfHeir_49 rfl) (fun v4 _ => ?_)
          exact lx_iret hC rfl hr dX5_refusalOfHeir_52
        · skip
          refine lx_iconstv (v := 1) hC dX5_refusalOfHeir_44 rfl ?_
          refine lx_goto hC 49 dX5_refusalOfHeir_45 (by decide) ?_
          refine lq_call hC hx (sat_X5_acceptedIf (xl X) hl 1 s) (run_S (as := [.int 1]) (rest := []) hC hE cw_X5_acceptedIf ci_X5_acceptedIf wd332 cs_X5_acceptedIf cd_X5_acceptedIf (by decide) (by decide) (Nat.le_of_ble_eq_true rfl) dX5_refusalOfHeir_49 rfl) (fun v5 _ => ?_)
          exact lx_iret hC rfl hr dX5_refusalOfHeir_52
      · skip
        refine lx_iconstv (v := 3) hC dX5_refusalOfHeir_32 rfl ?_
        exact lx_iret hC rfl hr dX5_refusalOfHeir_33
    · skip
      refine lx_iconstv (v := 1) hC dX5_refusalOfHeir_24 rfl ?_
      exact lx_iret hC rfl hr dX5_refusalOfHeir_25
set_option maxRecDepth 100000 in
set_option maxHeartbeats 2000000 in
theorem sat_X5_refusalOfDisowning (l : Launch) (hl : l.stackTraces = false) (p0 : Nat) (p1 : Int32) (hp0 : isTh p0) (s : Mem) : Sat l yX5_refusalOfDisowning (.code yX5_refusalOfDisowning cX5_refusalOfDisowning 3 (some .int)) 31 522 (fun x => some (.int x)) [.ref p0, .int p1] s (pur s (m_X5_refusalOfDisowning p0 p1 s)) := by
  refine sat_of hl (by decide) (Nat.le_of_ble_eq_true rfl) (fun X V A adV hxl hC hE hx hr => ?_) pur_mono
  subst hxl
  show LX X V A 31 522 (nC s) (nS s) _ 0 [(0, .ref p0), (1, .int p1)] [] s _
  unfold m_X5_refusalOfDisowning
  refine lx_aload_n hC dX5_refusalOfDisowning_0 rfl 0 rfl ?_
  refine lx_iload_n hC dX5_refusalOfDisowning_1 rfl 1 rfl ?_
  refine lq_call hC hx (sat_X6_slotOf (xl X) hl p0 p1 hp0 s) (run_V (as := [.int p1]) (rest := []) hC hE (th_o hp0) rfl cw_X6_slotOf ci_X6_slotOf wd359 cs_X6_slotOf ce_X6_slotOf cd_X6_slotOf (by decide) (by decide) (Nat.le_of_ble_eq_true rfl) dX5_refusalOfDisowning_2 rfl) (fun v1 _ => ?_)
  refine lx_istore_n hC dX5_refusalOfDisowning_5 rfl (by decide) ?_
  refine lx_iload_n hC dX5_refusalOfDisowning_6 rfl 0 rfl ?_
  refine lx_iconstv (v := (-1)) hC dX5_refusalOfDisowning_7 rfl ?_
  refine lq_icmp_ne hC 13 dX5_refusalOfDisowning_8 (by decide) ?_ ?_
  · skip
    refine lx_aload_n hC dX5_refusalOfDisowning_13 rfl 1 rfl ?_
    refine lx_getR (q := p0 + 576) hC (th_o hp0) rfl 8 (by decide) rfl rfl inX6 wd102 dX5_refusalOfDisowning_14 ?_
    refine lx_iload_n hC dX5_refusalOfDisowning_17 rfl 0 rfl ?_
    refine lq_iaload hC (th_a8 hp0) dX5_refusalOfDisowning_18 ?_
    refine lx_iconstv (v := (-1)) hC dX5_refusalOfDisowning_19 rfl ?_
    refine lq_icmp_eq hC 27 dX5_refusalOfDisowning_20 (by decide) ?_ ?_
    · skip
      refine lx_iconstv (v := 0) hC dX5_refusalOfDisowning_27 rfl ?_
      refine lq_call hC hx (sat_X5_acceptedIf (xl X) hl 0 s) (run_S (as := [.int 0]) (rest := []) hC hE cw_X5_acceptedIf ci_X5_acceptedIf wd332 cs_X5_acceptedIf cd_X5_acceptedIf (by decide) (by decide) (Nat.le_of_ble_eq_true rfl) dX5_refusalOfDisowning_28 rfl) (fun v2 _ => ?_)
      exact lx_iret hC rfl hr dX5_refusalOfDisowning_31
    · skip
      refine lx_iconstv (v := 1) hC dX5_refusalOfDisowning_23 rfl ?_
      refine lx_goto hC 28 dX5_refusalOfDisowning_24 (by decide) ?_
      refine lq_call hC hx (sat_X5_acceptedIf (xl X) hl 1 s) (run_S (as := [.int 1]) (rest := []) hC hE cw_X5_acceptedIf ci_X5_acceptedIf wd332 cs_X5_acceptedIf cd_X5_acceptedIf (by decide) (by decide) (Nat.le_of_ble_eq_true rfl) dX5_refusalOfDisowning_28 rfl) (fun v3 _ => ?_)
      exact lx_iret hC rfl hr dX5_refusalOfDisowning_31
  · skip
    refine lx_iconstv (v := 1) hC dX5_refusalOfDisowning_11 rfl ?_
    exact lx_iret hC rfl hr dX5_refusalOfDisowning_12
set_option maxRecDepth 100000 in
set_option maxHeartbeats 2000000 in
theorem sat_X5_refusalUnlessLockIs (l : Launch) (hl : l.stackTraces = false) (p0 : Nat) (p1 : Int32) (p2 : Int32) (hp0 : isTh p0) (s : Mem) : Sat l yX5_refusalUnlessLockIs (.code yX5_refusalUnlessLockIs cX5_refusalUnlessLockIs 3 (some .int)) 31 521 (fun x => some (.int x)) [.ref p0, .int p1, .int p2] s (pur s (m_X5_refusalUnlessLockIs p0 p1 p2 s)) := by
  refine sat_of hl (by decide) (Nat.le_of_ble_eq_true rfl) (fun X V A adV hxl hC hE hx hr => ?_) pur_mono
  subst hxl
  show LX X V A 31 521 (nC s) (nS s) _ 0 [(0, .ref p0), (1, .int p1), (2, .int p2)] [] s _
  unfold m_X5_refusalUnlessLockIs
  refine lx_aload_n hC dX5_refusalUnlessLockIs_0 rfl 0 rfl ?_
  refine lx_iload_n hC dX5_refusalUnlessLockIs_1 rfl 1 rfl ?_
  refine lq_call hC hx (sat_X6_hasRow (xl X) hl p0 p1 hp0 s) (run_V (as := [.int p1]) (rest := []) hC hE (th_o hp0) rfl cw_X6_hasRow ci_X6_hasRow wd338 cs_X6_hasRow ce_X6_hasRow cd_X6_hasRow (by decide) (by decide) (Nat.le_of_ble_eq_true rfl) dX5_refusalUnlessLockIs_2 rfl) (fun v1 _ => ?_)
  refine lq_if_ne hC 10 dX5_refusalUnlessLockIs_5 (by decide) ?_ ?_
  · skip
    refine lx_aload_n hC dX5_refusalUnlessLockIs_10 rfl 0 rfl ?_
    refine lx_getR (q := p0 + 192) hC (th_o hp0) rfl 2 (by decide) rfl rfl inX6 wd79 dX5_refusalUnlessLockIs_11 ?_
    refine lx_iload_n hC dX5_refusalUnlessLockIs_14 rfl 1 rfl ?_
    refine lq_zaload hC (th_a2 hp0) dX5_refusalUnlessLockIs_15 ?_
    refine lx_iload_n hC dX5_refusalUnlessLockIs_16 rfl 2 rfl ?_
    refine lq_icmp_ne hC 24 dX5_refusalUnlessLockIs_17 (by decide) ?_ ?_
    · skip
      refine lx_iconstv (v := 0) hC dX5_refusalUnlessLockIs_24 rfl ?_
      refine lq_call hC hx (sat_X5_acceptedIf (xl X) hl 0 s) (run_S (as := [.int 0]) (rest := []) hC hE cw_X5_acceptedIf ci_X5_acceptedIf wd332 cs_X5_acceptedIf cd_X5_acceptedIf (by decide) (by decide) (Nat.le_of_ble_eq_true rfl) dX5_refusalUnlessLockIs_25 rfl) (fun v2 _ => ?_)
      exact lx_iret hC rfl hr dX5_refusalUnlessLockIs_28
    · skip
      refine lx_iconstv (v := 1) hC dX5_refusalUnlessLockIs_20 rfl ?_
      refine lx_goto hC 25 dX5_refusalUnlessLockIs_21 (by decide) ?_
      refine lq_call hC hx (sat_X5_acceptedIf (xl X) hl 1 s) (run_S (as := [.int 1]) (rest := []) hC hE cw_X5_acceptedIf ci_X5_acceptedIf wd332 cs_X5_acceptedIf cd_X5_acceptedIf (by decide) (by decide) (Nat.le_of_ble_eq_true rfl) dX5_refusalUnlessLockIs_25 rfl) (fun v3 _ => ?_)
      exact lx_iret hC rfl hr dX5_refusalUnlessLockIs_28
  · skip
    refine lx_iconstv (v := 2) hC dX5_refusalUnlessLockIs_8 rfl ?_
    exact lx_iret hC rfl hr dX5_refusalUnlessLockIs_9
set_option maxRecDepth 100000 in
set_option maxHeartbeats 2000000 in
theorem sat_X6_isBoxName (l : Launch) (hl : l.stackTraces = false) (p0 : Int32) (s : Mem) : Sat l yX6_isBoxName (.code yX6_isBoxName cX6_isBoxName 1 (some .boolean)) 30 500 (fun x => some (.int x)) [.int p0] s (pur s (m_X6_isBoxName p0 s)) := by
  refine sat_of hl (by decide) (Nat.le_of_ble_eq_true rfl) (fun X V A adV hxl hC hE hx hr => ?_) pur_mono
  subst hxl
  show LX X V A 30 500 (nC s) (nS s) _ 0 [(0, .int p0)] [] s _
  unfold m_X6_isBoxName
  refine lx_iload_n hC dX6_isBoxName_0 rfl 0 rfl ?_
  refine lx_bipush (v := 97) hC dX6_isBoxName_1 (by decide) ?_
  refine lq_icmp_lt hC 16 dX6_isBoxName_3 (by decide) ?_ ?_
  · skip
    refine lx_iconstv (v := 0) hC dX6_isBoxName_16 rfl ?_
    exact lx_zret hC rfl hr rfl dX6_isBoxName_17
  · skip
    refine lx_iload_n hC dX6_isBoxName_6 rfl 0 rfl ?_
    refine lx_bipush (v := 105) hC dX6_isBoxName_7 (by decide) ?_
    refine lq_icmp_ge hC 16 dX6_isBoxName_9 (by decide) ?_ ?_
    · skip
      refine lx_iconstv (v := 0) hC dX6_isBoxName_16 rfl ?_
      exact lx_zret hC rfl hr rfl dX6_isBoxName_17
    · skip
      refine lx_iconstv (v := 1) hC dX6_isBoxName_12 rfl ?_
      refine lx_goto hC 17 dX6_isBoxName_13 (by decide) ?_
      exact lx_zret hC rfl hr rfl dX6_isBoxName_17
set_option maxRecDepth 100000 in
set_option maxHeartbeats 2000000 in
theorem sat_X5_refusalOfNaming (l : Launch) (hl : l.stackTraces = false) (p0 : Nat) (p1 : Int32) (p2 : Int32) (hp0 : isTh p0) (s : Mem) : Sat l yX5_refusalOfNaming (.code yX5_refusalOfNaming cX5_refusalOfNaming 3 (some .int)) 31 521 (fun x => some (.int x)) [.ref p0, .int p1, .int p2] s (pur s (m_X5_refusalOfNaming p0 p1 p2 s)) := by
  refine sat_of hl (by decide) (Nat.le_of_ble_eq_true rfl) (fun X V A adV hxl hC hE hx hr => ?_) pur_mono
  subst hxl
  show LX X V A 31 521 (nC s) (nS s) _ 0 [(0, .ref p0), (1, .int p1), (2, .int p2)] [] s _
  unfold m_X5_refusalOfNaming
  refine lx_iload_n hC dX5_refusalOfNaming_0 rfl 1 rfl ?_
  refine lq_call hC hx (sat_X6_isBoxName (xl X) hl p1 s) (run_S (as := [.int p1]) (rest := []) hC hE cw_X6_isBoxName ci_X6_isBoxName wd387 cs_X6_isBoxName cd_X6_isBoxName (by decide) (by decide) (Nat.le_of_ble_eq_true rfl) dX5_refusalOfNaming_1 rfl) (fun v1 _ => ?_)
  refine lq_if_ne hC 9 dX5_refusalOfNaming_4 (by decide) ?_ ?_
  · skip
    refine lx_aload_n hC dX5_refusalOfNaming_9 rfl 0 rfl ?_
    refine lx_iload_n hC dX5_refusalOfNaming_10 rfl 2 rfl ?_
    refine lq_call hC hx (sat_X6_hasRow (xl X) hl p0 p2 hp0 s) (run_V (as := [.int p2]) (rest := []) hC hE (th_o hp0) rfl cw_X6_hasRow ci_X6_hasRow wd338 cs_X6_hasRow ce_X6_hasRow cd_X6_hasRow (by decide) (by decide) (Nat.le_of_ble_eq_true rfl) dX5_refusalOfNaming_11 rfl) (fun v2 _ => ?_)
    refine lq_if_eq hC 21 dX5_refusalOfNaming_14 (by decide) ?_ ?_
    · skip
      refine lx_iconstv (v := 2) hC dX5_refusalOfNaming_21 rfl ?_
      exact lx_iret hC rfl hr dX5_refusalOfNaming_22
    · skip
      refine lx_iconstv (v := 0) hC dX5_refusalOfNaming_17 rfl ?_
      refine lx_goto hC 22 dX5_refusalOfNaming_18 (by decide) ?_
      exact lx_iret hC rfl hr dX5_refusalOfNaming_22
  · skip
    refine lx_iconstv (v := 3) hC dX5_refusalOfNaming_7 rfl ?_
    exact lx_iret hC rfl hr dX5_refusalOfNaming_8
set_option maxRecDepth 100000 in
set_option maxHeartbeats 2000000 in
theorem sat_X5_refusal (l : Launch) (hl : l.stackTraces = false) (p0 : Nat) (p1 : Int32) (p2 : Int32) (p3 : Int32) (hp0 : isTh p0) (s : Mem) : Sat l yX5_refusal (.code yX5_refusal cX5_refusal 4 (some .int)) 34 591 (fun x => some (.int x)) [.ref p0, .int p1, .int p2, .int p3] s (pur s (m_X5_refusal p0 p1 p2 p3 s)) := by
  refine sat_of hl (by decide) (Nat.le_of_ble_eq_true rfl) (fun X V A adV hxl hC hE hx hr => ?_) pur_mono
  subst hxl
  show LX X V A 34 591 (nC s) (nS s) _ 0 [(0, .ref p0), (1, .int p1), (2, .int p2), (3, .int p3)] [] s _
  unfold m_X5_refusal
  refine lx_iload_n hC dX5_refusal_0 rfl 1 rfl ?_
  refine lq_case (fun h1 => ?_) (fun h1 => ?_)
  · refine lx_tin hC 60 h1 dX5_refusal_1 (by decide) (by decide) rfl (by decide) ?_
    refine lx_aload_n hC dX5_refusal_60 rfl 0 rfl ?_
    refine lx_iload_n hC dX5_refusal_61 rfl 2 rfl ?_
    refine lq_call hC hx (sat_X5_refusalOfRow (xl X) hl p0 p2 hp0 s) (run_S (as := [.ref p0, .int p2]) (rest := []) hC hE cw_X5_refusalOfRow ci_X5_refusalOfRow wd326 cs_X5_refusalOfRow cd_X5_refusalOfRow (by decide) (by decide) (Nat.le_of_ble_eq_true rfl) dX5_refusal_62 rfl) (fun v2 _ => ?_)
    exact lx_iret hC rfl hr dX5_refusal_65
  · skip
    refine lq_case (fun h3 => ?_) (fun h3 => ?_)
    · refine lx_tin hC 66 h3 dX5_refusal_1 (by decide) (by decide) rfl (by decide) ?_
      refine lx_aload_n hC dX5_refusal_66 rfl 0 rfl ?_
      refine lx_iload_n hC dX5_refusal_67 rfl 2 rfl ?_
      refine lx_iload_n hC dX5_refusal_68 rfl 3 rfl ?_
      refine lq_call hC hx (sat_X5_refusalOfPhantoms (xl X) hl p0 p2 p3 hp0 s) (run_S (as := [.ref p0, .int p2, .int p3]) (rest := []) hC hE cw_X5_refusalOfPhantoms ci_X5_refusalOfPhantoms wd335 cs_X5_refusalOfPhantoms cd_X5_refusalOfPhantoms (by decide) (by decide) (Nat.le_of_ble_eq_true rfl) dX5_refusal_69 rfl) (fun v4 _ => ?_)
      exact lx_iret hC rfl hr dX5_refusal_72
    · skip
      refine lq_case (fun h5 => ?_) (fun h5 => ?_)
      · refine lx_tin hC 73 h5 dX5_refusal_1 (by decide) (by decide) rfl (by decide) ?_
        refine lx_aload_n hC dX5_refusal_73 rfl 0 rfl ?_
        refine lx_iload_n hC dX5_refusal_74 rfl 2 rfl ?_
        refine lx_iload_n hC dX5_refusal_75 rfl 3 rfl ?_
        refine lq_call hC hx (sat_X5_refusalOfDismissal (xl X) hl p0 p2 p3 hp0 s) (run_S (as := [.ref p0, .int p2, .int p3]) (rest := []) hC hE cw_X5_refusalOfDismissal ci_X5_refusalOfDismissal wd342 cs_X5_refusalOfDismissal cd_X5_refusalOfDismissal (by decide) (by decide) (Nat.le_of_ble_eq_true rfl) dX5_refusal_76 rfl) (fun v6 _ => ?_)
        exact lx_iret hC rfl hr dX5_refusal_79
      · skip
        refine lq_case (fun h7 => ?_) (fun h7 => ?_)
        · refine lx_tin hC 80 h7 dX5_refusal_1 (by decide) (by decide) rfl (by decide) ?_
          refine lx_aload_n hC dX5_refusal_80 rfl 0 rfl ?_
          refine lx_iload_n hC dX5_refusal_81 rfl 2 rfl ?_
          refine lx_iload_n hC dX5_refusal_82 rfl 3 rfl ?_
          refine lq_call hC hx (sat_X5_refusalOfEcho (xl X) hl p0 p2 p3 hp0 s) (run_S (as := [.ref p0, .int p2, .int p3]) (rest := []) hC hE cw_X5_refusalOfEcho ci_X5_refusalOfEcho wd353 cs_X5_refusalOfEcho cd_X5_refusalOfEcho (by decide) (by decide) (Nat.le_of_ble_eq_true rfl) dX5_refusal_83 rfl) (fun v8 _ => ?_)
          exact lx_iret hC rfl hr dX5_refusal_86
        · skip
          refine lq_case (fun h9 => ?_) (fun h9 => ?_)
          · refine lx_tin hC 87 h9 dX5_refusal_1 (by decide) (by decide) rfl (by decide) ?_
            refine lx_aload_n hC dX5_refusal_87 rfl 0 rfl ?_
            refine lx_iload_n hC dX5_refusal_88 rfl 2 rfl ?_
            refine lx_iload_n hC dX5_refusal_89 rfl 3 rfl ?_
            refine lq_call hC hx (sat_X5_refusalOfMove (xl X) hl p0 p2 p3 hp0 s) (run_S (as := [.ref p0, .int p2, .int p3]) (rest := []) hC hE cw_X5_refusalOfMove ci_X5_refusalOfMove wd356 cs_X5_refusalOfMove cd_X5_refusalOfMove (by decide) (by decide) (Nat.le_of_ble_eq_true rfl) dX5_refusal_90 rfl) (fun v10 _ => ?_)
            exact lx_iret hC rfl hr dX5_refusal_93
          · skip
            refine lq_case (fun h11 => ?_) (fun h11 => ?_)
            · refine lx_tin hC 94 h11 dX5_refusal_1 (by decide) (by decide) rfl (by decide) ?_
              refine lx_aload_n hC dX5_refusal_94 rfl 0 rfl ?_
              refine lx_iload_n hC dX5_refusal_95 rfl 2 rfl ?_
              refine lq_call hC hx (sat_X5_refusalOfRemoval (xl X) hl p0 p2 hp0 s) (run_S (as := [.ref p0, .int p2]) (rest := []) hC hE cw_X5_refusalOfRemoval ci_X5_refusalOfRemoval wd363 cs_X5_refusalOfRemoval cd_X5_refusalOfRemoval (by decide) (by decide) (Nat.le_of_ble_eq_true rfl) dX5_refusal_96 rfl) (fun v12 _ => ?_)
              exact lx_iret hC rfl hr dX5_refusal_99
            · skip
              refine lq_case (fun h13 => ?_) (fun h13 => ?_)
              · refine lx_tin hC 100 h13 dX5_refusal_1 (by decide) (by decide) rfl (by decide) ?_
                refine lx_aload_n hC dX5_refusal_100 rfl 0 rfl ?_
                refine lx_iload_n hC dX5_refusal_101 rfl 2 rfl ?_
                refine lx_iload_n hC dX5_refusal_102 rfl 3 rfl ?_
                refine lq_call hC hx (sat_X5_refusalOfHeir (xl X) hl p0 p2 p3 hp0 s) (run_S (as := [.ref p0, .int p2, .int p3]) (rest := []) hC hE cw_X5_refusalOfHeir ci_X5_refusalOfHeir wd366 cs_X5_refusalOfHeir cd_X5_refusalOfHeir (by decide) (by decide) (Nat.le_of_ble_eq_true rfl) dX5_refusal_103 rfl) (fun v14 _ => ?_)
                exact lx_iret hC rfl hr dX5_refusal_106
              · skip
                refine lq_case (fun h15 => ?_) (fun h15 => ?_)
                · refine lx_tin hC 107 h15 dX5_refusal_1 (by decide) (by decide) rfl (by decide) ?_
                  refine lx_aload_n hC dX5_refusal_107 rfl 0 rfl ?_
                  refine lx_iload_n hC dX5_refusal_108 rfl 2 rfl ?_
                  refine lq_call hC hx (sat_X5_refusalOfDisowning (xl X) hl p0 p2 hp0 s) (run_S (as := [.ref p0, .int p2]) (rest := []) hC hE cw_X5_refusalOfDisowning ci_X5_refusalOfDisowning wd378 cs_X5_refusalOfDisowning cd_X5_refusalOfDisowning (by decide) (by decide) (Nat.le_of_ble_eq_true rfl) dX5_refusal_109 rfl) (fun v16 _ => ?_)
                  exact lx_iret hC rfl hr dX5_refusal_112
                · skip
                  refine lq_case (fun h17 => ?_) (fun h17 => ?_)
                  · refine lx_tin hC 113 h17 dX5_refusal_1 (by decide) (by decide) rfl (by decide) ?_
                    refine lx_aload_n hC dX5_refusal_113 rfl 0 rfl ?_
                    refine lx_iload_n hC dX5_refusal_114 rfl 2 rfl ?_
                    refine lx_iconstv (v := 0) hC dX5_refusal_115 rfl ?_
                    refine lq_call hC hx (sat_X5_refusalUnlessLockIs (xl X) hl p0 p2 0 hp0 s) (run_S (as := [.ref p0, .int p2, .int 0]) (rest := []) hC hE cw_X5_refusalUnlessLockIs ci_X5_refusalUnlessLockIs wd381 cs_X5_refusalUnlessLockIs cd_X5_refusalUnlessLockIs (by decide) (by decide) (Nat.le_of_ble_eq_true rfl) dX5_refusal_116 rfl) (fun v18 _ => ?_)
                    exact lx_iret hC rfl hr dX5_refusal_119
                  · skip
                    refine lq_case (fun h19 => ?_) (fun h19 => ?_)
                    · refine lx_tin hC 120 h19 dX5_refusal_1 (by decide) (by decide) rfl (by decide) ?_
                      refine lx_aload_n hC dX5_refusal_120 rfl 0 rfl ?_
                      refine lx_iload_n hC dX5_refusal_121 rfl 2 rfl ?_
                      refine lx_iconstv (v := 1) hC dX5_refusal_122 rfl ?_
                      refine lq_call hC hx (sat_X5_refusalUnlessLockIs (xl X) hl p0 p2 1 hp0 s) (run_S (as := [.ref p0, .int p2, .int 1]) (rest := []) hC hE cw_X5_refusalUnlessLockIs ci_X5_refusalUnlessLockIs wd381 cs_X5_refusalUnlessLockIs cd_X5_refusalUnlessLockIs (by decide) (by decide) (Nat.le_of_ble_eq_true rfl) dX5_refusal_123 rfl) (fun v20 _ => ?_)
                      exact lx_iret hC rfl hr dX5_refusal_126
                    · skip
                      refine lq_case (fun h21 => ?_) (fun h21 => ?_)
                      · refine lx_tin hC 127 h21 dX5_refusal_1 (by decide) (by decide) rfl (by decide) ?_
                        refine lx_aload_n hC dX5_refusal_127 rfl 0 rfl ?_
                        refine lx_iload_n hC dX5_refusal_128 rfl 2 rfl ?_
                        refine lx_iload_n hC dX5_refusal_129 rfl 3 rfl ?_
                        refine lq_call hC hx (sat_X5_refusalOfNaming (xl X) hl p0 p2 p3 hp0 s) (run_S (as := [.ref p0, .int p2, .int p3]) (rest := []) hC hE cw_X5_refusalOfNaming ci_X5_refusalOfNaming wd384 cs_X5_refusalOfNaming cd_X5_refusalOfNaming (by decide) (by decide) (Nat.le_of_ble_eq_true rfl) dX5_refusal_130 rfl) (fun v22 _ => ?_)
                        exact lx_iret hC rfl hr dX5_refusal_133
                      · skip
                        refine lx_tdf hC 134 dX5_refusal_1 (fun z zq1 zq2 ze => ?_) (by decide) ?_
                        · rcases (show z = 0 ∨ z = 1 ∨ z = 2 ∨ z = 3 ∨ z = 4 ∨ z = 5 ∨ z = 6 ∨ z = 7 ∨ z = 8 ∨ z = 9 ∨ z = 10 by omega) with rfl | rfl | rfl | rfl | rfl | rfl | rfl | rfl | rfl | rfl | rfl
                          · exact absurd ze (lv_neT h1 (by decide))
                          · exact absurd ze (lv_neT h3 (by decide))
                          · exact absurd ze (lv_neT h5 (by decide))
                          · exact absurd ze (lv_neT h7 (by decide))
                          · exact absurd ze (lv_neT h9 (by decide))
                          · exact absurd ze (lv_neT h11 (by decide))
                          · exact absurd ze (lv_neT h13 (by decide))
                          · exact absurd ze (lv_neT h15 (by decide))
                          · exact absurd ze (lv_neT h17 (by decide))
                          · exact absurd ze (lv_neT h19 (by decide))
                          · exact absurd ze (lv_neT h21 (by decide))
                        · skip
                          refine lx_aload_n hC dX5_refusal_134 rfl 0 rfl ?_
                          refine lx_iload_n hC dX5_refusal_135 rfl 2 rfl ?_
                          refine lx_iconstv (v := 0) hC dX5_refusal_136 rfl ?_
                          refine lq_call hC hx (sat_X5_refusalUnlessLockIs (xl X) hl p0 p2 0 hp0 s) (run_S (as := [.ref p0, .int p2, .int 0]) (rest := []) hC hE cw_X5_refusalUnlessLockIs ci_X5_refusalUnlessLockIs wd381 cs_X5_refusalUnlessLockIs cd_X5_refusalUnlessLockIs (by decide) (by decide) (Nat.le_of_ble_eq_true rfl) dX5_refusal_137 rfl) (fun v23 _ => ?_)
                          exact lx_iret hC rfl hr dX5_refusal_140
set_option maxRecDepth 100000 in
set_option maxHeartbeats 2000000 in
theorem n_X7_throwRefusal (p0 : Int32) (s : Mem) : Mn s (m_X7_throwRefusal p0 s) := by
  unfold m_X7_throwRefusal
  refine mn_if ?_ ?_
  · skip
    refine mn_if ?_ ?_
    · skip
      refine mn_if ?_ ?_
      · skip
        refine mn_if ?_ ?_
        · skip
          exact mn_some
        · skip
          exact mn_thr
      · skip
        exact mn_thr
    · skip
      exact mn_thr
  · skip
    exact mn_thr
set_option maxRecDepth 100000 in
set_option maxHeartbeats 2000000 in
theorem sat_X7_throwRefusal (l : Launch) (hl : l.stackTraces = false) (p0 : Int32) (s : Mem) : Sat l yX7_throwRefusal (.code yX7_throwRefusal cX7_throwRefusal 1 (none)) 30 500 (fun _ => none) [.int p0] s (m_X7_throwRefusal p0 s) := by
  refine sat_of hl (by decide) (Nat.le_of_ble_eq_true rfl) (fun X V A adV hxl hC hE hx hr => ?_) (n_X7_throwRefusal p0 s)
  subst hxl
  show LX X V A 30 500 (nC s) (nS s) _ 0 [(0, .int p0)] [] s _
  unfold m_X7_throwRefusal
  refine lx_iload_n hC dX7_throwRefusal_0 rfl 0 rfl ?_
  refine lx_iconstv (v := 1) hC dX7_throwRefusal_1 rfl ?_
  refine lx_icmp_ne hC 15 dX7_throwRefusal_2 (by decide) ?_ ?_
  · skip
    refine lx_iload_n hC dX7_throwRefusal_15 rfl 0 rfl ?_
    refine lx_iconstv (v := 2) hC dX7_throwRefusal_16 rfl ?_
    refine lx_icmp_ne hC 30 dX7_throwRefusal_17 (by decide) ?_ ?_
    · skip
      refine lx_iload_n hC dX7_throwRefusal_30 rfl 0 rfl ?_
      refine lx_iconstv (v := 3) hC dX7_throwRefusal_31 rfl ?_
      refine lx_icmp_ne hC 45 dX7_throwRefusal_32 (by decide) ?_ ?_
      · skip
        refine lx_iload_n hC dX7_throwRefusal_45 rfl 0 rfl ?_
        refine lx_iconstv (v := 4) hC dX7_throwRefusal_46 rfl ?_
        refine lx_icmp_ne hC 60 dX7_throwRefusal_47 (by decide) ?_ ?_
        · skip
          exact lx_vret hC rfl hr dX7_throwRefusal_60
        · skip
          exact lx_throw hC hE hl hx (i := 3) (text := "the census does not allow this now") rfl wd495 wd38 rfl thg_X7_IllegalStateException_112 thn_X7_IllegalStateException_112 tho_X7_IllegalStateException_112 dX7_throwRefusal_50 dX7_throwRefusal_53 dX7_throwRefusal_54 dX7_throwRefusal_56 dX7_throwRefusal_59 (by decide) (Nat.le_of_ble_eq_true rfl)
      · skip
        exact lx_throw hC hE hl hx (i := 2) (text := "an argument is not allowed") rfl wd479 wd37 rfl thg_X7_IllegalArgumentException_107 thn_X7_IllegalArgumentException_107 tho_X7_IllegalArgumentException_107 dX7_throwRefusal_35 dX7_throwRefusal_38 dX7_throwRefusal_39 dX7_throwRefusal_41 dX7_throwRefusal_44 (by decide) (Nat.le_of_ble_eq_true rfl)
    · skip
      exact lx_throw hC hE hl hx (i := 1) (text := "there is no such row") rfl wd463 wd36 rfl thg_X7_IndexOutOfBoundsException_102 thn_X7_IndexOutOfBoundsException_102 tho_X7_IndexOutOfBoundsException_102 dX7_throwRefusal_20 dX7_throwRefusal_23 dX7_throwRefusal_24 dX7_throwRefusal_26 dX7_throwRefusal_29 (by decide) (Nat.le_of_ble_eq_true rfl)
  · skip
    exact lx_throwN hC hE hl hx (i := 0) (text := "no active echo has this id") rfl wd393 wd35 rfl thg_X7_NoSuchElementException_95 thn_X7_NoSuchElementException_95 tho_X7_NoSuchElementException_95 dX7_throwRefusal_5 dX7_throwRefusal_8 dX7_throwRefusal_9 dX7_throwRefusal_11 dX7_throwRefusal_14 (by decide) (Nat.le_of_ble_eq_true rfl)
set_option maxRecDepth 100000 in
set_option maxHeartbeats 2000000 in
theorem n_X0_openRow (p0 : Nat) (p1 : Int32) (s : Mem) : Mn s (m_X0_openRow p0 p1 s) := by
  unfold m_X0_openRow
  refine mn_vl (fun y1 => ?_)
  refine mn_if ?_ mn_none
  refine mn_put (fun s2 => ?_)
  refine mn_put (fun s3 => ?_)
  exact mn_some
set_option maxRecDepth 100000 in
set_option maxHeartbeats 2000000 in
theorem sat_X0_openRow (l : Launch) (hl : l.stackTraces = false) (p0 : Nat) (p1 : Int32) (hp0 : isTh p0) (s : Mem) : Sat l yX0_openRow (.code yX0_openRow cX0_openRow 3 (some .int)) 30 500 (fun x => some (.int x)) [.ref p0, .int p1] s (m_X0_openRow p0 p1 s) := by
  refine sat_of hl (by decide) (Nat.le_of_ble_eq_true rfl) (fun X V A adV hxl hC hE hx hr => ?_) (n_X0_openRow p0 p1 s)
  subst hxl
  show LX X V A 30 500 (nC s) (nS s) _ 0 [(0, .ref p0), (1, .int p1)] [] s _
  unfold m_X0_openRow
  refine lx_aload_n hC dX0_openRow_0 rfl 0 rfl ?_
  refine lx_getI hC (th_o hp0) rfl 4 (by decide) rfl inX6 wd87 dX0_openRow_1 ?_
  refine lx_istore_nN hC dX0_openRow_4 rfl (by decide) (fun y1 => ?_)
  refine lx_aload_n hC dX0_openRow_5 rfl 1 rfl ?_
  refine lx_getR (q := p0 + 64) hC (th_o hp0) rfl 0 (by decide) rfl rfl inX6 wd72 dX0_openRow_6 ?_
  refine lx_iload_n hC dX0_openRow_9 rfl 0 rfl ?_
  refine lx_iload_n hC dX0_openRow_10 rfl 2 rfl ?_
  refine lx_iastore hC (th_a0 hp0) dX0_openRow_11 (fun s2 => ?_)
  refine lx_aload_n hC dX0_openRow_12 rfl 1 rfl ?_
  refine lx_dup_ref hC dX0_openRow_13 ?_
  refine lx_getI hC (th_o hp0) rfl 4 (by decide) rfl inX6 wd87 dX0_openRow_14 ?_
  refine lx_iconstv (v := 1) hC dX0_openRow_17 rfl ?_
  refine lx_iadd hC dX0_openRow_18 ?_
  refine lx_putI hC (th_o hp0) rfl 4 (by decide) rfl tyX6 tyX6_ok nmX6 rfl rfl rfl inX6 wd87 dX0_openRow_19 (fun s3 => ?_)
  refine lx_iload_n hC dX0_openRow_22 rfl 0 rfl ?_
  exact lx_iret hC rfl hr dX0_openRow_23
set_option maxRecDepth 100000 in
set_option maxHeartbeats 2000000 in
theorem n_X0_changePhantoms (p0 : Nat) (p1 : Int32) (p2 : Int32) (s : Mem) : Mn s (m_X0_changePhantoms p0 p1 p2 s) := by
  unfold m_X0_changePhantoms
  refine mn_if ?_ mn_none
  refine mn_if ?_ mn_none
  refine mn_put (fun s1 => ?_)
  refine mn_if ?_ mn_none
  exact mn_some
set_option maxRecDepth 100000 in
set_option maxHeartbeats 2000000 in
theorem sat_X0_changePhantoms (l : Launch) (hl : l.stackTraces = false) (p0 : Nat) (p1 : Int32) (p2 : Int32) (hp0 : isTh p0) (s : Mem) : Sat l yX0_changePhantoms (.code yX0_changePhantoms cX0_changePhantoms 3 (some .int)) 30 500 (fun x => some (.int x)) [.ref p0, .int p1, .int p2] s (m_X0_changePhantoms p0 p1 p2 s) := by
  refine sat_of hl (by decide) (Nat.le_of_ble_eq_true rfl) (fun X V A adV hxl hC hE hx hr => ?_) (n_X0_changePhantoms p0 p1 p2 s)
  subst hxl
  show LX X V A 30 500 (nC s) (nS s) _ 0 [(0, .ref p0), (1, .int p1), (2, .int p2)] [] s _
  unfold m_X0_changePhantoms
  refine lx_aload_n hC dX0_changePhantoms_0 rfl 0 rfl ?_
  refine lx_getR (q := p0 + 128) hC (th_o hp0) rfl 1 (by decide) rfl rfl inX6 wd75 dX0_changePhantoms_1 ?_
  refine lx_iload_n hC dX0_changePhantoms_4 rfl 1 rfl ?_
  refine lx_dup2ir hC dX0_changePhantoms_5 ?_
  refine lx_iaload hC (th_a1 hp0) dX0_changePhantoms_6 ?_
  refine lx_iload_n hC dX0_changePhantoms_7 rfl 2 rfl ?_
  refine lx_iadd hC dX0_changePhantoms_8 ?_
  refine lx_iastore hC (th_a1 hp0) dX0_changePhantoms_9 (fun s1 => ?_)
  refine lx_aload_n hC dX0_changePhantoms_10 rfl 0 rfl ?_
  refine lx_getR (q := p0 + 128) hC (th_o hp0) rfl 1 (by decide) rfl rfl inX6 wd75 dX0_changePhantoms_11 ?_
  refine lx_iload_n hC dX0_changePhantoms_14 rfl 1 rfl ?_
  refine lx_iaload hC (th_a1 hp0) dX0_changePhantoms_15 ?_
  exact lx_iret hC rfl hr dX0_changePhantoms_16
set_option maxRecDepth 100000 in
set_option maxHeartbeats 2000000 in
theorem n_X0_addEcho (p0 : Nat) (p1 : Int32) (p2 : Int32) (s : Mem) : Mn s (m_X0_addEcho p0 p1 p2 s) := by
  unfold m_X0_addEcho
  refine mn_vl (fun y1 => ?_)
  refine mn_vl (fun y2 => ?_)
  refine mn_if ?_ mn_none
  refine mn_put (fun s3 => ?_)
  refine mn_if ?_ mn_none
  refine mn_put (fun s4 => ?_)
  refine mn_if ?_ mn_none
  refine mn_put (fun s5 => ?_)
  refine mn_if ?_ mn_none
  refine mn_put (fun s6 => ?_)
  refine mn_put (fun s7 => ?_)
  refine mn_put (fun s8 => ?_)
  refine mn_put (fun s9 => ?_)
  exact mn_some
set_option maxRecDepth 100000 in
set_option maxHeartbeats 2000000 in
theorem sat_X0_addEcho (l : Launch) (hl : l.stackTraces = false) (p0 : Nat) (p1 : Int32) (p2 : Int32) (hp0 : isTh p0) (s : Mem) : Sat l yX0_addEcho (.code yX0_addEcho cX0_addEcho 5 (some .int)) 30 500 (fun x => some (.int x)) [.ref p0, .int p1, .int p2] s (m_X0_addEcho p0 p1 p2 s) := by
  refine sat_of hl (by decide) (Nat.le_of_ble_eq_true rfl) (fun X V A adV hxl hC hE hx hr => ?_) (n_X0_addEcho p0 p1 p2 s)
  subst hxl
  show LX X V A 30 500 (nC s) (nS s) _ 0 [(0, .ref p0), (1, .int p1), (2, .int p2)] [] s _
  unfold m_X0_addEcho
  refine lx_aload_n hC dX0_addEcho_0 rfl 0 rfl ?_
  refine lx_getI hC (th_o hp0) rfl 9 (by decide) rfl inX6 wd106 dX0_addEcho_1 ?_
  refine lx_istore_nN hC dX0_addEcho_4 rfl (by decide) (fun y1 => ?_)
  refine lx_aload_n hC dX0_addEcho_5 rfl 1 rfl ?_
  refine lx_getI hC (th_o hp0) rfl 10 (by decide) rfl inX6 wd110 dX0_addEcho_6 ?_
  refine lx_istoreN hC dX0_addEcho_9 (by decide) (fun y2 => ?_)
  refine lx_aload_n hC dX0_addEcho_11 rfl 2 rfl ?_
  refine lx_getR (q := p0 + 384) hC (th_o hp0) rfl 5 (by decide) rfl rfl inX6 wd91 dX0_addEcho_12 ?_
  refine lx_iload_n hC dX0_addEcho_15 rfl 1 rfl ?_
  refine lx_iload hC dX0_addEcho_16 0 rfl ?_
  refine lx_iastore hC (th_a5 hp0) dX0_addEcho_18 (fun s3 => ?_)
  refine lx_aload_n hC dX0_addEcho_19 rfl 2 rfl ?_
  refine lx_getR (q := p0 + 448) hC (th_o hp0) rfl 6 (by decide) rfl rfl inX6 wd94 dX0_addEcho_20 ?_
  refine lx_iload_n hC dX0_addEcho_23 rfl 1 rfl ?_
  refine lx_iload_n hC dX0_addEcho_24 rfl 3 rfl ?_
  refine lx_iastore hC (th_a6 hp0) dX0_addEcho_25 (fun s4 => ?_)
  refine lx_aload_n hC dX0_addEcho_26 rfl 2 rfl ?_
  refine lx_getR (q := p0 + 512) hC (th_o hp0) rfl 7 (by decide) rfl rfl inX6 wd98 dX0_addEcho_27 ?_
  refine lx_iload_n hC dX0_addEcho_30 rfl 1 rfl ?_
  refine lx_iload_n hC dX0_addEcho_31 rfl 4 rfl ?_
  refine lx_iastore hC (th_a7 hp0) dX0_addEcho_32 (fun s5 => ?_)
  refine lx_aload_n hC dX0_addEcho_33 rfl 2 rfl ?_
  refine lx_getR (q := p0 + 576) hC (th_o hp0) rfl 8 (by decide) rfl rfl inX6 wd101 dX0_addEcho_34 ?_
  refine lx_iload_n hC dX0_addEcho_37 rfl 1 rfl ?_
  refine lx_iconstv (v := (-1)) hC dX0_addEcho_38 rfl ?_
  refine lx_iastore hC (th_a8 hp0) dX0_addEcho_39 (fun s6 => ?_)
  refine lx_aload_n hC dX0_addEcho_40 rfl 2 rfl ?_
  refine lx_dup_ref hC dX0_addEcho_41 ?_
  refine lx_getI hC (th_o hp0) rfl 9 (by decide) rfl inX6 wd106 dX0_addEcho_42 ?_
  refine lx_iconstv (v := 1) hC dX0_addEcho_45 rfl ?_
  refine lx_iadd hC dX0_addEcho_46 ?_
  refine lx_putI hC (th_o hp0) rfl 9 (by decide) rfl tyX6 tyX6_ok nmX6 rfl rfl rfl inX6 wd106 dX0_addEcho_47 (fun s7 => ?_)
  refine lx_aload_n hC dX0_addEcho_50 rfl 2 rfl ?_
  refine lx_dup_ref hC dX0_addEcho_51 ?_
  refine lx_getI hC (th_o hp0) rfl 10 (by decide) rfl inX6 wd110 dX0_addEcho_52 ?_
  refine lx_iconstv (v := 1) hC dX0_addEcho_55 rfl ?_
  refine lx_iadd hC dX0_addEcho_56 ?_
  refine lx_putI hC (th_o hp0) rfl 10 (by decide) rfl tyX6 tyX6_ok nmX6 rfl rfl rfl inX6 wd110 dX0_addEcho_57 (fun s8 => ?_)
  refine lx_aload_n hC dX0_addEcho_60 rfl 2 rfl ?_
  refine lx_dup_ref hC dX0_addEcho_61 ?_
  refine lx_getJ hC (th_o hp0) rfl 13 (by decide) rfl inX6 wd118 dX0_addEcho_62 ?_
  refine lx_iload_n hC dX0_addEcho_65 rfl 4 rfl ?_
  refine lx_i2l hC dX0_addEcho_66 ?_
  refine lx_ladd hC dX0_addEcho_67 ?_
  refine lx_putJ hC (th_o hp0) rfl 13 (by decide) rfl tyX6 tyX6_ok nmX6 rfl rfl rfl inX6 wd118 dX0_addEcho_68 (fun s9 => ?_)
  refine lx_iload hC dX0_addEcho_71 0 rfl ?_
  exact lx_iret hC rfl hr dX0_addEcho_73
set_option maxRecDepth 100000 in
set_option maxHeartbeats 2000000 in
theorem n_X0_moveSlot (p0 : Nat) (p1 : Int32) (p2 : Int32) (s : Mem) : Mn s (m_X0_moveSlot p0 p1 p2 s) := by
  unfold m_X0_moveSlot
  refine mn_if ?_ mn_none
  refine mn_vl (fun y1 => ?_)
  refine mn_if ?_ mn_none
  refine mn_put (fun s2 => ?_)
  refine mn_put (fun s3 => ?_)
  exact mn_some
set_option maxRecDepth 100000 in
set_option maxHeartbeats 2000000 in
theorem sat_X0_moveSlot (l : Launch) (hl : l.stackTraces = false) (p0 : Nat) (p1 : Int32) (p2 : Int32) (hp0 : isTh p0) (s : Mem) : Sat l yX0_moveSlot (.code yX0_moveSlot cX0_moveSlot 4 (some .int)) 30 500 (fun x => some (.int x)) [.ref p0, .int p1, .int p2] s (m_X0_moveSlot p0 p1 p2 s) := by
  refine sat_of hl (by decide) (Nat.le_of_ble_eq_true rfl) (fun X V A adV hxl hC hE hx hr => ?_) (n_X0_moveSlot p0 p1 p2 s)
  subst hxl
  show LX X V A 30 500 (nC s) (nS s) _ 0 [(0, .ref p0), (1, .int p1), (2, .int p2)] [] s _
  unfold m_X0_moveSlot
  refine lx_aload_n hC dX0_moveSlot_0 rfl 0 rfl ?_
  refine lx_getR (q := p0 + 448) hC (th_o hp0) rfl 6 (by decide) rfl rfl inX6 wd94 dX0_moveSlot_1 ?_
  refine lx_iload_n hC dX0_moveSlot_4 rfl 1 rfl ?_
  refine lx_iaload hC (th_a6 hp0) dX0_moveSlot_5 ?_
  refine lx_istore_nN hC dX0_moveSlot_6 rfl (by decide) (fun y1 => ?_)
  refine lx_aload_n hC dX0_moveSlot_7 rfl 1 rfl ?_
  refine lx_getR (q := p0 + 448) hC (th_o hp0) rfl 6 (by decide) rfl rfl inX6 wd94 dX0_moveSlot_8 ?_
  refine lx_iload_n hC dX0_moveSlot_11 rfl 2 rfl ?_
  refine lx_iload_n hC dX0_moveSlot_12 rfl 3 rfl ?_
  refine lx_iastore hC (th_a6 hp0) dX0_moveSlot_13 (fun s2 => ?_)
  refine lx_aload_n hC dX0_moveSlot_14 rfl 1 rfl ?_
  refine lx_dup_ref hC dX0_moveSlot_15 ?_
  refine lx_getI hC (th_o hp0) rfl 11 (by decide) rfl inX6 wd112 dX0_moveSlot_16 ?_
  refine lx_iconstv (v := 1) hC dX0_moveSlot_19 rfl ?_
  refine lx_iadd hC dX0_moveSlot_20 ?_
  refine lx_putI hC (th_o hp0) rfl 11 (by decide) rfl tyX6 tyX6_ok nmX6 rfl rfl rfl inX6 wd112 dX0_moveSlot_21 (fun s3 => ?_)
  refine lx_iload_n hC dX0_moveSlot_24 rfl 0 rfl ?_
  exact lx_iret hC rfl hr dX0_moveSlot_25
set_option maxRecDepth 100000 in
set_option maxHeartbeats 2000000 in
theorem n_X0_bequeath (p0 : Nat) (p1 : Int32) (s : Mem) : Mn s (m_X0_bequeath p0 p1 s) := by
  unfold m_X0_bequeath
  refine mn_bindP (fun v1 => ?_)
  refine mn_if ?_ ?_
  · skip
    refine mn_if ?_ mn_none
    refine mn_if ?_ mn_none
    refine mn_vl (fun y2 => ?_)
    refine mn_if ?_ mn_none
    refine mn_put (fun s3 => ?_)
    refine mn_if ?_ mn_none
    exact mn_some
  · skip
    refine mn_if ?_ mn_none
    exact mn_some
set_option maxRecDepth 100000 in
set_option maxHeartbeats 2000000 in
theorem sat_X0_bequeath (l : Launch) (hl : l.stackTraces = false) (p0 : Nat) (p1 : Int32) (hp0 : isTh p0) (s : Mem) : Sat l yX0_bequeath (.code yX0_bequeath cX0_bequeath 4 (some .int)) 32 543 (fun x => some (.int x)) [.ref p0, .int p1] s (m_X0_bequeath p0 p1 s) := by
  refine sat_of hl (by decide) (Nat.le_of_ble_eq_true rfl) (fun X V A adV hxl hC hE hx hr => ?_) (n_X0_bequeath p0 p1 s)
  subst hxl
  show LX X V A 32 543 (nC s) (nS s) _ 0 [(0, .ref p0), (1, .int p1)] [] s _
  unfold m_X0_bequeath
  refine lx_aload_n hC dX0_bequeath_0 rfl 0 rfl ?_
  refine lx_iload_n hC dX0_bequeath_1 rfl 1 rfl ?_
  refine lx_callP hC hx (sat_X6_heirSlotOf (xl X) hl p0 p1 hp0 s) (run_V (as := [.int p1]) (rest := []) hC hE (th_o hp0) rfl cw_X6_heirSlotOf ci_X6_heirSlotOf wd533 cs_X6_heirSlotOf ce_X6_heirSlotOf cd_X6_heirSlotOf (by decide) (by decide) (Nat.le_of_ble_eq_true rfl) dX0_bequeath_2 rfl) (fun v1 _ => ?_)
  refine lx_istore_n hC dX0_bequeath_5 rfl (by decide) ?_
  refine lx_iload_n hC dX0_bequeath_6 rfl 0 rfl ?_
  refine lx_iconstv (v := (-1)) hC dX0_bequeath_7 rfl ?_
  refine lx_icmp_ne hC 18 dX0_bequeath_8 (by decide) ?_ ?_
  · skip
    refine lx_aload_n hC dX0_bequeath_18 rfl 1 rfl ?_
    refine lx_getR (q := p0 + 512) hC (th_o hp0) rfl 7 (by decide) rfl rfl inX6 wd98 dX0_bequeath_19 ?_
    refine lx_iload_n hC dX0_bequeath_22 rfl 0 rfl ?_
    refine lx_iaload hC (th_a7 hp0) dX0_bequeath_23 ?_
    refine lx_aload_n hC dX0_bequeath_24 rfl 1 rfl ?_
    refine lx_getR (q := p0 + 512) hC (th_o hp0) rfl 7 (by decide) rfl rfl inX6 wd98 dX0_bequeath_25 ?_
    refine lx_iload_n hC dX0_bequeath_28 rfl 2 rfl ?_
    refine lx_iaload hC (th_a7 hp0) dX0_bequeath_29 ?_
    refine lx_iadd hC dX0_bequeath_30 ?_
    refine lx_istore_nN hC dX0_bequeath_31 rfl (by decide) (fun y2 => ?_)
    refine lx_aload_n hC dX0_bequeath_32 rfl 2 rfl ?_
    refine lx_getR (q := p0 + 512) hC (th_o hp0) rfl 7 (by decide) rfl rfl inX6 wd98 dX0_bequeath_33 ?_
    refine lx_iload_n hC dX0_bequeath_36 rfl 1 rfl ?_
    refine lx_iload_n hC dX0_bequeath_37 rfl 0 rfl ?_
    refine lx_sipush (v := 999) hC dX0_bequeath_38 (by decide) ?_
    refine lx_mmin hC wd534 wd535 wd40 wd536 (by decide) (Nat.le_of_ble_eq_true rfl) dX0_bequeath_41 ?_
    refine lx_iastore hC (th_a7 hp0) dX0_bequeath_44 (fun s3 => ?_)
    refine lx_iload_n hC dX0_bequeath_45 rfl 0 rfl ?_
    refine lx_aload_n hC dX0_bequeath_46 rfl 2 rfl ?_
    refine lx_getR (q := p0 + 512) hC (th_o hp0) rfl 7 (by decide) rfl rfl inX6 wd98 dX0_bequeath_47 ?_
    refine lx_iload_n hC dX0_bequeath_50 rfl 1 rfl ?_
    refine lx_iaload hC (th_a7 hp0) dX0_bequeath_51 ?_
    refine lx_isub hC dX0_bequeath_52 ?_
    exact lx_iret hC rfl hr dX0_bequeath_53
  · skip
    refine lx_aload_n hC dX0_bequeath_11 rfl 1 rfl ?_
    refine lx_getR (q := p0 + 512) hC (th_o hp0) rfl 7 (by decide) rfl rfl inX6 wd98 dX0_bequeath_12 ?_
    refine lx_iload_n hC dX0_bequeath_15 rfl 2 rfl ?_
    refine lx_iaload hC (th_a7 hp0) dX0_bequeath_16 ?_
    exact lx_iret hC rfl hr dX0_bequeath_17
set_option maxRecDepth 100000 in
set_option maxHeartbeats 2000000 in
theorem l_X0_passOnBequeathers_b2 {X : Cx} {V : Vx} {A : Nat → Prop} {adV : Nat → Nat} {c0 s0 : Nat} (hC : Cok X V A yX0_passOnBequeathers.cls cX0_passOnBequeathers 3) (hE : Env0 V adV A (xs X) (xs X).heap) (hl : (xl X).stackTraces = false) (hx : ∀ x ∈ (xc X).exceptionTable.toList, False) (hr : (xh X).sig.returnType = none) (q1 : Nat) (x2 : Int32) (hq1 : isTh q1) (s : Mem) (kf2 : (Int32 × Mem) → Res Unit) (hk2 : ∀ a, LX X V A 30 500 c0 s0 (FM X V A (fun _ => none)) 2 [(0, .ref q1), (1, .int x2), (2, .int a.1)] [] a.2 (kf2 a)) (w2 : Int32) : LX X V A 30 500 c0 s0 (FM X V A (fun _ => none)) 2 [(0, .ref q1), (1, .int x2), (2, .int w2)] [] s (m_X0_passOnBequeathers_b2 q1 x2 s kf2 w2 ) := by
  unfold m_X0_passOnBequeathers_b2
  refine lx_iload_n hC dX0_passOnBequeathers_2 rfl 2 rfl ?_
  refine lx_aload_n hC dX0_passOnBequeathers_3 rfl 0 rfl ?_
  refine lx_getI hC (th_o hq1) rfl 9 (by decide) rfl inX6 wd106 dX0_passOnBequeathers_4 ?_
  refine lx_icmp_ge hC 43 dX0_passOnBequeathers_7 (by decide) ?_ ?_
  · skip
    exact lx_vret hC rfl hr dX0_passOnBequeathers_43
  · skip
    refine lx_aload_n hC dX0_passOnBequeathers_10 rfl 0 rfl ?_
    refine lx_getR (q := q1 + 576) hC (th_o hq1) rfl 8 (by decide) rfl rfl inX6 wd101 dX0_passOnBequeathers_11 ?_
    refine lx_iload_n hC dX0_passOnBequeathers_14 rfl 2 rfl ?_
    refine lx_iaload hC (th_a8 hq1) dX0_passOnBequeathers_15 ?_
    refine lx_aload_n hC dX0_passOnBequeathers_16 rfl 0 rfl ?_
    refine lx_getR (q := q1 + 384) hC (th_o hq1) rfl 5 (by decide) rfl rfl inX6 wd91 dX0_passOnBequeathers_17 ?_
    refine lx_iload_n hC dX0_passOnBequeathers_20 rfl 1 rfl ?_
    refine lx_iaload hC (th_a5 hq1) dX0_passOnBequeathers_21 ?_
    refine lx_icmp_ne hC 37 dX0_passOnBequeathers_22 (by decide) ?_ ?_
    · skip
      refine lx_iincN (v := 1) hC dX0_passOnBequeathers_37 2 rfl (by decide) rfl (fun y3 => ?_)
      refine lx_goto hC 2 dX0_passOnBequeathers_40 (by decide) ?_
      exact lx_sub [1, 2, 0] rfl (hk2 (y3, s))
    · skip
      refine lx_aload_n hC dX0_passOnBequeathers_25 rfl 0 rfl ?_
      refine lx_getR (q := q1 + 576) hC (th_o hq1) rfl 8 (by decide) rfl rfl inX6 wd101 dX0_passOnBequeathers_26 ?_
      refine lx_iload_n hC dX0_passOnBequeathers_29 rfl 2 rfl ?_
      refine lx_aload_n hC dX0_passOnBequeathers_30 rfl 0 rfl ?_
      refine lx_getR (q := q1 + 576) hC (th_o hq1) rfl 8 (by decide) rfl rfl inX6 wd101 dX0_passOnBequeathers_31 ?_
      refine lx_iload_n hC dX0_passOnBequeathers_34 rfl 1 rfl ?_
      refine lx_iaload hC (th_a8 hq1) dX0_passOnBequeathers_35 ?_
      refine lx_iastore hC (th_a8 hq1) dX0_passOnBequeathers_36 (fun s4 => ?_)
      refine lx_iincN (v := 1) hC dX0_passOnBequeathers_37 2 rfl (by decide) rfl (fun y5 => ?_)
      refine lx_goto hC 2 dX0_passOnBequeathers_40 (by decide) ?_
      exact lx_sub [1, 2, 0] rfl (hk2 (y5, s4))
set_option maxRecDepth 100000 in
set_option maxHeartbeats 2000000 in
theorem n_X0_passOnBequeathers_b2 (q1 : Nat) (x2 : Int32) (s : Mem) (kf2 : (Int32 × Mem) → Res Unit) (hm2 : ∀ a, Mn a.2 (kf2 a)) (w2 : Int32) : Mn s (m_X0_passOnBequeathers_b2 q1 x2 s kf2 w2 ) := by
  unfold m_X0_passOnBequeathers_b2
  refine mn_if ?_ ?_
  · skip
    exact mn_some
  · skip
    refine mn_if ?_ mn_none
    refine mn_if ?_ mn_none
    refine mn_if ?_ ?_
    · skip
      refine mn_vl (fun y3 => ?_)
      exact hm2 (y3, s)
    · skip
      refine mn_if ?_ mn_none
      refine mn_if ?_ mn_none
      refine mn_put (fun s4 => ?_)
      refine mn_vl (fun y5 => ?_)
      exact hm2 (y5, s4)
set_option maxRecDepth 100000 in
set_option maxHeartbeats 2000000 in
theorem n_X0_passOnBequeathers (p0 : Nat) (p1 : Int32) (s : Mem) : Mn s (m_X0_passOnBequeathers p0 p1 s) := by
  unfold m_X0_passOnBequeathers
  exact mn_lp (sg := fun a => a.2) (fun kf hq a => n_X0_passOnBequeathers_b2 p0 p1 a.2 kf hq a.1) FUEL (0, s)
set_option maxRecDepth 100000 in
set_option maxHeartbeats 2000000 in
theorem sat_X0_passOnBequeathers (l : Launch) (hl : l.stackTraces = false) (p0 : Nat) (p1 : Int32) (hp0 : isTh p0) (s : Mem) : Sat l yX0_passOnBequeathers (.code yX0_passOnBequeathers cX0_passOnBequeathers 3 (none)) 30 500 (fun _ => none) [.ref p0, .int p1] s (m_X0_passOnBequeathers p0 p1 s) := by
  refine sat_of hl (by decide) (Nat.le_of_ble_eq_true rfl) (fun X V A adV hxl hC hE hx hr => ?_) (n_X0_passOnBequeathers p0 p1 s)
  subst hxl
  show LX X V A 30 500 (nC s) (nS s) _ 0 [(0, .ref p0), (1, .int p1)] [] s _
  unfold m_X0_passOnBequeathers
  refine lx_iconstv (v := 0) hC dX0_passOnBequeathers_0 rfl ?_
  refine lx_istore_n hC dX0_passOnBequeathers_1 rfl (by decide) ?_
  refine lx_sub [1, 2, 0] rfl ?_
  exact lx_lp (lv := fun a => [(0, .ref p0), (1, .int p1), (2, .int a.1)]) (st := fun _ => []) (sg := fun a => a.2) (fun kf hq a => l_X0_passOnBequeathers_b2 hC hE hl hx hr p0 p1 hp0 a.2 kf hq a.1) FUEL (0, s)
set_option maxRecDepth 100000 in
set_option maxHeartbeats 2000000 in
theorem l_X0_closeGap_b12 {X : Cx} {V : Vx} {A : Nat → Prop} {adV : Nat → Nat} {c0 s0 : Nat} (hC : Cok X V A yX0_closeGap.cls cX0_closeGap 3) (hE : Env0 V adV A (xs X) (xs X).heap) (hl : (xl X).stackTraces = false) (hx : ∀ x ∈ (xc X).exceptionTable.toList, False) (hr : (xh X).sig.returnType = none) (q2 : Nat) (hq2 : isTh q2) (s : Mem) (kf12 : (Int32 × Mem) → Res Unit) (hk12 : ∀ a, LX X V A 31 523 c0 s0 (FM X V A (fun _ => none)) 12 [(0, .ref q2), (2, .int a.1)] [] a.2 (kf12 a)) (w2 : Int32) : LX X V A 31 523 c0 s0 (FM X V A (fun _ => none)) 12 [(0, .ref q2), (2, .int w2)] [] s (m_X0_closeGap_b12 q2 s kf12 w2 ) := by
  unfold m_X0_closeGap_b12
  refine lx_iload_n hC dX0_closeGap_12 rfl 1 rfl ?_
  refine lx_aload_n hC dX0_closeGap_13 rfl 0 rfl ?_
  refine lx_getI hC (th_o hq2) rfl 9 (by decide) rfl inX6 wd106 dX0_closeGap_14 ?_
  refine lx_icmp_ge hC 35 dX0_closeGap_17 (by decide) ?_ ?_
  · skip
    exact lx_vret hC rfl hr dX0_closeGap_35
  · skip
    refine lx_aload_n hC dX0_closeGap_20 rfl 0 rfl ?_
    refine lx_iload_n hC dX0_closeGap_21 rfl 1 rfl ?_
    refine lx_aload_n hC dX0_closeGap_22 rfl 0 rfl ?_
    refine lx_iload_n hC dX0_closeGap_23 rfl 1 rfl ?_
    refine lx_iconstv (v := 1) hC dX0_closeGap_24 rfl ?_
    refine lx_iadd hC dX0_closeGap_25 ?_
    refine lx_callX hC hx (sat_X6_copySlot (xl X) hl q2 w2 q2 (w2 + 1) hq2 hq2 s) (run_V (as := [.int w2, .ref q2, .int (w2 + 1)]) (rest := []) hC hE (th_o hq2) rfl cw_X6_copySlot ci_X6_copySlot wd543 cs_X6_copySlot ce_X6_copySlot cd_X6_copySlot (by decide) (by decide) (Nat.le_of_ble_eq_true rfl) dX0_closeGap_26 rfl) (fun v3 s4 _ => ?_)
    refine lx_iincN (v := 1) hC dX0_closeGap_29 1 rfl (by decide) rfl (fun y5 => ?_)
    refine lx_goto hC 12 dX0_closeGap_32 (by decide) ?_
    exact lx_sub [1, 0] rfl (hk12 (y5, s4))
set_option maxRecDepth 100000 in
set_option maxHeartbeats 2000000 in
theorem n_X0_closeGap_b12 (q2 : Nat) (s : Mem) (kf12 : (Int32 × Mem) → Res Unit) (hm12 : ∀ a, Mn a.2 (kf12 a)) (w2 : Int32) : Mn s (m_X0_closeGap_b12 q2 s kf12 w2 ) := by
  unfold m_X0_closeGap_b12
  refine mn_if ?_ ?_
  · skip
    exact mn_some
  · skip
    refine mn_bind (n_X6_copySlot q2 w2 q2 (w2 + 1) s) (fun v3 s4 => ?_)
    refine mn_vl (fun y5 => ?_)
    exact hm12 (y5, s4)
set_option maxRecDepth 100000 in
set_option maxHeartbeats 2000000 in
theorem n_X0_closeGap (p0 : Nat) (p1 : Int32) (s : Mem) : Mn s (m_X0_closeGap p0 p1 s) := by
  unfold m_X0_closeGap
  refine mn_put (fun s1 => ?_)
  exact mn_lp (sg := fun a => a.2) (fun kf hq a => n_X0_closeGap_b12 p0 a.2 kf hq a.1) FUEL (p1, s1)
set_option maxRecDepth 100000 in
set_option maxHeartbeats 2000000 in
theorem sat_X0_closeGap (l : Launch) (hl : l.stackTraces = false) (p0 : Nat) (p1 : Int32) (hp0 : isTh p0) (s : Mem) : Sat l yX0_closeGap (.code yX0_closeGap cX0_closeGap 3 (none)) 31 523 (fun _ => none) [.ref p0, .int p1] s (m_X0_closeGap p0 p1 s) := by
  refine sat_of hl (by decide) (Nat.le_of_ble_eq_true rfl) (fun X V A adV hxl hC hE hx hr => ?_) (n_X0_closeGap p0 p1 s)
  subst hxl
  show LX X V A 31 523 (nC s) (nS s) _ 0 [(0, .ref p0), (1, .int p1)] [] s _
  unfold m_X0_closeGap
  refine lx_aload_n hC dX0_closeGap_0 rfl 0 rfl ?_
  refine lx_dup_ref hC dX0_closeGap_1 ?_
  refine lx_getI hC (th_o hp0) rfl 9 (by decide) rfl inX6 wd106 dX0_closeGap_2 ?_
  refine lx_iconstv (v := 1) hC dX0_closeGap_5 rfl ?_
  refine lx_isub hC dX0_closeGap_6 ?_
  refine lx_putI hC (th_o hp0) rfl 9 (by decide) rfl tyX6 tyX6_ok nmX6 rfl rfl rfl inX6 wd106 dX0_closeGap_7 (fun s1 => ?_)
  refine lx_iload_n hC dX0_closeGap_10 rfl 1 rfl ?_
  refine lx_istore_n hC dX0_closeGap_11 rfl (by decide) ?_
  refine lx_sub [1, 0] rfl ?_
  exact lx_lp (lv := fun a => [(0, .ref p0), (2, .int a.1)]) (st := fun _ => []) (sg := fun a => a.2) (fun kf hq a => l_X0_closeGap_b12 hC hE hl hx hr p0 hp0 a.2 kf hq a.1) FUEL (p1, s1)
set_option maxRecDepth 100000 in
set_option maxHeartbeats 2000000 in
theorem n_X0_removeSlot (p0 : Nat) (p1 : Int32) (s : Mem) : Mn s (m_X0_removeSlot p0 p1 s) := by
  unfold m_X0_removeSlot
  refine mn_bind (n_X0_bequeath p0 p1 s) (fun v1 s2 => ?_)
  refine mn_put (fun s3 => ?_)
  refine mn_put (fun s4 => ?_)
  refine mn_bind (n_X0_passOnBequeathers p0 p1 s4) (fun v5 s6 => ?_)
  refine mn_bind (n_X0_closeGap p0 p1 s6) (fun v7 s8 => ?_)
  exact mn_some
set_option maxRecDepth 100000 in
set_option maxHeartbeats 2000000 in
theorem sat_X0_removeSlot (l : Launch) (hl : l.stackTraces = false) (p0 : Nat) (p1 : Int32) (hp0 : isTh p0) (s : Mem) : Sat l yX0_removeSlot (.code yX0_removeSlot cX0_removeSlot 3 (some .int)) 33 566 (fun x => some (.int x)) [.ref p0, .int p1] s (m_X0_removeSlot p0 p1 s) := by
  refine sat_of hl (by decide) (Nat.le_of_ble_eq_true rfl) (fun X V A adV hxl hC hE hx hr => ?_) (n_X0_removeSlot p0 p1 s)
  subst hxl
  show LX X V A 33 566 (nC s) (nS s) _ 0 [(0, .ref p0), (1, .int p1)] [] s _
  unfold m_X0_removeSlot
  refine lx_aload_n hC dX0_removeSlot_0 rfl 0 rfl ?_
  refine lx_iload_n hC dX0_removeSlot_1 rfl 1 rfl ?_
  refine lx_callX hC hx (sat_X0_bequeath (xl X) hl p0 p1 hp0 s) (run_S (as := [.ref p0, .int p1]) (rest := []) hC hE cw_X0_bequeath ci_X0_bequeath wd530 cs_X0_bequeath cd_X0_bequeath (by decide) (by decide) (Nat.le_of_ble_eq_true rfl) dX0_removeSlot_2 rfl) (fun v1 s2 _ => ?_)
  refine lx_istore_n hC dX0_removeSlot_5 rfl (by decide) ?_
  refine lx_aload_n hC dX0_removeSlot_6 rfl 1 rfl ?_
  refine lx_dup_ref hC dX0_removeSlot_7 ?_
  refine lx_getJ hC (th_o hp0) rfl 14 (by decide) rfl inX6 wd121 dX0_removeSlot_8 ?_
  refine lx_iload_n hC dX0_removeSlot_11 rfl 0 rfl ?_
  refine lx_i2l hC dX0_removeSlot_12 ?_
  refine lx_ladd hC dX0_removeSlot_13 ?_
  refine lx_putJ hC (th_o hp0) rfl 14 (by decide) rfl tyX6 tyX6_ok nmX6 rfl rfl rfl inX6 wd121 dX0_removeSlot_14 (fun s3 => ?_)
  refine lx_aload_n hC dX0_removeSlot_17 rfl 1 rfl ?_
  refine lx_dup_ref hC dX0_removeSlot_18 ?_
  refine lx_getI hC (th_o hp0) rfl 12 (by decide) rfl inX6 wd115 dX0_removeSlot_19 ?_
  refine lx_iconstv (v := 1) hC dX0_removeSlot_22 rfl ?_
  refine lx_iadd hC dX0_removeSlot_23 ?_
  refine lx_putI hC (th_o hp0) rfl 12 (by decide) rfl tyX6 tyX6_ok nmX6 rfl rfl rfl inX6 wd115 dX0_removeSlot_24 (fun s4 => ?_)
  refine lx_aload_n hC dX0_removeSlot_27 rfl 1 rfl ?_
  refine lx_iload_n hC dX0_removeSlot_28 rfl 2 rfl ?_
  refine lx_callX hC hx (sat_X0_passOnBequeathers (xl X) hl p0 p1 hp0 s4) (run_S (as := [.ref p0, .int p1]) (rest := []) hC hE cw_X0_passOnBequeathers ci_X0_passOnBequeathers wd537 cs_X0_passOnBequeathers cd_X0_passOnBequeathers (by decide) (by decide) (Nat.le_of_ble_eq_true rfl) dX0_removeSlot_29 rfl) (fun v5 s6 _ => ?_)
  refine lx_aload_n hC dX0_removeSlot_32 rfl 1 rfl ?_
  refine lx_iload_n hC dX0_removeSlot_33 rfl 2 rfl ?_
  refine lx_callX hC hx (sat_X0_closeGap (xl X) hl p0 p1 hp0 s6) (run_S (as := [.ref p0, .int p1]) (rest := []) hC hE cw_X0_closeGap ci_X0_closeGap wd540 cs_X0_closeGap cd_X0_closeGap (by decide) (by decide) (Nat.le_of_ble_eq_true rfl) dX0_removeSlot_34 rfl) (fun v7 s8 _ => ?_)
  refine lx_iload_n hC dX0_removeSlot_37 rfl 0 rfl ?_
  exact lx_iret hC rfl hr dX0_removeSlot_38
set_option maxRecDepth 100000 in
set_option maxHeartbeats 2000000 in
theorem n_X0_replaceHeir (p0 : Nat) (p1 : Int32) (p2 : Int32) (s : Mem) : Mn s (m_X0_replaceHeir p0 p1 p2 s) := by
  unfold m_X0_replaceHeir
  refine mn_if ?_ mn_none
  refine mn_vl (fun y1 => ?_)
  refine mn_if ?_ mn_none
  refine mn_put (fun s2 => ?_)
  exact mn_some
set_option maxRecDepth 100000 in
set_option maxHeartbeats 2000000 in
theorem sat_X0_replaceHeir (l : Launch) (hl : l.stackTraces = false) (p0 : Nat) (p1 : Int32) (p2 : Int32) (hp0 : isTh p0) (s : Mem) : Sat l yX0_replaceHeir (.code yX0_replaceHeir cX0_replaceHeir 4 (some .int)) 30 500 (fun x => some (.int x)) [.ref p0, .int p1, .int p2] s (m_X0_replaceHeir p0 p1 p2 s) := by
  refine sat_of hl (by decide) (Nat.le_of_ble_eq_true rfl) (fun X V A adV hxl hC hE hx hr => ?_) (n_X0_replaceHeir p0 p1 p2 s)
  subst hxl
  show LX X V A 30 500 (nC s) (nS s) _ 0 [(0, .ref p0), (1, .int p1), (2, .int p2)] [] s _
  unfold m_X0_replaceHeir
  refine lx_aload_n hC dX0_replaceHeir_0 rfl 0 rfl ?_
  refine lx_getR (q := p0 + 576) hC (th_o hp0) rfl 8 (by decide) rfl rfl inX6 wd101 dX0_replaceHeir_1 ?_
  refine lx_iload_n hC dX0_replaceHeir_4 rfl 1 rfl ?_
  refine lx_iaload hC (th_a8 hp0) dX0_replaceHeir_5 ?_
  refine lx_istore_nN hC dX0_replaceHeir_6 rfl (by decide) (fun y1 => ?_)
  refine lx_aload_n hC dX0_replaceHeir_7 rfl 1 rfl ?_
  refine lx_getR (q := p0 + 576) hC (th_o hp0) rfl 8 (by decide) rfl rfl inX6 wd101 dX0_replaceHeir_8 ?_
  refine lx_iload_n hC dX0_replaceHeir_11 rfl 2 rfl ?_
  refine lx_iload_n hC dX0_replaceHeir_12 rfl 3 rfl ?_
  refine lx_iastore hC (th_a8 hp0) dX0_replaceHeir_13 (fun s2 => ?_)
  refine lx_iload_n hC dX0_replaceHeir_14 rfl 0 rfl ?_
  exact lx_iret hC rfl hr dX0_replaceHeir_15
set_option maxRecDepth 100000 in
set_option maxHeartbeats 2000000 in
theorem l_X6_lockedRows_b4 {X : Cx} {V : Vx} {A : Nat → Prop} {adV : Nat → Nat} {c0 s0 : Nat} (hC : Cok X V A yX6_lockedRows.cls cX6_lockedRows 3) (hE : Env0 V adV A (xs X) (xs X).heap) (hl : (xl X).stackTraces = false) (hx : ∀ x ∈ (xc X).exceptionTable.toList, False) (hr : (xh X).sig.returnType = some .int) (q1 : Nat) (hq1 : isTh q1) (s : Mem) (kf4 : (Int32 × Int32) → Option Int32) (hk4 : ∀ a, LX X V A 30 500 c0 s0 (FM X V A (fun x => some (.int x))) 4 [(0, .ref q1), (1, .int a.1), (2, .int a.2)] [] s (pur s (kf4 a))) (w1 : Int32) (w2 : Int32) : LX X V A 30 500 c0 s0 (FM X V A (fun x => some (.int x))) 4 [(0, .ref q1), (1, .int w1), (2, .int w2)] [] s (pur s (m_X6_lockedRows_b4 q1 s kf4 w1 w2 )) := by
  unfold m_X6_lockedRows_b4
  refine lx_iload_n hC dX6_lockedRows_4 rfl 2 rfl ?_
  refine lx_aload_n hC dX6_lockedRows_5 rfl 0 rfl ?_
  refine lx_getI hC (th_o hq1) rfl 4 (by decide) rfl inX6 wd86 dX6_lockedRows_6 ?_
  refine lq_icmp_ge hC 30 dX6_lockedRows_9 (by decide) ?_ ?_
  · skip
    refine lx_iload_n hC dX6_lockedRows_30 rfl 1 rfl ?_
    exact lx_iret hC rfl hr dX6_lockedRows_31
  · skip
    refine lx_aload_n hC dX6_lockedRows_12 rfl 0 rfl ?_
    refine lx_getR (q := q1 + 192) hC (th_o hq1) rfl 2 (by decide) rfl rfl inX6 wd78 dX6_lockedRows_13 ?_
    refine lx_iload_n hC dX6_lockedRows_16 rfl 2 rfl ?_
    refine lq_zaload hC (th_a2 hq1) dX6_lockedRows_17 ?_
    refine lq_if_eq hC 24 dX6_lockedRows_18 (by decide) ?_ ?_
    · skip
      refine lq_iincN (v := 1) hC dX6_lockedRows_24 2 rfl (by decide) rfl (fun y2 => ?_)
      refine lx_goto hC 4 dX6_lockedRows_27 (by decide) ?_
      exact lx_sub [1, 2, 0] rfl (hk4 (w1, y2))
    · skip
      refine lq_iincN (v := 1) hC dX6_lockedRows_21 1 rfl (by decide) rfl (fun y3 => ?_)
      refine lq_iincN (v := 1) hC dX6_lockedRows_24 2 rfl (by decide) rfl (fun y4 => ?_)
      refine lx_goto hC 4 dX6_lockedRows_27 (by decide) ?_
      exact lx_sub [2, 1, 0] rfl (hk4 (y3, y4))
set_option maxRecDepth 100000 in
set_option maxHeartbeats 2000000 in
theorem sat_X6_lockedRows (l : Launch) (hl : l.stackTraces = false) (t : Nat) (ht : isTh t) (s : Mem) : Sat l yX6_lockedRows (.code yX6_lockedRows cX6_lockedRows 3 (some .int)) 30 500 (fun x => some (.int x)) [.ref t] s (pur s (m_X6_lockedRows t s)) := by
  refine sat_of hl (by decide) (Nat.le_of_ble_eq_true rfl) (fun X V A adV hxl hC hE hx hr => ?_) pur_mono
  subst hxl
  show LX X V A 30 500 (nC s) (nS s) _ 0 [(0, .ref t)] [] s _
  unfold m_X6_lockedRows
  refine lx_iconstv (v := 0) hC dX6_lockedRows_0 rfl ?_
  refine lx_istore_n hC dX6_lockedRows_1 rfl (by decide) ?_
  refine lx_iconstv (v := 0) hC dX6_lockedRows_2 rfl ?_
  refine lx_istore_n hC dX6_lockedRows_3 rfl (by decide) ?_
  refine lx_sub [2, 1, 0] rfl ?_
  exact lq_lp (lv := fun a => [(0, .ref t), (1, .int a.1), (2, .int a.2)]) (st := fun _ => []) (fun kf hq a => l_X6_lockedRows_b4 hC hE hl hx hr t ht s kf hq a.1 a.2) FUEL (0, 0)
set_option maxRecDepth 100000 in
set_option maxHeartbeats 2000000 in
theorem n_X0_setLocked (p0 : Nat) (p1 : Int32) (p2 : Int32) (s : Mem) : Mn s (m_X0_setLocked p0 p1 p2 s) := by
  unfold m_X0_setLocked
  refine mn_if ?_ mn_none
  refine mn_put (fun s1 => ?_)
  refine mn_bindP (fun v2 => ?_)
  exact mn_some
set_option maxRecDepth 100000 in
set_option maxHeartbeats 2000000 in
theorem sat_X0_setLocked (l : Launch) (hl : l.stackTraces = false) (p0 : Nat) (p1 : Int32) (p2 : Int32) (hp0 : isTh p0) (s : Mem) : Sat l yX0_setLocked (.code yX0_setLocked cX0_setLocked 3 (some .int)) 31 522 (fun x => some (.int x)) [.ref p0, .int p1, .int p2] s (m_X0_setLocked p0 p1 p2 s) := by
  refine sat_of hl (by decide) (Nat.le_of_ble_eq_true rfl) (fun X V A adV hxl hC hE hx hr => ?_) (n_X0_setLocked p0 p1 p2 s)
  subst hxl
  show LX X V A 31 522 (nC s) (nS s) _ 0 [(0, .ref p0), (1, .int p1), (2, .int p2)] [] s _
  unfold m_X0_setLocked
  refine lx_aload_n hC dX0_setLocked_0 rfl 0 rfl ?_
  refine lx_getR (q := p0 + 192) hC (th_o hp0) rfl 2 (by decide) rfl rfl inX6 wd80 dX0_setLocked_1 ?_
  refine lx_iload_n hC dX0_setLocked_4 rfl 1 rfl ?_
  refine lx_iload_n hC dX0_setLocked_5 rfl 2 rfl ?_
  refine lx_zastore hC (th_a2 hp0) dX0_setLocked_6 (fun s1 => ?_)
  refine lx_aload_n hC dX0_setLocked_7 rfl 0 rfl ?_
  refine lx_callP hC hx (sat_X6_lockedRows (xl X) hl p0 hp0 s1) (run_V (as := []) (rest := []) hC hE (th_o hp0) rfl cw_X6_lockedRows ci_X6_lockedRows wd550 cs_X6_lockedRows ce_X6_lockedRows cd_X6_lockedRows (by decide) (by decide) (Nat.le_of_ble_eq_true rfl) dX0_setLocked_8 rfl) (fun v2 _ => ?_)
  exact lx_iret hC rfl hr dX0_setLocked_11
set_option maxRecDepth 100000 in
set_option maxHeartbeats 2000000 in
theorem n_X0_nameByBox (p0 : Nat) (p1 : Int32) (p2 : Int32) (s : Mem) : Mn s (m_X0_nameByBox p0 p1 p2 s) := by
  unfold m_X0_nameByBox
  refine mn_if ?_ mn_none
  refine mn_vl (fun y1 => ?_)
  refine mn_if ?_ mn_none
  refine mn_put (fun s2 => ?_)
  exact mn_some
set_option maxRecDepth 100000 in
set_option maxHeartbeats 2000000 in
theorem sat_X0_nameByBox (l : Launch) (hl : l.stackTraces = false) (p0 : Nat) (p1 : Int32) (p2 : Int32) (hp0 : isTh p0) (s : Mem) : Sat l yX0_nameByBox (.code yX0_nameByBox cX0_nameByBox 4 (some .int)) 30 500 (fun x => some (.int x)) [.ref p0, .int p1, .int p2] s (m_X0_nameByBox p0 p1 p2 s) := by
  refine sat_of hl (by decide) (Nat.le_of_ble_eq_true rfl) (fun X V A adV hxl hC hE hx hr => ?_) (n_X0_nameByBox p0 p1 p2 s)
  subst hxl
  show LX X V A 30 500 (nC s) (nS s) _ 0 [(0, .ref p0), (1, .int p1), (2, .int p2)] [] s _
  unfold m_X0_nameByBox
  refine lx_aload_n hC dX0_nameByBox_0 rfl 0 rfl ?_
  refine lx_getR (q := p0 + 256) hC (th_o hp0) rfl 3 (by decide) rfl rfl inX6 wd83 dX0_nameByBox_1 ?_
  refine lx_iload_n hC dX0_nameByBox_4 rfl 1 rfl ?_
  refine lx_iaload hC (th_a3 hp0) dX0_nameByBox_5 ?_
  refine lx_istore_nN hC dX0_nameByBox_6 rfl (by decide) (fun y1 => ?_)
  refine lx_aload_n hC dX0_nameByBox_7 rfl 1 rfl ?_
  refine lx_getR (q := p0 + 256) hC (th_o hp0) rfl 3 (by decide) rfl rfl inX6 wd83 dX0_nameByBox_8 ?_
  refine lx_iload_n hC dX0_nameByBox_11 rfl 2 rfl ?_
  refine lx_iload_n hC dX0_nameByBox_12 rfl 3 rfl ?_
  refine lx_iastore hC (th_a3 hp0) dX0_nameByBox_13 (fun s2 => ?_)
  refine lx_iload_n hC dX0_nameByBox_14 rfl 0 rfl ?_
  exact lx_iret hC rfl hr dX0_nameByBox_15
set_option maxRecDepth 100000 in
set_option maxHeartbeats 2000000 in
theorem sat_X6_overfull (l : Launch) (hl : l.stackTraces = false) (t : Nat) (p0 : Int32) (ht : isTh t) (s : Mem) : Sat l yX6_overfull (.code yX6_overfull cX6_overfull 2 (some .boolean)) 31 523 (fun x => some (.int x)) [.ref t, .int p0] s (pur s (m_X6_overfull t p0 s)) := by
  refine sat_of hl (by decide) (Nat.le_of_ble_eq_true rfl) (fun X V A adV hxl hC hE hx hr => ?_) pur_mono
  subst hxl
  show LX X V A 31 523 (nC s) (nS s) _ 0 [(0, .ref t), (1, .int p0)] [] s _
  unfold m_X6_overfull
  refine lx_aload_n hC dX6_overfull_0 rfl 0 rfl ?_
  refine lx_iload_n hC dX6_overfull_1 rfl 1 rfl ?_
  refine lq_call hC hx (sat_X6_echoesIn (xl X) hl t p0 ht s) (run_V (as := [.int p0]) (rest := []) hC hE (th_o ht) rfl cw_X6_echoesIn ci_X6_echoesIn wd349 cs_X6_echoesIn ce_X6_echoesIn cd_X6_echoesIn (by decide) (by decide) (Nat.le_of_ble_eq_true rfl) dX6_overfull_2 rfl) (fun v1 _ => ?_)
  refine lx_aload_n hC dX6_overfull_5 rfl 0 rfl ?_
  refine lx_getR (q := t + 64) hC (th_o ht) rfl 0 (by decide) rfl rfl inX6 wd71 dX6_overfull_6 ?_
  refine lx_iload_n hC dX6_overfull_9 rfl 1 rfl ?_
  refine lq_iaload hC (th_a0 ht) dX6_overfull_10 ?_
  refine lq_icmp_le hC 18 dX6_overfull_11 (by decide) ?_ ?_
  · skip
    refine lx_iconstv (v := 0) hC dX6_overfull_18 rfl ?_
    exact lx_zret hC rfl hr rfl dX6_overfull_19
  · skip
    refine lx_iconstv (v := 1) hC dX6_overfull_14 rfl ?_
    refine lx_goto hC 19 dX6_overfull_15 (by decide) ?_
    exact lx_zret hC rfl hr rfl dX6_overfull_19
set_option maxRecDepth 100000 in
set_option maxHeartbeats 2000000 in
theorem l_X6_loudestSlot_j44 {X : Cx} {V : Vx} {A : Nat → Prop} {adV : Nat → Nat} {c0 s0 : Nat} (hC : Cok X V A yX6_loudestSlot.cls cX6_loudestSlot 7) (hE : Env0 V adV A (xs X) (xs X).heap) (hl : (xl X).stackTraces = false) (hx : ∀ x ∈ (xc X).exceptionTable.toList, False) (hr : (xh X).sig.returnType = some .int) (q1 : Nat) (x2 : Int32) (x3 : Int32) (x7 : Int32) (x8 : Int32) (x9 : Int32) (x10 : Int32) (hq1 : isTh q1) (s : Mem) (kf8 : (Int32 × Int32 × Int32) → Option Int32) (hk8 : ∀ a, LX X V A 30 500 c0 s0 (FM X V A (fun x => some (.int x))) 8 [(0, .ref q1), (1, .int x2), (2, .int x3), (3, .int a.1), (4, .int a.2.1), (5, .int a.2.2)] [] s (pur s (kf8 a))) : LX X V A 30 500 c0 s0 (FM X V A (fun x => some (.int x))) 44 [(0, .ref q1), (1, .int x2), (2, .int x3), (3, .int x7), (4, .int x8), (5, .int x9)] [.int x10] s (pur s (m_X6_loudestSlot_j44 q1 x2 x3 x7 x8 x9 x10 s kf8 )) := by
  unfold m_X6_loudestSlot_j44
  refine lx_istore hC dX6_loudestSlot_44 (by decide) ?_
  refine lx_iload hC dX6_loudestSlot_46 0 rfl ?_
  refine lq_if_eq hC 75 dX6_loudestSlot_48 (by decide) ?_ ?_
  · skip
    refine lq_iincN (v := 1) hC dX6_loudestSlot_75 6 rfl (by decide) rfl (fun y11 => ?_)
    refine lx_goto hC 8 dX6_loudestSlot_78 (by decide) ?_
    exact lx_sub [2, 3, 4, 5, 6, 0] rfl (hk8 (x7, x8, y11))
  · skip
    refine lx_aload_n hC dX6_loudestSlot_51 rfl 1 rfl ?_
    refine lx_getR (q := q1 + 512) hC (th_o hq1) rfl 7 (by decide) rfl rfl inX6 wd97 dX6_loudestSlot_52 ?_
    refine lx_iload hC dX6_loudestSlot_55 6 rfl ?_
    refine lq_iaload hC (th_a7 hq1) dX6_loudestSlot_57 ?_
    refine lx_iload hC dX6_loudestSlot_58 5 rfl ?_
    refine lq_icmp_le hC 75 dX6_loudestSlot_60 (by decide) ?_ ?_
    · skip
      refine lq_iincN (v := 1) hC dX6_loudestSlot_75 6 rfl (by decide) rfl (fun y12 => ?_)
      refine lx_goto hC 8 dX6_loudestSlot_78 (by decide) ?_
      exact lx_sub [2, 3, 4, 5, 6, 0] rfl (hk8 (x7, x8, y12))
    · skip
      refine lx_iload hC dX6_loudestSlot_63 6 rfl ?_
      refine lx_istore_n hC dX6_loudestSlot_65 rfl (by decide) ?_
      refine lx_aload_n hC dX6_loudestSlot_66 rfl 2 rfl ?_
      refine lx_getR (q := q1 + 512) hC (th_o hq1) rfl 7 (by decide) rfl rfl inX6 wd97 dX6_loudestSlot_67 ?_
      refine lx_iload hC dX6_loudestSlot_70 6 rfl ?_
      refine lq_iaload hC (th_a7 hq1) dX6_loudestSlot_72 ?_
      refine lq_istoreN hC dX6_loudestSlot_73 (by decide) (fun y13 => ?_)
      refine lq_iincN (v := 1) hC dX6_loudestSlot_75 6 rfl (by decide) rfl (fun y14 => ?_)
      refine lx_goto hC 8 dX6_loudestSlot_78 (by decide) ?_
      exact lx_sub [4, 5, 6, 2, 1, 0] rfl (hk8 (x9, y13, y14))
set_option maxRecDepth 100000 in
set_option maxHeartbeats 2000000 in
theorem l_X6_loudestSlot_j43 {X : Cx} {V : Vx} {A : Nat → Prop} {adV : Nat → Nat} {c0 s0 : Nat} (hC : Cok X V A yX6_loudestSlot.cls cX6_loudestSlot 7) (hE : Env0 V adV A (xs X) (xs X).heap) (hl : (xl X).stackTraces = false) (hx : ∀ x ∈ (xc X).exceptionTable.toList, False) (hr : (xh X).sig.returnType = some .int) (q1 : Nat) (x2 : Int32) (x3 : Int32) (x4 : Int32) (x5 : Int32) (x6 : Int32) (hq1 : isTh q1) (s : Mem) (kf8 : (Int32 × Int32 × Int32) → Option Int32) (hk8 : ∀ a, LX X V A 30 500 c0 s0 (FM X V A (fun x => some (.int x))) 8 [(0, .ref q1), (1, .int x2), (2, .int x3), (3, .int a.1), (4, .int a.2.1), (5, .int a.2.2)] [] s (pur s (kf8 a))) : LX X V A 30 500 c0 s0 (FM X V A (fun x => some (.int x))) 43 [(0, .ref q1), (1, .int x2), (2, .int x3), (3, .int x4), (4, .int x5), (5, .int x6)] [] s (pur s (m_X6_loudestSlot_j43 q1 x2 x3 x4 x5 x6 s kf8 )) := by
  unfold m_X6_loudestSlot_j43
  refine lx_iconstv (v := 0) hC dX6_loudestSlot_43 rfl ?_
  exact lx_sub [0, 1, 2, 3, 4, 5] rfl (l_X6_loudestSlot_j44 hC hE hl hx hr q1 x2 x3 x4 x5 x6 0 hq1 s kf8 hk8 )
set_option maxRecDepth 100000 in
set_option maxHeartbeats 2000000 in
theorem l_X6_loudestSlot_b8 {X : Cx} {V : Vx} {A : Nat → Prop} {adV : Nat → Nat} {c0 s0 : Nat} (hC : Cok X V A yX6_loudestSlot.cls cX6_loudestSlot 7) (hE : Env0 V adV A (xs X) (xs X).heap) (hl : (xl X).stackTraces = false) (hx : ∀ x ∈ (xc X).exceptionTable.toList, False) (hr : (xh X).sig.returnType = some .int) (q1 : Nat) (x2 : Int32) (x3 : Int32) (hq1 : isTh q1) (s : Mem) (kf8 : (Int32 × Int32 × Int32) → Option Int32) (hk8 : ∀ a, LX X V A 30 500 c0 s0 (FM X V A (fun x => some (.int x))) 8 [(0, .ref q1), (1, .int x2), (2, .int x3), (3, .int a.1), (4, .int a.2.1), (5, .int a.2.2)] [] s (pur s (kf8 a))) (w3 : Int32) (w4 : Int32) (w5 : Int32) : LX X V A 30 500 c0 s0 (FM X V A (fun x => some (.int x))) 8 [(0, .ref q1), (1, .int x2), (2, .int x3), (3, .int w3), (4, .int w4), (5, .int w5)] [] s (pur s (m_X6_loudestSlot_b8 q1 x2 x3 s kf8 w3 w4 w5 )) := by
  unfold m_X6_loudestSlot_b8
  refine lx_iload hC dX6_loudestSlot_8 5 rfl ?_
  refine lx_aload_n hC dX6_loudestSlot_10 rfl 0 rfl ?_
  refine lx_getI hC (th_o hq1) rfl 9 (by decide) rfl inX6 wd105 dX6_loudestSlot_11 ?_
  refine lq_icmp_ge hC 81 dX6_loudestSlot_14 (by decide) ?_ ?_
  · skip
    refine lx_iload_n hC dX6_loudestSlot_81 rfl 3 rfl ?_
    exact lx_iret hC rfl hr dX6_loudestSlot_82
  · skip
    refine lx_aload_n hC dX6_loudestSlot_17 rfl 0 rfl ?_
    refine lx_getR (q := q1 + 448) hC (th_o hq1) rfl 6 (by decide) rfl rfl inX6 wd93 dX6_loudestSlot_18 ?_
    refine lx_iload hC dX6_loudestSlot_21 5 rfl ?_
    refine lq_iaload hC (th_a6 hq1) dX6_loudestSlot_23 ?_
    refine lx_iload_n hC dX6_loudestSlot_24 rfl 1 rfl ?_
    refine lq_icmp_lt hC 43 dX6_loudestSlot_25 (by decide) ?_ ?_
    · skip
      exact lx_sub [0, 1, 2, 3, 4, 5] rfl (l_X6_loudestSlot_j43 hC hE hl hx hr q1 x2 x3 w3 w4 w5 hq1 s kf8 hk8 )
    · skip
      refine lx_aload_n hC dX6_loudestSlot_28 rfl 0 rfl ?_
      refine lx_getR (q := q1 + 448) hC (th_o hq1) rfl 6 (by decide) rfl rfl inX6 wd93 dX6_loudestSlot_29 ?_
      refine lx_iload hC dX6_loudestSlot_32 5 rfl ?_
      refine lq_iaload hC (th_a6 hq1) dX6_loudestSlot_34 ?_
      refine lx_iload_n hC dX6_loudestSlot_35 rfl 2 rfl ?_
      refine lq_icmp_gt hC 43 dX6_loudestSlot_36 (by decide) ?_ ?_
      · skip
        exact lx_sub [0, 1, 2, 3, 4, 5] rfl (l_X6_loudestSlot_j43 hC hE hl hx hr q1 x2 x3 w3 w4 w5 hq1 s kf8 hk8 )
      · skip
        refine lx_iconstv (v := 1) hC dX6_loudestSlot_39 rfl ?_
        refine lx_goto hC 44 dX6_loudestSlot_40 (by decide) ?_
        exact lx_sub [0, 1, 2, 3, 4, 5] rfl (l_X6_loudestSlot_j44 hC hE hl hx hr q1 x2 x3 w3 w4 w5 1 hq1 s kf8 hk8 )
set_option maxRecDepth 100000 in
set_option maxHeartbeats 2000000 in
theorem sat_X6_loudestSlot (l : Launch) (hl : l.stackTraces = false) (t : Nat) (p0 : Int32) (p1 : Int32) (ht : isTh t) (s : Mem) : Sat l yX6_loudestSlot (.code yX6_loudestSlot cX6_loudestSlot 7 (some .int)) 30 500 (fun x => some (.int x)) [.ref t, .int p0, .int p1] s (pur s (m_X6_loudestSlot t p0 p1 s)) := by
  refine sat_of hl (by decide) (Nat.le_of_ble_eq_true rfl) (fun X V A adV hxl hC hE hx hr => ?_) pur_mono
  subst hxl
  show LX X V A 30 500 (nC s) (nS s) _ 0 [(0, .ref t), (1, .int p0), (2, .int p1)] [] s _
  unfold m_X6_loudestSlot
  refine lx_iconstv (v := (-1)) hC dX6_loudestSlot_0 rfl ?_
  refine lx_istore_n hC dX6_loudestSlot_1 rfl (by decide) ?_
  refine lx_iconstv (v := 0) hC dX6_loudestSlot_2 rfl ?_
  refine lx_istore hC dX6_loudestSlot_3 (by decide) ?_
  refine lx_iconstv (v := 0) hC dX6_loudestSlot_5 rfl ?_
  refine lx_istore hC dX6_loudestSlot_6 (by decide) ?_
  refine lx_sub [3, 4, 5, 2, 1, 0] rfl ?_
  exact lq_lp (lv := fun a => [(0, .ref t), (1, .int p0), (2, .int p1), (3, .int a.1), (4, .int a.2.1), (5, .int a.2.2)]) (st := fun _ => []) (fun kf hq a => l_X6_loudestSlot_b8 hC hE hl hx hr t p0 p1 ht s kf hq a.1 a.2.1 a.2.2) FUEL ((-1), 0, 0)
set_option maxRecDepth 100000 in
set_option maxHeartbeats 2000000 in
theorem l_X6_rowForSpreading_j32 {X : Cx} {V : Vx} {A : Nat → Prop} {adV : Nat → Nat} {c0 s0 : Nat} (hC : Cok X V A yX6_rowForSpreading.cls cX6_rowForSpreading 5) (hE : Env0 V adV A (xs X) (xs X).heap) (hl : (xl X).stackTraces = false) (hx : ∀ x ∈ (xc X).exceptionTable.toList, False) (hr : (xh X).sig.returnType = some .int) (q1 : Nat) (x2 : Int32) (x4 : Int32) (x5 : Int32) (hq1 : isTh q1) (s : Mem) (kf2 : Int32 → Option Int32) (hk2 : ∀ a, LX X V A 31 523 c0 s0 (FM X V A (fun x => some (.int x))) 2 [(0, .ref q1), (1, .int x2), (2, .int a)] [] s (pur s (kf2 a))) : LX X V A 31 523 c0 s0 (FM X V A (fun x => some (.int x))) 32 [(0, .ref q1), (1, .int x2), (2, .int x4)] [.int x5] s (pur s (m_X6_rowForSpreading_j32 q1 x2 x4 x5 s kf2 )) := by
  unfold m_X6_rowForSpreading_j32
  refine lx_istore hC dX6_rowForSpreading_32 (by decide) ?_
  refine lx_aload_n hC dX6_rowForSpreading_34 rfl 1 rfl ?_
  refine lx_getR (q := q1 + 192) hC (th_o hq1) rfl 2 (by decide) rfl rfl inX6 wd78 dX6_rowForSpreading_35 ?_
  refine lx_iload hC dX6_rowForSpreading_38 0 rfl ?_
  refine lq_zaload hC (th_a2 hq1) dX6_rowForSpreading_40 ?_
  refine lq_if_ne hC 63 dX6_rowForSpreading_41 (by decide) ?_ ?_
  · skip
    refine lq_iincN (v := 1) hC dX6_rowForSpreading_63 3 rfl (by decide) rfl (fun y6 => ?_)
    refine lx_goto hC 2 dX6_rowForSpreading_66 (by decide) ?_
    exact lx_sub [2, 3, 0] rfl (hk2 y6)
  · skip
    refine lx_aload_n hC dX6_rowForSpreading_44 rfl 1 rfl ?_
    refine lx_iload hC dX6_rowForSpreading_45 0 rfl ?_
    refine lq_call hC hx (sat_X6_echoesIn (xl X) hl q1 x5 hq1 s) (run_V (as := [.int x5]) (rest := []) hC hE (th_o hq1) rfl cw_X6_echoesIn ci_X6_echoesIn wd349 cs_X6_echoesIn ce_X6_echoesIn cd_X6_echoesIn (by decide) (by decide) (Nat.le_of_ble_eq_true rfl) dX6_rowForSpreading_47 rfl) (fun v7 _ => ?_)
    refine lx_aload_n hC dX6_rowForSpreading_50 rfl 1 rfl ?_
    refine lx_getR (q := q1 + 64) hC (th_o hq1) rfl 0 (by decide) rfl rfl inX6 wd71 dX6_rowForSpreading_51 ?_
    refine lx_iload hC dX6_rowForSpreading_54 0 rfl ?_
    refine lq_iaload hC (th_a0 hq1) dX6_rowForSpreading_56 ?_
    refine lq_icmp_ge hC 63 dX6_rowForSpreading_57 (by decide) ?_ ?_
    · skip
      refine lq_iincN (v := 1) hC dX6_rowForSpreading_63 3 rfl (by decide) rfl (fun y8 => ?_)
      refine lx_goto hC 2 dX6_rowForSpreading_66 (by decide) ?_
      exact lx_sub [2, 3, 0] rfl (hk2 y8)
    · skip
      refine lx_iload hC dX6_rowForSpreading_60 0 rfl ?_
      exact lx_iret hC rfl hr dX6_rowForSpreading_62
set_option maxRecDepth 100000 in
set_option maxHeartbeats 2000000 in
theorem l_X6_rowForSpreading_b2 {X : Cx} {V : Vx} {A : Nat → Prop} {adV : Nat → Nat} {c0 s0 : Nat} (hC : Cok X V A yX6_rowForSpreading.cls cX6_rowForSpreading 5) (hE : Env0 V adV A (xs X) (xs X).heap) (hl : (xl X).stackTraces = false) (hx : ∀ x ∈ (xc X).exceptionTable.toList, False) (hr : (xh X).sig.returnType = some .int) (q1 : Nat) (x2 : Int32) (hq1 : isTh q1) (s : Mem) (kf2 : Int32 → Option Int32) (hk2 : ∀ a, LX X V A 31 523 c0 s0 (FM X V A (fun x => some (.int x))) 2 [(0, .ref q1), (1, .int x2), (2, .int a)] [] s (pur s (kf2 a))) (w2 : Int32) : LX X V A 31 523 c0 s0 (FM X V A (fun x => some (.int x))) 2 [(0, .ref q1), (1, .int x2), (2, .int w2)] [] s (pur s (m_X6_rowForSpreading_b2 q1 x2 s kf2 w2 )) := by
  unfold m_X6_rowForSpreading_b2
  refine lx_iload_n hC dX6_rowForSpreading_2 rfl 2 rfl ?_
  refine lx_aload_n hC dX6_rowForSpreading_3 rfl 0 rfl ?_
  refine lx_getI hC (th_o hq1) rfl 4 (by decide) rfl inX6 wd86 dX6_rowForSpreading_4 ?_
  refine lq_icmp_ge hC 69 dX6_rowForSpreading_7 (by decide) ?_ ?_
  · skip
    refine lx_iconstv (v := (-1)) hC dX6_rowForSpreading_69 rfl ?_
    exact lx_iret hC rfl hr dX6_rowForSpreading_70
  · skip
    refine lx_iload_n hC dX6_rowForSpreading_10 rfl 1 rfl ?_
    refine lx_iload_n hC dX6_rowForSpreading_11 rfl 2 rfl ?_
    refine lx_iadd hC dX6_rowForSpreading_12 ?_
    refine lq_istore_nN hC dX6_rowForSpreading_13 rfl (by decide) (fun y3 => ?_)
    refine lx_iload_n hC dX6_rowForSpreading_14 rfl 0 rfl ?_
    refine lx_aload_n hC dX6_rowForSpreading_15 rfl 1 rfl ?_
    refine lx_getI hC (th_o hq1) rfl 4 (by decide) rfl inX6 wd86 dX6_rowForSpreading_16 ?_
    refine lq_icmp_ge hC 26 dX6_rowForSpreading_19 (by decide) ?_ ?_
    · skip
      refine lx_iload_n hC dX6_rowForSpreading_26 rfl 0 rfl ?_
      refine lx_aload_n hC dX6_rowForSpreading_27 rfl 1 rfl ?_
      refine lx_getI hC (th_o hq1) rfl 4 (by decide) rfl inX6 wd86 dX6_rowForSpreading_28 ?_
      refine lx_isub hC dX6_rowForSpreading_31 ?_
      exact lx_sub [1, 2, 3] rfl (l_X6_rowForSpreading_j32 hC hE hl hx hr q1 x2 w2 (y3 - (gI s q1 4)) hq1 s kf2 hk2 )
    · skip
      refine lx_iload_n hC dX6_rowForSpreading_22 rfl 0 rfl ?_
      refine lx_goto hC 32 dX6_rowForSpreading_23 (by decide) ?_
      exact lx_sub [1, 2, 3] rfl (l_X6_rowForSpreading_j32 hC hE hl hx hr q1 x2 w2 y3 hq1 s kf2 hk2 )
set_option maxRecDepth 100000 in
set_option maxHeartbeats 2000000 in
theorem sat_X6_rowForSpreading (l : Launch) (hl : l.stackTraces = false) (t : Nat) (p0 : Int32) (ht : isTh t) (s : Mem) : Sat l yX6_rowForSpreading (.code yX6_rowForSpreading cX6_rowForSpreading 5 (some .int)) 31 523 (fun x => some (.int x)) [.ref t, .int p0] s (pur s (m_X6_rowForSpreading t p0 s)) := by
  refine sat_of hl (by decide) (Nat.le_of_ble_eq_true rfl) (fun X V A adV hxl hC hE hx hr => ?_) pur_mono
  subst hxl
  show LX X V A 31 523 (nC s) (nS s) _ 0 [(0, .ref t), (1, .int p0)] [] s _
  unfold m_X6_rowForSpreading
  refine lx_iconstv (v := 1) hC dX6_rowForSpreading_0 rfl ?_
  refine lx_istore_n hC dX6_rowForSpreading_1 rfl (by decide) ?_
  refine lx_sub [1, 2, 0] rfl ?_
  exact lq_lp (lv := fun a => [(0, .ref t), (1, .int p0), (2, .int a)]) (st := fun _ => []) (fun kf hq a => l_X6_rowForSpreading_b2 hC hE hl hx hr t p0 ht s kf hq a) FUEL 1
set_option maxRecDepth 100000 in
set_option maxHeartbeats 2000000 in
theorem l_X0_spreadOut_b2 {X : Cx} {V : Vx} {A : Nat → Prop} {adV : Nat → Nat} {c0 s0 : Nat} (hC : Cok X V A yX0_spreadOut.cls cX0_spreadOut 5) (hE : Env0 V adV A (xs X) (xs X).heap) (hl : (xl X).stackTraces = false) (hx : ∀ x ∈ (xc X).exceptionTable.toList, False) (hr : (xh X).sig.returnType = some .int) (q1 : Nat) (x2 : Int32) (hq1 : isTh q1) (s : Mem) (kf2 : (Int32 × Mem) → Res Int32) (hk2 : ∀ a, LX X V A 32 547 c0 s0 (FM X V A (fun x => some (.int x))) 2 [(0, .ref q1), (1, .int x2), (2, .int a.1)] [] a.2 (kf2 a)) (w2 : Int32) : LX X V A 32 547 c0 s0 (FM X V A (fun x => some (.int x))) 2 [(0, .ref q1), (1, .int x2), (2, .int w2)] [] s (m_X0_spreadOut_b2 q1 x2 s kf2 w2 ) := by
  unfold m_X0_spreadOut_b2
  refine lx_iload_n hC dX0_spreadOut_2 rfl 2 rfl ?_
  refine lx_bipush (v := 24) hC dX0_spreadOut_3 (by decide) ?_
  refine lx_icmp_ge hC 57 dX0_spreadOut_5 (by decide) ?_ ?_
  · skip
    refine lx_iload_n hC dX0_spreadOut_57 rfl 2 rfl ?_
    exact lx_iret hC rfl hr dX0_spreadOut_58
  · skip
    refine lx_aload_n hC dX0_spreadOut_8 rfl 0 rfl ?_
    refine lx_iload_n hC dX0_spreadOut_9 rfl 1 rfl ?_
    refine lx_callP hC hx (sat_X6_overfull (xl X) hl q1 x2 hq1 s) (run_V (as := [.int x2]) (rest := []) hC hE (th_o hq1) rfl cw_X6_overfull ci_X6_overfull wd560 cs_X6_overfull ce_X6_overfull cd_X6_overfull (by decide) (by decide) (Nat.le_of_ble_eq_true rfl) dX0_spreadOut_10 rfl) (fun v3 _ => ?_)
    refine lx_if_eq hC 57 dX0_spreadOut_13 (by decide) ?_ ?_
    · skip
      refine lx_iload_n hC dX0_spreadOut_57 rfl 2 rfl ?_
      exact lx_iret hC rfl hr dX0_spreadOut_58
    · skip
      refine lx_aload_n hC dX0_spreadOut_16 rfl 0 rfl ?_
      refine lx_iload_n hC dX0_spreadOut_17 rfl 1 rfl ?_
      refine lx_iload_n hC dX0_spreadOut_18 rfl 1 rfl ?_
      refine lx_callP hC hx (sat_X6_loudestSlot (xl X) hl q1 x2 x2 hq1 s) (run_V (as := [.int x2, .int x2]) (rest := []) hC hE (th_o hq1) rfl cw_X6_loudestSlot ci_X6_loudestSlot wd564 cs_X6_loudestSlot ce_X6_loudestSlot cd_X6_loudestSlot (by decide) (by decide) (Nat.le_of_ble_eq_true rfl) dX0_spreadOut_19 rfl) (fun v4 _ => ?_)
      refine lx_istore_n hC dX0_spreadOut_22 rfl (by decide) ?_
      refine lx_aload_n hC dX0_spreadOut_23 rfl 1 rfl ?_
      refine lx_iload_n hC dX0_spreadOut_24 rfl 2 rfl ?_
      refine lx_callP hC hx (sat_X6_rowForSpreading (xl X) hl q1 x2 hq1 s) (run_V (as := [.int x2]) (rest := []) hC hE (th_o hq1) rfl cw_X6_rowForSpreading ci_X6_rowForSpreading wd568 cs_X6_rowForSpreading ce_X6_rowForSpreading cd_X6_rowForSpreading (by decide) (by decide) (Nat.le_of_ble_eq_true rfl) dX0_spreadOut_25 rfl) (fun v5 _ => ?_)
      refine lx_istore hC dX0_spreadOut_28 (by decide) ?_
      refine lx_iload_n hC dX0_spreadOut_30 rfl 1 rfl ?_
      refine lx_iconstv (v := (-1)) hC dX0_spreadOut_31 rfl ?_
      refine lx_icmp_eq hC 41 dX0_spreadOut_32 (by decide) ?_ ?_
      · skip
        refine lx_iload_n hC dX0_spreadOut_41 rfl 4 rfl ?_
        exact lx_iret hC rfl hr dX0_spreadOut_42
      · skip
        refine lx_iload hC dX0_spreadOut_35 0 rfl ?_
        refine lx_iconstv (v := (-1)) hC dX0_spreadOut_37 rfl ?_
        refine lx_icmp_ne hC 43 dX0_spreadOut_38 (by decide) ?_ ?_
        · skip
          refine lx_aload_n hC dX0_spreadOut_43 rfl 2 rfl ?_
          refine lx_iload_n hC dX0_spreadOut_44 rfl 1 rfl ?_
          refine lx_iload hC dX0_spreadOut_45 0 rfl ?_
          refine lx_callX hC hx (sat_X0_moveSlot (xl X) hl q1 v4 v5 hq1 s) (run_S (as := [.ref q1, .int v4, .int v5]) (rest := []) hC hE cw_X0_moveSlot ci_X0_moveSlot wd524 cs_X0_moveSlot cd_X0_moveSlot (by decide) (by decide) (Nat.le_of_ble_eq_true rfl) dX0_spreadOut_47 rfl) (fun v6 s7 _ => ?_)
          refine lx_pop_int hC dX0_spreadOut_50 ?_
          refine lx_iincN (v := 1) hC dX0_spreadOut_51 4 rfl (by decide) rfl (fun y8 => ?_)
          refine lx_goto hC 2 dX0_spreadOut_54 (by decide) ?_
          exact lx_sub [3, 4, 0] rfl (hk2 (y8, s7))
        · skip
          refine lx_iload_n hC dX0_spreadOut_41 rfl 4 rfl ?_
          exact lx_iret hC rfl hr dX0_spreadOut_42
set_option maxRecDepth 100000 in
set_option maxHeartbeats 2000000 in
theorem n_X0_spreadOut_b2 (q1 : Nat) (x2 : Int32) (s : Mem) (kf2 : (Int32 × Mem) → Res Int32) (hm2 : ∀ a, Mn a.2 (kf2 a)) (w2 : Int32) : Mn s (m_X0_spreadOut_b2 q1 x2 s kf2 w2 ) := by
  unfold m_X0_spreadOut_b2
  refine mn_if ?_ ?_
  · skip
    exact mn_some
  · skip
    refine mn_bindP (fun v3 => ?_)
    refine mn_if ?_ ?_
    · skip
      exact mn_some
    · skip
      refine mn_bindP (fun v4 => ?_)
      refine mn_bindP (fun v5 => ?_)
      refine mn_if ?_ ?_
      · skip
        exact mn_some
      · skip
        refine mn_if ?_ ?_
        · skip
          refine mn_bind (n_X0_moveSlot q1 v4 v5 s) (fun v6 s7 => ?_)
          refine mn_vl (fun y8 => ?_)
          exact hm2 (y8, s7)
        · skip
          exact mn_some
set_option maxRecDepth 100000 in
set_option maxHeartbeats 2000000 in
theorem n_X0_spreadOut (p0 : Nat) (p1 : Int32) (s : Mem) : Mn s (m_X0_spreadOut p0 p1 s) := by
  unfold m_X0_spreadOut
  exact mn_lp (sg := fun a => a.2) (fun kf hq a => n_X0_spreadOut_b2 p0 p1 a.2 kf hq a.1) FUEL (0, s)
set_option maxRecDepth 100000 in
set_option maxHeartbeats 2000000 in
theorem sat_X0_spreadOut (l : Launch) (hl : l.stackTraces = false) (p0 : Nat) (p1 : Int32) (hp0 : isTh p0) (s : Mem) : Sat l yX0_spreadOut (.code yX0_spreadOut cX0_spreadOut 5 (some .int)) 32 547 (fun x => some (.int x)) [.ref p0, .int p1] s (m_X0_spreadOut p0 p1 s) := by
  refine sat_of hl (by decide) (Nat.le_of_ble_eq_true rfl) (fun X V A adV hxl hC hE hx hr => ?_) (n_X0_spreadOut p0 p1 s)
  subst hxl
  show LX X V A 32 547 (nC s) (nS s) _ 0 [(0, .ref p0), (1, .int p1)] [] s _
  unfold m_X0_spreadOut
  refine lx_iconstv (v := 0) hC dX0_spreadOut_0 rfl ?_
  refine lx_istore_n hC dX0_spreadOut_1 rfl (by decide) ?_
  refine lx_sub [1, 2, 0] rfl ?_
  exact lx_lp (lv := fun a => [(0, .ref p0), (1, .int p1), (2, .int a.1)]) (st := fun _ => []) (sg := fun a => a.2) (fun kf hq a => l_X0_spreadOut_b2 hC hE hl hx hr p0 p1 hp0 a.2 kf hq a.1) FUEL (0, s)
set_option maxRecDepth 100000 in
set_option maxHeartbeats 2000000 in
theorem n_X0_carryOut (p0 : Nat) (p1 : Int32) (p2 : Int32) (p3 : Int32) (s : Mem) : Mn s (m_X0_carryOut p0 p1 p2 p3 s) := by
  unfold m_X0_carryOut
  refine mn_if ?_ ?_
  · skip
    refine mn_bind (n_X0_openRow p0 p2 s) (fun v2 s3 => ?_)
    exact mn_some
  · skip
    refine mn_if ?_ ?_
    · skip
      refine mn_bind (n_X0_changePhantoms p0 p2 p3 s) (fun v5 s6 => ?_)
      exact mn_some
    · skip
      refine mn_if ?_ ?_
      · skip
        refine mn_bind (n_X0_changePhantoms p0 p2 (-p3) s) (fun v8 s9 => ?_)
        exact mn_some
      · skip
        refine mn_if ?_ ?_
        · skip
          refine mn_bind (n_X0_addEcho p0 p2 p3 s) (fun v11 s12 => ?_)
          exact mn_some
        · skip
          refine mn_if ?_ ?_
          · skip
            refine mn_bindP (fun v14 => ?_)
            refine mn_bind (n_X0_moveSlot p0 v14 p3 s) (fun v15 s16 => ?_)
            exact mn_some
          · skip
            refine mn_if ?_ ?_
            · skip
              refine mn_bindP (fun v18 => ?_)
              refine mn_bind (n_X0_removeSlot p0 v18 s) (fun v19 s20 => ?_)
              exact mn_some
            · skip
              refine mn_if ?_ ?_
              · skip
                refine mn_bindP (fun v22 => ?_)
                refine mn_bind (n_X0_replaceHeir p0 v22 p3 s) (fun v23 s24 => ?_)
                exact mn_some
              · skip
                refine mn_if ?_ ?_
                · skip
                  refine mn_bindP (fun v26 => ?_)
                  refine mn_bind (n_X0_replaceHeir p0 v26 (-1) s) (fun v27 s28 => ?_)
                  exact mn_some
                · skip
                  refine mn_if ?_ ?_
                  · skip
                    refine mn_bind (n_X0_setLocked p0 p2 1 s) (fun v30 s31 => ?_)
                    exact mn_some
                  · skip
                    refine mn_if ?_ ?_
                    · skip
                      refine mn_bind (n_X0_setLocked p0 p2 0 s) (fun v33 s34 => ?_)
                      exact mn_some
                    · skip
                      refine mn_if ?_ ?_
                      · skip
                        refine mn_bind (n_X0_nameByBox p0 (p2 - 97) p3 s) (fun v36 s37 => ?_)
                        exact mn_some
                      · skip
                        refine mn_bind (n_X0_spreadOut p0 p2 s) (fun v38 s39 => ?_)
                        exact mn_some
set_option maxRecDepth 100000 in
set_option maxHeartbeats 2000000 in
theorem sat_X0_carryOut (l : Launch) (hl : l.stackTraces = false) (p0 : Nat) (p1 : Int32) (p2 : Int32) (p3 : Int32) (hp0 : isTh p0) (s : Mem) : Sat l yX0_carryOut (.code yX0_carryOut cX0_carryOut 4 (some .int)) 34 588 (fun x => some (.int x)) [.ref p0, .int p1, .int p2, .int p3] s (m_X0_carryOut p0 p1 p2 p3 s) := by
  refine sat_of hl (by decide) (Nat.le_of_ble_eq_true rfl) (fun X V A adV hxl hC hE hx hr => ?_) (n_X0_carryOut p0 p1 p2 p3 s)
  subst hxl
  show LX X V A 34 588 (nC s) (nS s) _ 0 [(0, .ref p0), (1, .int p1), (2, .int p2), (3, .int p3)] [] s _
  unfold m_X0_carryOut
  refine lx_iload_n hC dX0_carryOut_0 rfl 1 rfl ?_
  refine lx_case (fun h1 => ?_) (fun h1 => ?_)
  · refine lx_tin hC 60 h1 dX0_carryOut_1 (by decide) (by decide) rfl (by decide) ?_
    refine lx_aload_n hC dX0_carryOut_60 rfl 0 rfl ?_
    refine lx_iload_n hC dX0_carryOut_61 rfl 2 rfl ?_
    refine lx_callX hC hx (sat_X0_openRow (xl X) hl p0 p2 hp0 s) (run_S (as := [.ref p0, .int p2]) (rest := []) hC hE cw_X0_openRow ci_X0_openRow wd514 cs_X0_openRow cd_X0_openRow (by decide) (by decide) (Nat.le_of_ble_eq_true rfl) dX0_carryOut_62 rfl) (fun v2 s3 _ => ?_)
    exact lx_iret hC rfl hr dX0_carryOut_65
  · skip
    refine lx_case (fun h4 => ?_) (fun h4 => ?_)
    · refine lx_tin hC 66 h4 dX0_carryOut_1 (by decide) (by decide) rfl (by decide) ?_
      refine lx_aload_n hC dX0_carryOut_66 rfl 0 rfl ?_
      refine lx_iload_n hC dX0_carryOut_67 rfl 2 rfl ?_
      refine lx_iload_n hC dX0_carryOut_68 rfl 3 rfl ?_
      refine lx_callX hC hx (sat_X0_changePhantoms (xl X) hl p0 p2 p3 hp0 s) (run_S (as := [.ref p0, .int p2, .int p3]) (rest := []) hC hE cw_X0_changePhantoms ci_X0_changePhantoms wd517 cs_X0_changePhantoms cd_X0_changePhantoms (by decide) (by decide) (Nat.le_of_ble_eq_true rfl) dX0_carryOut_69 rfl) (fun v5 s6 _ => ?_)
      exact lx_iret hC rfl hr dX0_carryOut_72
    · skip
      refine lx_case (fun h7 => ?_) (fun h7 => ?_)
      · refine lx_tin hC 73 h7 dX0_carryOut_1 (by decide) (by decide) rfl (by decide) ?_
        refine lx_aload_n hC dX0_carryOut_73 rfl 0 rfl ?_
        refine lx_iload_n hC dX0_carryOut_74 rfl 2 rfl ?_
        refine lx_iload_n hC dX0_carryOut_75 rfl 3 rfl ?_
        refine lx_ineg hC dX0_carryOut_76 ?_
        refine lx_callX hC hx (sat_X0_changePhantoms (xl X) hl p0 p2 (-p3) hp0 s) (run_S (as := [.ref p0, .int p2, .int (-p3)]) (rest := []) hC hE cw_X0_changePhantoms ci_X0_changePhantoms wd517 cs_X0_changePhantoms cd_X0_changePhantoms (by decide) (by decide) (Nat.le_of_ble_eq_true rfl) dX0_carryOut_77 rfl) (fun v8 s9 _ => ?_)
        exact lx_iret hC rfl hr dX0_carryOut_80
      · skip
        refine lx_case (fun h10 => ?_) (fun h10 => ?_)
        · refine lx_tin hC 81 h10 dX0_carryOut_1 (by decide) (by decide) rfl (by decide) ?_
          refine lx_aload_n hC dX0_carryOut_81 rfl 0 rfl ?_
          refine lx_iload_n hC dX0_carryOut_82 rfl 2 rfl ?_
          refine lx_iload_n hC dX0_carryOut_83 rfl 3 rfl ?_
          refine lx_callX hC hx (sat_X0_addEcho (xl X) hl p0 p2 p3 hp0 s) (run_S (as := [.ref p0, .int p2, .int p3]) (rest := []) hC hE cw_X0_addEcho ci_X0_addEcho wd520 cs_X0_addEcho cd_X0_addEcho (by decide) (by decide) (Nat.le_of_ble_eq_true rfl) dX0_carryOut_84 rfl) (fun v11 s12 _ => ?_)
          exact lx_iret hC rfl hr dX0_carryOut_87
        · skip
          refine lx_case (fun h13 => ?_) (fun h13 => ?_)
          · refine lx_tin hC 88 h13 dX0_carryOut_1 (by decide) (by decide) rfl (by decide) ?_
            refine lx_aload_n hC dX0_carryOut_88 rfl 0 rfl ?_
            refine lx_aload_n hC dX0_carryOut_89 rfl 0 rfl ?_
            refine lx_iload_n hC dX0_carryOut_90 rfl 2 rfl ?_
            refine lx_callP hC hx (sat_X6_slotOf (xl X) hl p0 p2 hp0 s) (run_V (as := [.int p2]) (rest := [.ref p0]) hC hE (th_o hp0) rfl cw_X6_slotOf ci_X6_slotOf wd523 cs_X6_slotOf ce_X6_slotOf cd_X6_slotOf (by decide) (by decide) (Nat.le_of_ble_eq_true rfl) dX0_carryOut_91 rfl) (fun v14 _ => ?_)
            refine lx_iload_n hC dX0_carryOut_94 rfl 3 rfl ?_
            refine lx_callX hC hx (sat_X0_moveSlot (xl X) hl p0 v14 p3 hp0 s) (run_S (as := [.ref p0, .int v14, .int p3]) (rest := []) hC hE cw_X0_moveSlot ci_X0_moveSlot wd524 cs_X0_moveSlot cd_X0_moveSlot (by decide) (by decide) (Nat.le_of_ble_eq_true rfl) dX0_carryOut_95 rfl) (fun v15 s16 _ => ?_)
            exact lx_iret hC rfl hr dX0_carryOut_98
          · skip
            refine lx_case (fun h17 => ?_) (fun h17 => ?_)
            · refine lx_tin hC 99 h17 dX0_carryOut_1 (by decide) (by decide) rfl (by decide) ?_
              refine lx_aload_n hC dX0_carryOut_99 rfl 0 rfl ?_
              refine lx_aload_n hC dX0_carryOut_100 rfl 0 rfl ?_
              refine lx_iload_n hC dX0_carryOut_101 rfl 2 rfl ?_
              refine lx_callP hC hx (sat_X6_slotOf (xl X) hl p0 p2 hp0 s) (run_V (as := [.int p2]) (rest := [.ref p0]) hC hE (th_o hp0) rfl cw_X6_slotOf ci_X6_slotOf wd523 cs_X6_slotOf ce_X6_slotOf cd_X6_slotOf (by decide) (by decide) (Nat.le_of_ble_eq_true rfl) dX0_carryOut_102 rfl) (fun v18 _ => ?_)
              refine lx_callX hC hx (sat_X0_removeSlot (xl X) hl p0 v18 hp0 s) (run_S (as := [.ref p0, .int v18]) (rest := []) hC hE cw_X0_removeSlot ci_X0_removeSlot wd527 cs_X0_removeSlot cd_X0_removeSlot (by decide) (by decide) (Nat.le_of_ble_eq_true rfl) dX0_carryOut_105 rfl) (fun v19 s20 _ => ?_)
              exact lx_iret hC rfl hr dX0_carryOut_108
            · skip
              refine lx_case (fun h21 => ?_) (fun h21 => ?_)
              · refine lx_tin hC 109 h21 dX0_carryOut_1 (by decide) (by decide) rfl (by decide) ?_
                refine lx_aload_n hC dX0_carryOut_109 rfl 0 rfl ?_
                refine lx_aload_n hC dX0_carryOut_110 rfl 0 rfl ?_
                refine lx_iload_n hC dX0_carryOut_111 rfl 2 rfl ?_
                refine lx_callP hC hx (sat_X6_slotOf (xl X) hl p0 p2 hp0 s) (run_V (as := [.int p2]) (rest := [.ref p0]) hC hE (th_o hp0) rfl cw_X6_slotOf ci_X6_slotOf wd523 cs_X6_slotOf ce_X6_slotOf cd_X6_slotOf (by decide) (by decide) (Nat.le_of_ble_eq_true rfl) dX0_carryOut_112 rfl) (fun v22 _ => ?_)
                refine lx_iload_n hC dX0_carryOut_115 rfl 3 rfl ?_
                refine lx_callX hC hx (sat_X0_replaceHeir (xl X) hl p0 v22 p3 hp0 s) (run_S (as := [.ref p0, .int v22, .int p3]) (rest := []) hC hE cw_X0_replaceHeir ci_X0_replaceHeir wd544 cs_X0_replaceHeir cd_X0_replaceHeir (by decide) (by decide) (Nat.le_of_ble_eq_true rfl) dX0_carryOut_116 rfl) (fun v23 s24 _ => ?_)
                exact lx_iret hC rfl hr dX0_carryOut_119
              · skip
                refine lx_case (fun h25 => ?_) (fun h25 => ?_)
                · refine lx_tin hC 120 h25 dX0_carryOut_1 (by decide) (by decide) rfl (by decide) ?_
                  refine lx_aload_n hC dX0_carryOut_120 rfl 0 rfl ?_
                  refine lx_aload_n hC dX0_carryOut_121 rfl 0 rfl ?_
                  refine lx_iload_n hC dX0_carryOut_122 rfl 2 rfl ?_
                  refine lx_callP hC hx (sat_X6_slotOf (xl X) hl p0 p2 hp0 s) (run_V (as := [.int p2]) (rest := [.ref p0]) hC hE (th_o hp0) rfl cw_X6_slotOf ci_X6_slotOf wd523 cs_X6_slotOf ce_X6_slotOf cd_X6_slotOf (by decide) (by decide) (Nat.le_of_ble_eq_true rfl) dX0_carryOut_123 rfl) (fun v26 _ => ?_)
                  refine lx_iconstv (v := (-1)) hC dX0_carryOut_126 rfl ?_
                  refine lx_callX hC hx (sat_X0_replaceHeir (xl X) hl p0 v26 (-1) hp0 s) (run_S (as := [.ref p0, .int v26, .int (-1)]) (rest := []) hC hE cw_X0_replaceHeir ci_X0_replaceHeir wd544 cs_X0_replaceHeir cd_X0_replaceHeir (by decide) (by decide) (Nat.le_of_ble_eq_true rfl) dX0_carryOut_127 rfl) (fun v27 s28 _ => ?_)
                  exact lx_iret hC rfl hr dX0_carryOut_130
                · skip
                  refine lx_case (fun h29 => ?_) (fun h29 => ?_)
                  · refine lx_tin hC 131 h29 dX0_carryOut_1 (by decide) (by decide) rfl (by decide) ?_
                    refine lx_aload_n hC dX0_carryOut_131 rfl 0 rfl ?_
                    refine lx_iload_n hC dX0_carryOut_132 rfl 2 rfl ?_
                    refine lx_iconstv (v := 1) hC dX0_carryOut_133 rfl ?_
                    refine lx_callX hC hx (sat_X0_setLocked (xl X) hl p0 p2 1 hp0 s) (run_S (as := [.ref p0, .int p2, .int 1]) (rest := []) hC hE cw_X0_setLocked ci_X0_setLocked wd547 cs_X0_setLocked cd_X0_setLocked (by decide) (by decide) (Nat.le_of_ble_eq_true rfl) dX0_carryOut_134 rfl) (fun v30 s31 _ => ?_)
                    exact lx_iret hC rfl hr dX0_carryOut_137
                  · skip
                    refine lx_case (fun h32 => ?_) (fun h32 => ?_)
                    · refine lx_tin hC 138 h32 dX0_carryOut_1 (by decide) (by decide) rfl (by decide) ?_
                      refine lx_aload_n hC dX0_carryOut_138 rfl 0 rfl ?_
                      refine lx_iload_n hC dX0_carryOut_139 rfl 2 rfl ?_
                      refine lx_iconstv (v := 0) hC dX0_carryOut_140 rfl ?_
                      refine lx_callX hC hx (sat_X0_setLocked (xl X) hl p0 p2 0 hp0 s) (run_S (as := [.ref p0, .int p2, .int 0]) (rest := []) hC hE cw_X0_setLocked ci_X0_setLocked wd547 cs_X0_setLocked cd_X0_setLocked (by decide) (by decide) (Nat.le_of_ble_eq_true rfl) dX0_carryOut_141 rfl) (fun v33 s34 _ => ?_)
                      exact lx_iret hC rfl hr dX0_carryOut_144
                    · skip
                      refine lx_case (fun h35 => ?_) (fun h35 => ?_)
                      · refine lx_tin hC 145 h35 dX0_carryOut_1 (by decide) (by decide) rfl (by decide) ?_
                        refine lx_aload_n hC dX0_carryOut_145 rfl 0 rfl ?_
                        refine lx_iload_n hC dX0_carryOut_146 rfl 2 rfl ?_
                        refine lx_bipush (v := 97) hC dX0_carryOut_147 (by decide) ?_
                        refine lx_isub hC dX0_carryOut_149 ?_
                        refine lx_iload_n hC dX0_carryOut_150 rfl 3 rfl ?_
                        refine lx_callX hC hx (sat_X0_nameByBox (xl X) hl p0 (p2 - 97) p3 hp0 s) (run_S (as := [.ref p0, .int (p2 - 97), .int p3]) (rest := []) hC hE cw_X0_nameByBox ci_X0_nameByBox wd554 cs_X0_nameByBox cd_X0_nameByBox (by decide) (by decide) (Nat.le_of_ble_eq_true rfl) dX0_carryOut_151 rfl) (fun v36 s37 _ => ?_)
                        exact lx_iret hC rfl hr dX0_carryOut_154
                      · skip
                        refine lx_tdf hC 155 dX0_carryOut_1 (fun z zq1 zq2 ze => ?_) (by decide) ?_
                        · rcases (show z = 0 ∨ z = 1 ∨ z = 2 ∨ z = 3 ∨ z = 4 ∨ z = 5 ∨ z = 6 ∨ z = 7 ∨ z = 8 ∨ z = 9 ∨ z = 10 by omega) with rfl | rfl | rfl | rfl | rfl | rfl | rfl | rfl | rfl | rfl | rfl
                          · exact absurd ze (lv_neT h1 (by decide))
                          · exact absurd ze (lv_neT h4 (by decide))
                          · exact absurd ze (lv_neT h7 (by decide))
                          · exact absurd ze (lv_neT h10 (by decide))
                          · exact absurd ze (lv_neT h13 (by decide))
                          · exact absurd ze (lv_neT h17 (by decide))
                          · exact absurd ze (lv_neT h21 (by decide))
                          · exact absurd ze (lv_neT h25 (by decide))
                          · exact absurd ze (lv_neT h29 (by decide))
                          · exact absurd ze (lv_neT h32 (by decide))
                          · exact absurd ze (lv_neT h35 (by decide))
                        · skip
                          refine lx_aload_n hC dX0_carryOut_155 rfl 0 rfl ?_
                          refine lx_iload_n hC dX0_carryOut_156 rfl 2 rfl ?_
                          refine lx_callX hC hx (sat_X0_spreadOut (xl X) hl p0 p2 hp0 s) (run_S (as := [.ref p0, .int p2]) (rest := []) hC hE cw_X0_spreadOut ci_X0_spreadOut wd557 cs_X0_spreadOut cd_X0_spreadOut (by decide) (by decide) (Nat.le_of_ble_eq_true rfl) dX0_carryOut_157 rfl) (fun v38 s39 _ => ?_)
                          exact lx_iret hC rfl hr dX0_carryOut_160
set_option maxRecDepth 100000 in
set_option maxHeartbeats 2000000 in
theorem n_X3_keepDraft (s : Mem) : Mn s (m_X3_keepDraft s) := by
  unfold m_X3_keepDraft
  refine mn_bindP (fun v1 => ?_)
  refine mn_put (fun s2 => ?_)
  refine mn_put (fun s3 => ?_)
  exact mn_some
set_option maxRecDepth 100000 in
set_option maxHeartbeats 2000000 in
theorem sat_X3_keepDraft (l : Launch) (hl : l.stackTraces = false) (s : Mem) : Sat l yX3_keepDraft (.code yX3_keepDraft cX3_keepDraft 1 (none)) 31 520 (fun _ => none) [.ref 1] s (m_X3_keepDraft s) := by
  refine sat_of hl (by decide) (Nat.le_of_ble_eq_true rfl) (fun X V A adV hxl hC hE hx hr => ?_) (n_X3_keepDraft s)
  subst hxl
  show LX X V A 31 520 (nC s) (nS s) _ 0 [(0, .ref 1)] [] s _
  unfold m_X3_keepDraft
  refine lx_aload_n hC dX3_keepDraft_0 rfl 0 rfl ?_
  refine lx_aload_n hC dX3_keepDraft_1 rfl 0 rfl ?_
  refine lx_getI hC ly1 rfl 1 (by decide) rfl inX3 wd157 dX3_keepDraft_2 ?_
  refine lx_callP hC hx (sat_X3_placeAfter (xl X) hl (gI s 1 1) s) (run_S (as := [.int (gI s 1 1)]) (rest := [.ref 1]) hC hE cw_X3_placeAfter ci_X3_placeAfter wd319 cs_X3_placeAfter cd_X3_placeAfter (by decide) (by decide) (Nat.le_of_ble_eq_true rfl) dX3_keepDraft_5 rfl) (fun v1 _ => ?_)
  refine lx_putI hC ly1 rfl 1 (by decide) rfl tyX3 tyX3_ok nmX3 rfl rfl rfl inX3 wd157 dX3_keepDraft_8 (fun s2 => ?_)
  refine lx_aload_n hC dX3_keepDraft_11 rfl 0 rfl ?_
  refine lx_aload_n hC dX3_keepDraft_12 rfl 0 rfl ?_
  refine lx_getI hC ly1 rfl 2 (by decide) rfl inX3 wd158 dX3_keepDraft_13 ?_
  refine lx_iconstv (v := 1) hC dX3_keepDraft_16 rfl ?_
  refine lx_iadd hC dX3_keepDraft_17 ?_
  refine lx_bipush (v := 8) hC dX3_keepDraft_18 (by decide) ?_
  refine lx_mmin hC wd576 wd535 wd40 wd536 (by decide) (Nat.le_of_ble_eq_true rfl) dX3_keepDraft_20 ?_
  refine lx_putI hC ly1 rfl 2 (by decide) rfl tyX3 tyX3_ok nmX3 rfl rfl rfl inX3 wd158 dX3_keepDraft_23 (fun s3 => ?_)
  exact lx_vret hC rfl hr dX3_keepDraft_26
set_option maxRecDepth 100000 in
set_option maxHeartbeats 2000000 in
theorem n_X7_change (p0 : Int32) (p1 : Int32) (p2 : Int32) (s : Mem) : Mn s (m_X7_change p0 p1 p2 s) := by
  unfold m_X7_change
  refine mn_bind (n_X3_draft s) (fun v1 s2 => ?_)
  refine mn_if ?_ mn_none
  refine mn_bindP (fun v4 => ?_)
  refine mn_bind (n_X7_throwRefusal v4 s2) (fun v5 s6 => ?_)
  refine mn_bind (n_X0_carryOut v1 p0 p1 p2 s6) (fun v7 s8 => ?_)
  refine mn_bind (n_X3_keepDraft s8) (fun v9 s10 => ?_)
  exact mn_some
set_option maxRecDepth 100000 in
set_option maxHeartbeats 2000000 in
theorem sat_X7_change (l : Launch) (hl : l.stackTraces = false) (p0 : Int32) (p1 : Int32) (p2 : Int32) (s : Mem) : Sat l yX7_change (.code yX7_change cX7_change 6 (some .int)) 35 614 (fun x => some (.int x)) [.ref 0, .int p0, .int p1, .int p2] s (m_X7_change p0 p1 p2 s) := by
  refine sat_of hl (by decide) (Nat.le_of_ble_eq_true rfl) (fun X V A adV hxl hC hE hx hr => ?_) (n_X7_change p0 p1 p2 s)
  subst hxl
  show LX X V A 35 614 (nC s) (nS s) _ 0 [(0, .ref 0), (1, .int p0), (2, .int p1), (3, .int p2)] [] s _
  unfold m_X7_change
  refine lx_aload_n hC dX7_change_0 rfl 0 rfl ?_
  refine lx_getR (q := 1) hC ly0 rfl 0 (by decide) rfl rfl inX7 wd247 dX7_change_1 ?_
  refine lx_callX hC hx (sat_X3_draft (xl X) hl s) (run_V (as := []) (rest := []) hC hE ly1 rfl cw_X3_draft ci_X3_draft wd315 cs_X3_draft ce_X3_draft cd_X3_draft (by decide) (by decide) (Nat.le_of_ble_eq_true rfl) dX7_change_4 rfl) (fun v1 s2 _ => ?_)
  refine lx_if fun h3 => ?_
  refine lx_astore hC dX7_change_7 (by decide) ?_
  refine lx_aload hC dX7_change_9 0 rfl ?_
  refine lx_iload_n hC dX7_change_11 rfl 2 rfl ?_
  refine lx_iload_n hC dX7_change_12 rfl 3 rfl ?_
  refine lx_iload_n hC dX7_change_13 rfl 4 rfl ?_
  refine lx_callP hC hx (sat_X5_refusal (xl X) hl v1 p0 p1 p2 h3 s2) (run_S (as := [.ref v1, .int p0, .int p1, .int p2]) (rest := []) hC hE cw_X5_refusal ci_X5_refusal wd323 cs_X5_refusal cd_X5_refusal (by decide) (by decide) (Nat.le_of_ble_eq_true rfl) dX7_change_14 rfl) (fun v4 _ => ?_)
  refine lx_callX hC hx (sat_X7_throwRefusal (xl X) hl v4 s2) (run_S (as := [.int v4]) (rest := []) hC hE cw_X7_throwRefusal ci_X7_throwRefusal wd390 cs_X7_throwRefusal cd_X7_throwRefusal (by decide) (by decide) (Nat.le_of_ble_eq_true rfl) dX7_change_17 rfl) (fun v5 s6 _ => ?_)
  refine lx_aload hC dX7_change_20 0 rfl ?_
  refine lx_iload_n hC dX7_change_22 rfl 2 rfl ?_
  refine lx_iload_n hC dX7_change_23 rfl 3 rfl ?_
  refine lx_iload_n hC dX7_change_24 rfl 4 rfl ?_
  refine lx_callX hC hx (sat_X0_carryOut (xl X) hl v1 p0 p1 p2 h3 s6) (run_S (as := [.ref v1, .int p0, .int p1, .int p2]) (rest := []) hC hE cw_X0_carryOut ci_X0_carryOut wd511 cs_X0_carryOut cd_X0_carryOut (by decide) (by decide) (Nat.le_of_ble_eq_true rfl) dX7_change_25 rfl) (fun v7 s8 _ => ?_)
  refine lx_istore hC dX7_change_28 (by decide) ?_
  refine lx_aload_n hC dX7_change_30 rfl 2 rfl ?_
  refine lx_getR (q := 1) hC ly0 rfl 0 (by decide) rfl rfl inX7 wd247 dX7_change_31 ?_
  refine lx_callX hC hx (sat_X3_keepDraft (xl X) hl s8) (run_V (as := []) (rest := []) hC hE ly1 rfl cw_X3_keepDraft ci_X3_keepDraft wd572 cs_X3_keepDraft ce_X3_keepDraft cd_X3_keepDraft (by decide) (by decide) (Nat.le_of_ble_eq_true rfl) dX7_change_34 rfl) (fun v9 s10 _ => ?_)
  refine lx_iload hC dX7_change_37 0 rfl ?_
  exact lx_iret hC rfl hr dX7_change_39
set_option maxRecDepth 100000 in
set_option maxHeartbeats 2000000 in
theorem n_X7_addRow (p0 : Int32) (s : Mem) : Mn s (m_X7_addRow p0 s) := by
  unfold m_X7_addRow
  refine mn_bind (n_X7_change 0 p0 0 s) (fun v1 s2 => ?_)
  exact mn_some
set_option maxRecDepth 100000 in
set_option maxHeartbeats 2000000 in
theorem sat_X7_addRow (l : Launch) (hl : l.stackTraces = false) (p0 : Int32) (s : Mem) : Sat l yX7_addRow (.code yX7_addRow cX7_addRow 2 (some .int)) 36 639 (fun x => some (.int x)) [.ref 0, .int p0] s (m_X7_addRow p0 s) := by
  refine sat_of hl (by decide) (Nat.le_of_ble_eq_true rfl) (fun X V A adV hxl hC hE hx hr => ?_) (n_X7_addRow p0 s)
  subst hxl
  show LX X V A 36 639 (nC s) (nS s) _ 0 [(0, .ref 0), (1, .int p0)] [] s _
  unfold m_X7_addRow
  refine lx_aload_n hC dX7_addRow_0 rfl 0 rfl ?_
  refine lx_iconstv (v := 0) hC dX7_addRow_1 rfl ?_
  refine lx_iload_n hC dX7_addRow_2 rfl 1 rfl ?_
  refine lx_iconstv (v := 0) hC dX7_addRow_3 rfl ?_
  refine lx_callX hC hx (sat_X7_change (xl X) hl 0 p0 0 s) (run_V (as := [.int 0, .int p0, .int 0]) (rest := []) hC hE ly0 rfl cw_X7_change ci_X7_change wd311 cs_X7_change ce_X7_change cd_X7_change (by decide) (by decide) (Nat.le_of_ble_eq_true rfl) dX7_addRow_4 rfl) (fun v1 s2 _ => ?_)
  exact lx_iret hC rfl hr dX7_addRow_7
set_option maxRecDepth 100000 in
set_option maxHeartbeats 2000000 in
theorem n_X7_addPhantoms (p0 : Int32) (p1 : Int32) (s : Mem) : Mn s (m_X7_addPhantoms p0 p1 s) := by
  unfold m_X7_addPhantoms
  refine mn_bind (n_X7_change 1 p0 p1 s) (fun v1 s2 => ?_)
  exact mn_some
set_option maxRecDepth 100000 in
set_option maxHeartbeats 2000000 in
theorem sat_X7_addPhantoms (l : Launch) (hl : l.stackTraces = false) (p0 : Int32) (p1 : Int32) (s : Mem) : Sat l yX7_addPhantoms (.code yX7_addPhantoms cX7_addPhantoms 3 (some .int)) 36 639 (fun x => some (.int x)) [.ref 0, .int p0, .int p1] s (m_X7_addPhantoms p0 p1 s) := by
  refine sat_of hl (by decide) (Nat.le_of_ble_eq_true rfl) (fun X V A adV hxl hC hE hx hr => ?_) (n_X7_addPhantoms p0 p1 s)
  subst hxl
  show LX X V A 36 639 (nC s) (nS s) _ 0 [(0, .ref 0), (1, .int p0), (2, .int p1)] [] s _
  unfold m_X7_addPhantoms
  refine lx_aload_n hC dX7_addPhantoms_0 rfl 0 rfl ?_
  refine lx_iconstv (v := 1) hC dX7_addPhantoms_1 rfl ?_
  refine lx_iload_n hC dX7_addPhantoms_2 rfl 1 rfl ?_
  refine lx_iload_n hC dX7_addPhantoms_3 rfl 2 rfl ?_
  refine lx_callX hC hx (sat_X7_change (xl X) hl 1 p0 p1 s) (run_V (as := [.int 1, .int p0, .int p1]) (rest := []) hC hE ly0 rfl cw_X7_change ci_X7_change wd311 cs_X7_change ce_X7_change cd_X7_change (by decide) (by decide) (Nat.le_of_ble_eq_true rfl) dX7_addPhantoms_4 rfl) (fun v1 s2 _ => ?_)
  exact lx_iret hC rfl hr dX7_addPhantoms_7
set_option maxRecDepth 100000 in
set_option maxHeartbeats 2000000 in
theorem n_X7_removePhantoms (p0 : Int32) (p1 : Int32) (s : Mem) : Mn s (m_X7_removePhantoms p0 p1 s) := by
  unfold m_X7_removePhantoms
  refine mn_bind (n_X7_change 2 p0 p1 s) (fun v1 s2 => ?_)
  exact mn_some
set_option maxRecDepth 100000 in
set_option maxHeartbeats 2000000 in
theorem sat_X7_removePhantoms (l : Launch) (hl : l.stackTraces = false) (p0 : Int32) (p1 : Int32) (s : Mem) : Sat l yX7_removePhantoms (.code yX7_removePhantoms cX7_removePhantoms 3 (some .int)) 36 639 (fun x => some (.int x)) [.ref 0, .int p0, .int p1] s (m_X7_removePhantoms p0 p1 s) := by
  refine sat_of hl (by decide) (Nat.le_of_ble_eq_true rfl) (fun X V A adV hxl hC hE hx hr => ?_) (n_X7_removePhantoms p0 p1 s)
  subst hxl
  show LX X V A 36 639 (nC s) (nS s) _ 0 [(0, .ref 0), (1, .int p0), (2, .int p1)] [] s _
  unfold m_X7_removePhantoms
  refine lx_aload_n hC dX7_removePhantoms_0 rfl 0 rfl ?_
  refine lx_iconstv (v := 2) hC dX7_removePhantoms_1 rfl ?_
  refine lx_iload_n hC dX7_removePhantoms_2 rfl 1 rfl ?_
  refine lx_iload_n hC dX7_removePhantoms_3 rfl 2 rfl ?_
  refine lx_callX hC hx (sat_X7_change (xl X) hl 2 p0 p1 s) (run_V (as := [.int 2, .int p0, .int p1]) (rest := []) hC hE ly0 rfl cw_X7_change ci_X7_change wd311 cs_X7_change ce_X7_change cd_X7_change (by decide) (by decide) (Nat.le_of_ble_eq_true rfl) dX7_removePhantoms_4 rfl) (fun v1 s2 _ => ?_)
  exact lx_iret hC rfl hr dX7_removePhantoms_7
set_option maxRecDepth 100000 in
set_option maxHeartbeats 2000000 in
theorem n_X7_add (p0 : Int32) (p1 : Int32) (s : Mem) : Mn s (m_X7_add p0 p1 s) := by
  unfold m_X7_add
  refine mn_bind (n_X7_change 3 p0 p1 s) (fun v1 s2 => ?_)
  exact mn_some
set_option maxRecDepth 100000 in
set_option maxHeartbeats 2000000 in
theorem sat_X7_add (l : Launch) (hl : l.stackTraces = false) (p0 : Int32) (p1 : Int32) (s : Mem) : Sat l yX7_add (.code yX7_add cX7_add 3 (some .int)) 36 639 (fun x => some (.int x)) [.ref 0, .int p0, .int p1] s (m_X7_add p0 p1 s) := by
  refine sat_of hl (by decide) (Nat.le_of_ble_eq_true rfl) (fun X V A adV hxl hC hE hx hr => ?_) (n_X7_add p0 p1 s)
  subst hxl
  show LX X V A 36 639 (nC s) (nS s) _ 0 [(0, .ref 0), (1, .int p0), (2, .int p1)] [] s _
  unfold m_X7_add
  refine lx_aload_n hC dX7_add_0 rfl 0 rfl ?_
  refine lx_iconstv (v := 3) hC dX7_add_1 rfl ?_
  refine lx_iload_n hC dX7_add_2 rfl 1 rfl ?_
  refine lx_iload_n hC dX7_add_3 rfl 2 rfl ?_
  refine lx_callX hC hx (sat_X7_change (xl X) hl 3 p0 p1 s) (run_V (as := [.int 3, .int p0, .int p1]) (rest := []) hC hE ly0 rfl cw_X7_change ci_X7_change wd311 cs_X7_change ce_X7_change cd_X7_change (by decide) (by decide) (Nat.le_of_ble_eq_true rfl) dX7_add_4 rfl) (fun v1 s2 _ => ?_)
  exact lx_iret hC rfl hr dX7_add_7
