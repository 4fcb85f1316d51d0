set_option maxRecDepth 100000 in
set_option maxHeartbeats 2000000 in
theorem l_X7_appendEchoesOf_b2 {X : Cx} {V : Vx} {A : Nat → Prop} {adV : Nat → Nat} {c0 s0 : Nat} (hC : Cok X V A yX7_appendEchoesOf.cls cX7_appendEchoesOf 4) (hE : Env0 V adV A (xs X) (xs X).heap) (hl : (xl X).stackTraces = false) (hx : ∀ x ∈ (xc X).exceptionTable.toList, False) (hr : (xh X).sig.returnType = none) (q1 : Nat) (x2 : Int32) (hq1 : isTh q1) (s : Mem) (kf2 : (Int32 × Mem) → Res Unit) (hk2 : ∀ a, LX X V A 30 500 c0 s0 (FM X V A (fun _ => none)) 2 [(0, .ref 0), (1, .ref q1), (2, .int x2), (3, .int a.1)] [] a.2 (kf2 a)) (w3 : Int32) : LX X V A 30 500 c0 s0 (FM X V A (fun _ => none)) 2 [(0, .ref 0), (1, .ref q1), (2, .int x2), (3, .int w3)] [] s (m_X7_appendEchoesOf_b2 q1 x2 s kf2 w3 ) := by
  unfold m_X7_appendEchoesOf_b2
  refine lx_iload_n hC dX7_appendEchoesOf_2 rfl 3 rfl ?_
  refine lx_aload_n hC dX7_appendEchoesOf_3 rfl 1 rfl ?_
  refine lx_getI hC (th_o hq1) rfl 9 (by decide) rfl inX6 wd108 dX7_appendEchoesOf_4 ?_
  refine lx_icmp_ge hC 64 dX7_appendEchoesOf_7 (by decide) ?_ ?_
  · skip
    exact lx_vret hC rfl hr dX7_appendEchoesOf_64
  · skip
    refine lx_aload_n hC dX7_appendEchoesOf_10 rfl 1 rfl ?_
    refine lx_getR (q := q1 + 448) hC (th_o hq1) rfl 6 (by decide) rfl rfl inX6 wd96 dX7_appendEchoesOf_11 ?_
    refine lx_iload_n hC dX7_appendEchoesOf_14 rfl 3 rfl ?_
    refine lx_iaload hC (th_a6 hq1) dX7_appendEchoesOf_15 ?_
    refine lx_iload_n hC dX7_appendEchoesOf_16 rfl 2 rfl ?_
    refine lx_icmp_ne hC 58 dX7_appendEchoesOf_17 (by decide) ?_ ?_
    · skip
      refine lx_iincN (v := 1) hC dX7_appendEchoesOf_58 3 rfl (by decide) rfl (fun y3 => ?_)
      refine lx_goto hC 2 dX7_appendEchoesOf_61 (by decide) ?_
      exact lx_sub [1, 2, 3, 0] rfl (hk2 (y3, s))
    · skip
      refine lx_aload_n hC dX7_appendEchoesOf_20 rfl 0 rfl ?_
      refine lx_getR (q := 7) hC ly0 rfl 6 (by decide) rfl rfl inX7 wd253 dX7_appendEchoesOf_21 ?_
      refine lx_bipush (v := 32) hC dX7_appendEchoesOf_24 (by decide) ?_
      refine lx_sbC hC hE sb7 wd942 (by decide) (by decide) (Nat.le_of_ble_eq_true rfl) dX7_appendEchoesOf_26 (fun s4 => ?_)
      refine lx_aload_n hC dX7_appendEchoesOf_29 rfl 1 rfl ?_
      refine lx_getR (q := q1 + 384) hC (th_o hq1) rfl 5 (by decide) rfl rfl inX6 wd92 dX7_appendEchoesOf_30 ?_
      refine lx_iload_n hC dX7_appendEchoesOf_33 rfl 3 rfl ?_
      refine lx_iaload hC (th_a5 hq1) dX7_appendEchoesOf_34 ?_
      refine lx_sbI hC hE sb7 wd941 (by decide) (by decide) (Nat.le_of_ble_eq_true rfl) dX7_appendEchoesOf_35 (fun s5 => ?_)
      refine lx_pop_ref hC dX7_appendEchoesOf_38 ?_
      refine lx_aload_n hC dX7_appendEchoesOf_39 rfl 0 rfl ?_
      refine lx_getR (q := 7) hC ly0 rfl 6 (by decide) rfl rfl inX7 wd253 dX7_appendEchoesOf_40 ?_
      refine lx_bipush (v := 58) hC dX7_appendEchoesOf_43 (by decide) ?_
      refine lx_sbC hC hE sb7 wd942 (by decide) (by decide) (Nat.le_of_ble_eq_true rfl) dX7_appendEchoesOf_45 (fun s6 => ?_)
      refine lx_aload_n hC dX7_appendEchoesOf_48 rfl 1 rfl ?_
      refine lx_getR (q := q1 + 512) hC (th_o hq1) rfl 7 (by decide) rfl rfl inX6 wd99 dX7_appendEchoesOf_49 ?_
      refine lx_iload_n hC dX7_appendEchoesOf_52 rfl 3 rfl ?_
      refine lx_iaload hC (th_a7 hq1) dX7_appendEchoesOf_53 ?_
      refine lx_sbI hC hE sb7 wd941 (by decide) (by decide) (Nat.le_of_ble_eq_true rfl) dX7_appendEchoesOf_54 (fun s7 => ?_)
      refine lx_pop_ref hC dX7_appendEchoesOf_57 ?_
      refine lx_iincN (v := 1) hC dX7_appendEchoesOf_58 3 rfl (by decide) rfl (fun y8 => ?_)
      refine lx_goto hC 2 dX7_appendEchoesOf_61 (by decide) ?_
      exact lx_sub [1, 2, 3, 0] rfl (hk2 (y8, s7))
set_option maxRecDepth 100000 in
set_option maxHeartbeats 2000000 in
theorem n_X7_appendEchoesOf_b2 (q1 : Nat) (x2 : Int32) (s : Mem) (kf2 : (Int32 × Mem) → Res Unit) (hm2 : ∀ a, Mn a.2 (kf2 a)) (w3 : Int32) : Mn s (m_X7_appendEchoesOf_b2 q1 x2 s kf2 w3 ) := by
  unfold m_X7_appendEchoesOf_b2
  refine mn_if ?_ ?_
  · skip
    exact mn_some
  · skip
    refine mn_if ?_ mn_none
    refine mn_if ?_ ?_
    · skip
      refine mn_vl (fun y3 => ?_)
      exact hm2 (y3, s)
    · skip
      refine mn_if ?_ mn_none
      refine mn_sbC (fun s4 => ?_)
      refine mn_if ?_ mn_none
      refine mn_if ?_ mn_none
      refine mn_sbI (fun s5 => ?_)
      refine mn_if ?_ mn_none
      refine mn_sbC (fun s6 => ?_)
      refine mn_if ?_ mn_none
      refine mn_if ?_ mn_none
      refine mn_sbI (fun s7 => ?_)
      refine mn_vl (fun y8 => ?_)
      exact hm2 (y8, s7)
set_option maxRecDepth 100000 in
set_option maxHeartbeats 2000000 in
theorem n_X7_appendEchoesOf (p0 : Nat) (p1 : Int32) (s : Mem) : Mn s (m_X7_appendEchoesOf p0 p1 s) := by
  unfold m_X7_appendEchoesOf
  exact mn_lp (sg := fun a => a.2) (fun kf hq a => n_X7_appendEchoesOf_b2 p0 p1 a.2 kf hq a.1) FUEL (0, s)
set_option maxRecDepth 100000 in
set_option maxHeartbeats 2000000 in
theorem sat_X7_appendEchoesOf (l : Launch) (hl : l.stackTraces = false) (p0 : Nat) (p1 : Int32) (hp0 : isTh p0) (s : Mem) : Sat l yX7_appendEchoesOf (.code yX7_appendEchoesOf cX7_appendEchoesOf 4 (none)) 30 500 (fun _ => none) [.ref 0, .ref p0, .int p1] s (m_X7_appendEchoesOf p0 p1 s) := by
  refine sat_of hl (by decide) (Nat.le_of_ble_eq_true rfl) (fun X V A adV hxl hC hE hx hr => ?_) (n_X7_appendEchoesOf p0 p1 s)
  subst hxl
  show LX X V A 30 500 (nC s) (nS s) _ 0 [(0, .ref 0), (1, .ref p0), (2, .int p1)] [] s _
  unfold m_X7_appendEchoesOf
  refine lx_iconstv (v := 0) hC dX7_appendEchoesOf_0 rfl ?_
  refine lx_istore_n hC dX7_appendEchoesOf_1 rfl (by decide) ?_
  refine lx_sub [1, 2, 3, 0] rfl ?_
  exact lx_lp (lv := fun a => [(0, .ref 0), (1, .ref p0), (2, .int p1), (3, .int a.1)]) (st := fun _ => []) (sg := fun a => a.2) (fun kf hq a => l_X7_appendEchoesOf_b2 hC hE hl hx hr p0 p1 hp0 a.2 kf hq a.1) FUEL (0, s)
set_option maxRecDepth 100000 in
set_option maxHeartbeats 2000000 in
theorem l_X7_formatRow_j112 {X : Cx} {V : Vx} {A : Nat → Prop} {adV : Nat → Nat} {c0 s0 : Nat} (hC : Cok X V A yX7_formatRow.cls cX7_formatRow 3) (hE : Env0 V adV A (xs X) (xs X).heap) (hl : (xl X).stackTraces = false) (hx : ∀ x ∈ (xc X).exceptionTable.toList, False) (hr : (xh X).sig.returnType = some .int) (x14 : Int32) (q15 : Nat) (hq15 : isTh q15) (s : Mem) : LX X V A 32 543 c0 s0 (FM X V A (fun x => some (.int x))) 112 [(0, .ref 0), (1, .int x14), (2, .ref q15)] [] s (m_X7_formatRow_j112 x14 q15 s ) := by
  unfold m_X7_formatRow_j112
  refine lx_aload_n hC dX7_formatRow_112 rfl 0 rfl ?_
  refine lx_aload_n hC dX7_formatRow_113 rfl 2 rfl ?_
  refine lx_iload_n hC dX7_formatRow_114 rfl 1 rfl ?_
  refine lx_callX hC hx (sat_X7_appendEchoesOf (xl X) hl q15 x14 hq15 s) (run_V (as := [.ref q15, .int x14]) (rest := []) hC hE ly0 rfl cw_X7_appendEchoesOf ci_X7_appendEchoesOf wd965 cs_X7_appendEchoesOf ce_X7_appendEchoesOf cd_X7_appendEchoesOf (by decide) (by decide) (Nat.le_of_ble_eq_true rfl) dX7_formatRow_115 rfl) (fun v16 s17 _ => ?_)
  refine lx_aload_n hC dX7_formatRow_118 rfl 0 rfl ?_
  refine lx_getR (q := 7) hC ly0 rfl 6 (by decide) rfl rfl inX7 wd253 dX7_formatRow_119 ?_
  refine lx_sblen hC hE sb7 wd969 (by decide) (by decide) (Nat.le_of_ble_eq_true rfl) dX7_formatRow_122 ?_
  exact lx_iret hC rfl hr dX7_formatRow_125
set_option maxRecDepth 100000 in
set_option maxHeartbeats 2000000 in
theorem n_X7_formatRow_j112 (x14 : Int32) (q15 : Nat) (s : Mem) : Mn s (m_X7_formatRow_j112 x14 q15 s ) := by
  unfold m_X7_formatRow_j112
  refine mn_bind (n_X7_appendEchoesOf q15 x14 s) (fun v16 s17 => ?_)
  exact mn_some
set_option maxRecDepth 100000 in
set_option maxHeartbeats 2000000 in
theorem l_X7_formatRow_j83 {X : Cx} {V : Vx} {A : Nat → Prop} {adV : Nat → Nat} {c0 s0 : Nat} (hC : Cok X V A yX7_formatRow.cls cX7_formatRow 3) (hE : Env0 V adV A (xs X) (xs X).heap) (hl : (xl X).stackTraces = false) (hx : ∀ x ∈ (xc X).exceptionTable.toList, False) (hr : (xh X).sig.returnType = some .int) (x11 : Int32) (q12 : Nat) (hq12 : isTh q12) (s : Mem) : LX X V A 32 543 c0 s0 (FM X V A (fun x => some (.int x))) 83 [(0, .ref 0), (1, .int x11), (2, .ref q12)] [] s (m_X7_formatRow_j83 x11 q12 s ) := by
  unfold m_X7_formatRow_j83
  refine lx_aload_n hC dX7_formatRow_83 rfl 0 rfl ?_
  refine lx_getR (q := 7) hC ly0 rfl 6 (by decide) rfl rfl inX7 wd253 dX7_formatRow_84 ?_
  refine lx_bipush (v := 93) hC dX7_formatRow_87 (by decide) ?_
  refine lx_sbC hC hE sb7 wd942 (by decide) (by decide) (Nat.le_of_ble_eq_true rfl) dX7_formatRow_89 (fun s13 => ?_)
  refine lx_pop_ref hC dX7_formatRow_92 ?_
  refine lx_aload_n hC dX7_formatRow_93 rfl 2 rfl ?_
  refine lx_getR (q := q12 + 192) hC (th_o hq12) rfl 2 (by decide) rfl rfl inX6 wd81 dX7_formatRow_94 ?_
  refine lx_iload_n hC dX7_formatRow_97 rfl 1 rfl ?_
  refine lx_zaload hC (th_a2 hq12) dX7_formatRow_98 ?_
  refine lx_if_eq hC 112 dX7_formatRow_99 (by decide) ?_ ?_
  · skip
    exact lx_sub [0, 1, 2] rfl (l_X7_formatRow_j112 hC hE hl hx hr x11 q12 hq12 s13 )
  · skip
    refine lx_aload_n hC dX7_formatRow_102 rfl 0 rfl ?_
    refine lx_getR (q := 7) hC ly0 rfl 6 (by decide) rfl rfl inX7 wd253 dX7_formatRow_103 ?_
    refine lx_bipush (v := 33) hC dX7_formatRow_106 (by decide) ?_
    refine lx_sbC hC hE sb7 wd942 (by decide) (by decide) (Nat.le_of_ble_eq_true rfl) dX7_formatRow_108 (fun s20 => ?_)
    refine lx_pop_ref hC dX7_formatRow_111 ?_
    exact lx_sub [0, 1, 2] rfl (l_X7_formatRow_j112 hC hE hl hx hr x11 q12 hq12 s20 )
set_option maxRecDepth 100000 in
set_option maxHeartbeats 2000000 in
theorem n_X7_formatRow_j83 (x11 : Int32) (q12 : Nat) (s : Mem) : Mn s (m_X7_formatRow_j83 x11 q12 s ) := by
  unfold m_X7_formatRow_j83
  refine mn_if ?_ mn_none
  refine mn_sbC (fun s13 => ?_)
  refine mn_if ?_ mn_none
  refine mn_if ?_ ?_
  · skip
    exact n_X7_formatRow_j112 x11 q12 s13 
  · skip
    refine mn_if ?_ mn_none
    refine mn_sbC (fun s20 => ?_)
    exact n_X7_formatRow_j112 x11 q12 s20 
set_option maxRecDepth 100000 in
set_option maxHeartbeats 2000000 in
theorem n_X7_formatRow (p0 : Int32) (s : Mem) : Mn s (m_X7_formatRow p0 s) := by
  unfold m_X7_formatRow
  refine mn_bind (n_X7_theatreWithRow p0 s) (fun v1 s2 => ?_)
  refine mn_if ?_ mn_none
  refine mn_put (fun s4 => ?_)
  refine mn_if ?_ mn_none
  refine mn_sbI (fun s5 => ?_)
  refine mn_if ?_ mn_none
  refine mn_sbC (fun s6 => ?_)
  refine mn_bindP (fun v7 => ?_)
  refine mn_if ?_ mn_none
  refine mn_sbI (fun s8 => ?_)
  refine mn_if ?_ mn_none
  refine mn_sbC (fun s9 => ?_)
  refine mn_if ?_ mn_none
  refine mn_if ?_ mn_none
  refine mn_sbI (fun s10 => ?_)
  refine mn_if ?_ mn_none
  refine mn_if ?_ ?_
  · skip
    exact n_X7_formatRow_j83 p0 v1 s10 
  · skip
    refine mn_if ?_ mn_none
    refine mn_sbC (fun s25 => ?_)
    refine mn_if ?_ mn_none
    refine mn_if ?_ mn_none
    refine mn_sbI (fun s26 => ?_)
    exact n_X7_formatRow_j83 p0 v1 s26 
set_option maxRecDepth 100000 in
set_option maxHeartbeats 2000000 in
theorem sat_X7_formatRow (l : Launch) (hl : l.stackTraces = false) (p0 : Int32) (s : Mem) : Sat l yX7_formatRow (.code yX7_formatRow cX7_formatRow 3 (some .int)) 32 543 (fun x => some (.int x)) [.ref 0, .int p0] s (m_X7_formatRow p0 s) := by
  refine sat_of hl (by decide) (Nat.le_of_ble_eq_true rfl) (fun X V A adV hxl hC hE hx hr => ?_) (n_X7_formatRow p0 s)
  subst hxl
  show LX X V A 32 543 (nC s) (nS s) _ 0 [(0, .ref 0), (1, .int p0)] [] s _
  unfold m_X7_formatRow
  refine lx_aload_n hC dX7_formatRow_0 rfl 0 rfl ?_
  refine lx_iload_n hC dX7_formatRow_1 rfl 1 rfl ?_
  refine lx_callX hC hx (sat_X7_theatreWithRow (xl X) hl p0 s) (run_V (as := [.int p0]) (rest := []) hC hE ly0 rfl cw_X7_theatreWithRow ci_X7_theatreWithRow wd681 cs_X7_theatreWithRow ce_X7_theatreWithRow cd_X7_theatreWithRow (by decide) (by decide) (Nat.le_of_ble_eq_true rfl) dX7_formatRow_2 rfl) (fun v1 s2 _ => ?_)
  refine lx_if fun h3 => ?_
  refine lx_astore_n hC dX7_formatRow_5 rfl (by decide) ?_
  refine lx_aload_n hC dX7_formatRow_6 rfl 1 rfl ?_
  refine lx_getR (q := 7) hC ly0 rfl 6 (by decide) rfl rfl inX7 wd253 dX7_formatRow_7 ?_
  refine lx_iconstv (v := 0) hC dX7_formatRow_10 rfl ?_
  refine lx_sbZ hC hE sb7 wd686 (by decide) (by decide) (Nat.le_of_ble_eq_true rfl) dX7_formatRow_11 (fun s4 => ?_)
  refine lx_aload_n hC dX7_formatRow_14 rfl 1 rfl ?_
  refine lx_getR (q := 7) hC ly0 rfl 6 (by decide) rfl rfl inX7 wd253 dX7_formatRow_15 ?_
  refine lx_iload_n hC dX7_formatRow_18 rfl 2 rfl ?_
  refine lx_sbI hC hE sb7 wd941 (by decide) (by decide) (Nat.le_of_ble_eq_true rfl) dX7_formatRow_19 (fun s5 => ?_)
  refine lx_bipush (v := 91) hC dX7_formatRow_22 (by decide) ?_
  refine lx_sbC hC hE sb7 wd942 (by decide) (by decide) (Nat.le_of_ble_eq_true rfl) dX7_formatRow_24 (fun s6 => ?_)
  refine lx_aload_n hC dX7_formatRow_27 rfl 0 rfl ?_
  refine lx_iload_n hC dX7_formatRow_28 rfl 2 rfl ?_
  refine lx_callP hC hx (sat_X6_echoesIn (xl X) hl v1 p0 h3 s6) (run_V (as := [.int p0]) (rest := [.ref 7]) hC hE (th_o h3) rfl cw_X6_echoesIn ci_X6_echoesIn wd964 cs_X6_echoesIn ce_X6_echoesIn cd_X6_echoesIn (by decide) (by decide) (Nat.le_of_ble_eq_true rfl) dX7_formatRow_29 rfl) (fun v7 _ => ?_)
  refine lx_sbI hC hE sb7 wd941 (by decide) (by decide) (Nat.le_of_ble_eq_true rfl) dX7_formatRow_32 (fun s8 => ?_)
  refine lx_pop_ref hC dX7_formatRow_35 ?_
  refine lx_aload_n hC dX7_formatRow_36 rfl 1 rfl ?_
  refine lx_getR (q := 7) hC ly0 rfl 6 (by decide) rfl rfl inX7 wd253 dX7_formatRow_37 ?_
  refine lx_bipush (v := 47) hC dX7_formatRow_40 (by decide) ?_
  refine lx_sbC hC hE sb7 wd942 (by decide) (by decide) (Nat.le_of_ble_eq_true rfl) dX7_formatRow_42 (fun s9 => ?_)
  refine lx_aload_n hC dX7_formatRow_45 rfl 0 rfl ?_
  refine lx_getR (q := v1 + 64) hC (th_o h3) rfl 0 (by decide) rfl rfl inX6 wd73 dX7_formatRow_46 ?_
  refine lx_iload_n hC dX7_formatRow_49 rfl 2 rfl ?_
  refine lx_iaload hC (th_a0 h3) dX7_formatRow_50 ?_
  refine lx_sbI hC hE sb7 wd941 (by decide) (by decide) (Nat.le_of_ble_eq_true rfl) dX7_formatRow_51 (fun s10 => ?_)
  refine lx_pop_ref hC dX7_formatRow_54 ?_
  refine lx_aload_n hC dX7_formatRow_55 rfl 0 rfl ?_
  refine lx_getR (q := v1 + 128) hC (th_o h3) rfl 1 (by decide) rfl rfl inX6 wd77 dX7_formatRow_56 ?_
  refine lx_iload_n hC dX7_formatRow_59 rfl 2 rfl ?_
  refine lx_iaload hC (th_a1 h3) dX7_formatRow_60 ?_
  refine lx_if_le hC 83 dX7_formatRow_61 (by decide) ?_ ?_
  · skip
    exact lx_sub [1, 2, 0] rfl (l_X7_formatRow_j83 hC hE hl hx hr p0 v1 h3 s10 )
  · skip
    refine lx_aload_n hC dX7_formatRow_64 rfl 1 rfl ?_
    refine lx_getR (q := 7) hC ly0 rfl 6 (by decide) rfl rfl inX7 wd253 dX7_formatRow_65 ?_
    refine lx_bipush (v := 43) hC dX7_formatRow_68 (by decide) ?_
    refine lx_sbC hC hE sb7 wd942 (by decide) (by decide) (Nat.le_of_ble_eq_true rfl) dX7_formatRow_70 (fun s25 => ?_)
    refine lx_aload_n hC dX7_formatRow_73 rfl 0 rfl ?_
    refine lx_getR (q := v1 + 128) hC (th_o h3) rfl 1 (by decide) rfl rfl inX6 wd77 dX7_formatRow_74 ?_
    refine lx_iload_n hC dX7_formatRow_77 rfl 2 rfl ?_
    refine lx_iaload hC (th_a1 h3) dX7_formatRow_78 ?_
    refine lx_sbI hC hE sb7 wd941 (by decide) (by decide) (Nat.le_of_ble_eq_true rfl) dX7_formatRow_79 (fun s26 => ?_)
    refine lx_pop_ref hC dX7_formatRow_82 ?_
    exact lx_sub [1, 2, 0] rfl (l_X7_formatRow_j83 hC hE hl hx hr p0 v1 h3 s26 )
set_option maxRecDepth 100000 in
set_option maxHeartbeats 2000000 in
theorem n_X7_formatEcho (p0 : Int32) (s : Mem) : Mn s (m_X7_formatEcho p0 s) := by
  unfold m_X7_formatEcho
  refine mn_bind (n_X7_slotOfActive p0 s) (fun v1 s2 => ?_)
  refine mn_bindP (fun v3 => ?_)
  refine mn_if ?_ mn_none
  refine mn_put (fun s5 => ?_)
  refine mn_if ?_ mn_none
  refine mn_sbC (fun s6 => ?_)
  refine mn_if ?_ mn_none
  refine mn_sbI (fun s7 => ?_)
  refine mn_if ?_ mn_none
  refine mn_sbC (fun s8 => ?_)
  refine mn_if ?_ mn_none
  refine mn_if ?_ mn_none
  refine mn_sbI (fun s9 => ?_)
  refine mn_if ?_ mn_none
  refine mn_sbC (fun s10 => ?_)
  refine mn_if ?_ mn_none
  refine mn_if ?_ mn_none
  refine mn_sbI (fun s11 => ?_)
  refine mn_if ?_ mn_none
  refine mn_if ?_ ?_
  · skip
    exact mn_some
  · skip
    refine mn_if ?_ mn_none
    refine mn_sbC (fun s12 => ?_)
    refine mn_if ?_ mn_none
    refine mn_if ?_ mn_none
    refine mn_sbI (fun s13 => ?_)
    exact mn_some
set_option maxRecDepth 100000 in
set_option maxHeartbeats 2000000 in
theorem sat_X7_formatEcho (l : Launch) (hl : l.stackTraces = false) (p0 : Int32) (s : Mem) : Sat l yX7_formatEcho (.code yX7_formatEcho cX7_formatEcho 4 (some .int)) 32 544 (fun x => some (.int x)) [.ref 0, .int p0] s (m_X7_formatEcho p0 s) := by
  refine sat_of hl (by decide) (Nat.le_of_ble_eq_true rfl) (fun X V A adV hxl hC hE hx hr => ?_) (n_X7_formatEcho p0 s)
  subst hxl
  show LX X V A 32 544 (nC s) (nS s) _ 0 [(0, .ref 0), (1, .int p0)] [] s _
  unfold m_X7_formatEcho
  refine lx_aload_n hC dX7_formatEcho_0 rfl 0 rfl ?_
  refine lx_iload_n hC dX7_formatEcho_1 rfl 1 rfl ?_
  refine lx_callX hC hx (sat_X7_slotOfActive (xl X) hl p0 s) (run_V (as := [.int p0]) (rest := []) hC hE ly0 rfl cw_X7_slotOfActive ci_X7_slotOfActive wd1028 cs_X7_slotOfActive ce_X7_slotOfActive cd_X7_slotOfActive (by decide) (by decide) (Nat.le_of_ble_eq_true rfl) dX7_formatEcho_2 rfl) (fun v1 s2 _ => ?_)
  refine lx_istore_n hC dX7_formatEcho_5 rfl (by decide) ?_
  refine lx_aload_n hC dX7_formatEcho_6 rfl 1 rfl ?_
  refine lx_getR (q := 1) hC ly0 rfl 0 (by decide) rfl rfl inX7 wd247 dX7_formatEcho_7 ?_
  refine lx_callP hC hx (sat_X3_present (xl X) hl s2) (run_V (as := []) (rest := []) hC hE ly1 rfl cw_X3_present ci_X3_present wd282 cs_X3_present ce_X3_present cd_X3_present (by decide) (by decide) (Nat.le_of_ble_eq_true rfl) dX7_formatEcho_10 rfl) (fun v3 _ => ?_)
  refine lx_if fun h4 => ?_
  refine lx_astore_n hC dX7_formatEcho_13 rfl (by decide) ?_
  refine lx_aload_n hC dX7_formatEcho_14 rfl 2 rfl ?_
  refine lx_getR (q := 7) hC ly0 rfl 6 (by decide) rfl rfl inX7 wd253 dX7_formatEcho_15 ?_
  refine lx_iconstv (v := 0) hC dX7_formatEcho_18 rfl ?_
  refine lx_sbZ hC hE sb7 wd686 (by decide) (by decide) (Nat.le_of_ble_eq_true rfl) dX7_formatEcho_19 (fun s5 => ?_)
  refine lx_aload_n hC dX7_formatEcho_22 rfl 2 rfl ?_
  refine lx_getR (q := 7) hC ly0 rfl 6 (by decide) rfl rfl inX7 wd253 dX7_formatEcho_23 ?_
  refine lx_bipush (v := 35) hC dX7_formatEcho_26 (by decide) ?_
  refine lx_sbC hC hE sb7 wd942 (by decide) (by decide) (Nat.le_of_ble_eq_true rfl) dX7_formatEcho_28 (fun s6 => ?_)
  refine lx_iload_n hC dX7_formatEcho_31 rfl 3 rfl ?_
  refine lx_sbI hC hE sb7 wd941 (by decide) (by decide) (Nat.le_of_ble_eq_true rfl) dX7_formatEcho_32 (fun s7 => ?_)
  refine lx_pop_ref hC dX7_formatEcho_35 ?_
  refine lx_aload_n hC dX7_formatEcho_36 rfl 2 rfl ?_
  refine lx_getR (q := 7) hC ly0 rfl 6 (by decide) rfl rfl inX7 wd253 dX7_formatEcho_37 ?_
  refine lx_bipush (v := 64) hC dX7_formatEcho_40 (by decide) ?_
  refine lx_sbC hC hE sb7 wd942 (by decide) (by decide) (Nat.le_of_ble_eq_true rfl) dX7_formatEcho_42 (fun s8 => ?_)
  refine lx_aload_n hC dX7_formatEcho_45 rfl 0 rfl ?_
  refine lx_getR (q := v3 + 448) hC (th_o h4) rfl 6 (by decide) rfl rfl inX6 wd96 dX7_formatEcho_46 ?_
  refine lx_iload_n hC dX7_formatEcho_49 rfl 1 rfl ?_
  refine lx_iaload hC (th_a6 h4) dX7_formatEcho_50 ?_
  refine lx_sbI hC hE sb7 wd941 (by decide) (by decide) (Nat.le_of_ble_eq_true rfl) dX7_formatEcho_51 (fun s9 => ?_)
  refine lx_pop_ref hC dX7_formatEcho_54 ?_
  refine lx_aload_n hC dX7_formatEcho_55 rfl 2 rfl ?_
  refine lx_getR (q := 7) hC ly0 rfl 6 (by decide) rfl rfl inX7 wd253 dX7_formatEcho_56 ?_
  refine lx_bipush (v := 61) hC dX7_formatEcho_59 (by decide) ?_
  refine lx_sbC hC hE sb7 wd942 (by decide) (by decide) (Nat.le_of_ble_eq_true rfl) dX7_formatEcho_61 (fun s10 => ?_)
  refine lx_aload_n hC dX7_formatEcho_64 rfl 0 rfl ?_
  refine lx_getR (q := v3 + 512) hC (th_o h4) rfl 7 (by decide) rfl rfl inX6 wd99 dX7_formatEcho_65 ?_
  refine lx_iload_n hC dX7_formatEcho_68 rfl 1 rfl ?_
  refine lx_iaload hC (th_a7 h4) dX7_formatEcho_69 ?_
  refine lx_sbI hC hE sb7 wd941 (by decide) (by decide) (Nat.le_of_ble_eq_true rfl) dX7_formatEcho_70 (fun s11 => ?_)
  refine lx_pop_ref hC dX7_formatEcho_73 ?_
  refine lx_aload_n hC dX7_formatEcho_74 rfl 0 rfl ?_
  refine lx_getR (q := v3 + 576) hC (th_o h4) rfl 8 (by decide) rfl rfl inX6 wd103 dX7_formatEcho_75 ?_
  refine lx_iload_n hC dX7_formatEcho_78 rfl 1 rfl ?_
  refine lx_iaload hC (th_a8 h4) dX7_formatEcho_79 ?_
  refine lx_iconstv (v := (-1)) hC dX7_formatEcho_80 rfl ?_
  refine lx_icmp_eq hC 103 dX7_formatEcho_81 (by decide) ?_ ?_
  · skip
    refine lx_aload_n hC dX7_formatEcho_103 rfl 2 rfl ?_
    refine lx_getR (q := 7) hC ly0 rfl 6 (by decide) rfl rfl inX7 wd253 dX7_formatEcho_104 ?_
    refine lx_sblen hC hE sb7 wd969 (by decide) (by decide) (Nat.le_of_ble_eq_true rfl) dX7_formatEcho_107 ?_
    exact lx_iret hC rfl hr dX7_formatEcho_110
  · skip
    refine lx_aload_n hC dX7_formatEcho_84 rfl 2 rfl ?_
    refine lx_getR (q := 7) hC ly0 rfl 6 (by decide) rfl rfl inX7 wd253 dX7_formatEcho_85 ?_
    refine lx_bipush (v := 62) hC dX7_formatEcho_88 (by decide) ?_
    refine lx_sbC hC hE sb7 wd942 (by decide) (by decide) (Nat.le_of_ble_eq_true rfl) dX7_formatEcho_90 (fun s12 => ?_)
    refine lx_aload_n hC dX7_formatEcho_93 rfl 0 rfl ?_
    refine lx_getR (q := v3 + 576) hC (th_o h4) rfl 8 (by decide) rfl rfl inX6 wd103 dX7_formatEcho_94 ?_
    refine lx_iload_n hC dX7_formatEcho_97 rfl 1 rfl ?_
    refine lx_iaload hC (th_a8 h4) dX7_formatEcho_98 ?_
    refine lx_sbI hC hE sb7 wd941 (by decide) (by decide) (Nat.le_of_ble_eq_true rfl) dX7_formatEcho_99 (fun s13 => ?_)
    refine lx_pop_ref hC dX7_formatEcho_102 ?_
    refine lx_aload_n hC dX7_formatEcho_103 rfl 2 rfl ?_
    refine lx_getR (q := 7) hC ly0 rfl 6 (by decide) rfl rfl inX7 wd253 dX7_formatEcho_104 ?_
    refine lx_sblen hC hE sb7 wd969 (by decide) (by decide) (Nat.le_of_ble_eq_true rfl) dX7_formatEcho_107 ?_
    exact lx_iret hC rfl hr dX7_formatEcho_110
set_option maxRecDepth 100000 in
set_option maxHeartbeats 2000000 in
theorem n_X7_lineChar (p0 : Int32) (s : Mem) : Mn s (m_X7_lineChar p0 s) := by
  unfold m_X7_lineChar
  refine mn_if ?_ ?_
  · skip
    exact mn_thr
  · skip
    refine mn_if ?_ ?_
    · skip
      refine mn_if ?_ mn_none
      exact mn_if mn_some mn_none
    · skip
      exact mn_thr
set_option maxRecDepth 100000 in
set_option maxHeartbeats 2000000 in
theorem sat_X7_lineChar (l : Launch) (hl : l.stackTraces = false) (p0 : Int32) (s : Mem) : Sat l yX7_lineChar (.code yX7_lineChar cX7_lineChar 2 (some .char)) 30 500 (fun x => some (.int x)) [.ref 0, .int p0] s (m_X7_lineChar p0 s) := by
  refine sat_of hl (by decide) (Nat.le_of_ble_eq_true rfl) (fun X V A adV hxl hC hE hx hr => ?_) (n_X7_lineChar p0 s)
  subst hxl
  show LX X V A 30 500 (nC s) (nS s) _ 0 [(0, .ref 0), (1, .int p0)] [] s _
  unfold m_X7_lineChar
  refine lx_iload_n hC dX7_lineChar_0 rfl 1 rfl ?_
  refine lx_if_lt hC 15 dX7_lineChar_1 (by decide) ?_ ?_
  · skip
    exact lx_throwW hC hE hl hx (i := 18) (text := "the line has no such index") rfl wd463 wd36 rfl thg_X7_IndexOutOfBoundsException_102 thn_X7_IndexOutOfBoundsException_102 tho_X7_IndexOutOfBoundsException_102 dX7_lineChar_15 dX7_lineChar_18 dX7_lineChar_19 dX7_lineChar_22 dX7_lineChar_25 (by decide) (Nat.le_of_ble_eq_true rfl)
  · skip
    refine lx_iload_n hC dX7_lineChar_4 rfl 1 rfl ?_
    refine lx_aload_n hC dX7_lineChar_5 rfl 0 rfl ?_
    refine lx_getR (q := 7) hC ly0 rfl 6 (by decide) rfl rfl inX7 wd253 dX7_lineChar_6 ?_
    refine lx_sblen hC hE sb7 wd969 (by decide) (by decide) (Nat.le_of_ble_eq_true rfl) dX7_lineChar_9 ?_
    refine lx_icmp_lt hC 26 dX7_lineChar_12 (by decide) ?_ ?_
    · skip
      refine lx_aload_n hC dX7_lineChar_26 rfl 0 rfl ?_
      refine lx_getR (q := 7) hC ly0 rfl 6 (by decide) rfl rfl inX7 wd253 dX7_lineChar_27 ?_
      refine lx_iload_n hC dX7_lineChar_30 rfl 1 rfl ?_
      refine lx_sbch hC hE sb7 wd979 (by decide) (by decide) (Nat.le_of_ble_eq_true rfl) dX7_lineChar_31 ?_
      exact lx_zretn hC rfl hr (by simp) dX7_lineChar_34
    · skip
      exact lx_throwW hC hE hl hx (i := 18) (text := "the line has no such index") rfl wd463 wd36 rfl thg_X7_IndexOutOfBoundsException_102 thn_X7_IndexOutOfBoundsException_102 tho_X7_IndexOutOfBoundsException_102 dX7_lineChar_15 dX7_lineChar_18 dX7_lineChar_19 dX7_lineChar_22 dX7_lineChar_25 (by decide) (Nat.le_of_ble_eq_true rfl)
set_option maxRecDepth 100000 in
set_option maxHeartbeats 2000000 in
theorem n_X7_append (p0 : Int32) (s : Mem) : Mn s (m_X7_append p0 s) := by
  unfold m_X7_append
  refine mn_if ?_ ?_
  · skip
    exact mn_thr
  · skip
    refine mn_if ?_ ?_
    · skip
      refine mn_if ?_ ?_
      · skip
        refine mn_if ?_ mn_none
        refine mn_sbC (fun s1 => ?_)
        exact mn_some
      · skip
        exact mn_thr
    · skip
      exact mn_thr
set_option maxRecDepth 100000 in
set_option maxHeartbeats 2000000 in
theorem sat_X7_append (l : Launch) (hl : l.stackTraces = false) (p0 : Int32) (s : Mem) : Sat l yX7_append (.code yX7_append cX7_append 2 (some .int)) 30 500 (fun x => some (.int x)) [.ref 0, .int p0] s (m_X7_append p0 s) := by
  refine sat_of hl (by decide) (Nat.le_of_ble_eq_true rfl) (fun X V A adV hxl hC hE hx hr => ?_) (n_X7_append p0 s)
  subst hxl
  show LX X V A 30 500 (nC s) (nS s) _ 0 [(0, .ref 0), (1, .int p0)] [] s _
  unfold m_X7_append
  refine lx_iload_n hC dX7_append_0 rfl 1 rfl ?_
  refine lx_bipush (v := 32) hC dX7_append_1 (by decide) ?_
  refine lx_icmp_lt hC 12 dX7_append_3 (by decide) ?_ ?_
  · skip
    exact lx_throwW hC hE hl hx (i := 19) (text := "the character is not from ' ' to '~'") rfl wd479 wd37 rfl thg_X7_IllegalArgumentException_107 thn_X7_IllegalArgumentException_107 tho_X7_IllegalArgumentException_107 dX7_append_12 dX7_append_15 dX7_append_16 dX7_append_19 dX7_append_22 (by decide) (Nat.le_of_ble_eq_true rfl)
  · skip
    refine lx_iload_n hC dX7_append_6 rfl 1 rfl ?_
    refine lx_bipush (v := 126) hC dX7_append_7 (by decide) ?_
    refine lx_icmp_le hC 23 dX7_append_9 (by decide) ?_ ?_
    · skip
      refine lx_aload_n hC dX7_append_23 rfl 0 rfl ?_
      refine lx_getR (q := 6) hC ly0 rfl 5 (by decide) rfl rfl inX7 wd252 dX7_append_24 ?_
      refine lx_sblen hC hE sb6 wd969 (by decide) (by decide) (Nat.le_of_ble_eq_true rfl) dX7_append_27 ?_
      refine lx_bipush (v := 60) hC dX7_append_30 (by decide) ?_
      refine lx_icmp_lt hC 46 dX7_append_32 (by decide) ?_ ?_
      · skip
        refine lx_aload_n hC dX7_append_46 rfl 0 rfl ?_
        refine lx_getR (q := 6) hC ly0 rfl 5 (by decide) rfl rfl inX7 wd252 dX7_append_47 ?_
        refine lx_iload_n hC dX7_append_50 rfl 1 rfl ?_
        refine lx_sbC hC hE sb6 wd942 (by decide) (by decide) (Nat.le_of_ble_eq_true rfl) dX7_append_51 (fun s1 => ?_)
        refine lx_pop_ref hC dX7_append_54 ?_
        refine lx_aload_n hC dX7_append_55 rfl 0 rfl ?_
        refine lx_getR (q := 6) hC ly0 rfl 5 (by decide) rfl rfl inX7 wd252 dX7_append_56 ?_
        refine lx_sblen hC hE sb6 wd969 (by decide) (by decide) (Nat.le_of_ble_eq_true rfl) dX7_append_59 ?_
        exact lx_iret hC rfl hr dX7_append_62
      · skip
        exact lx_throwW hC hE hl hx (i := 20) (text := "the input buffer is full") rfl wd495 wd38 rfl thg_X7_IllegalStateException_112 thn_X7_IllegalStateException_112 tho_X7_IllegalStateException_112 dX7_append_35 dX7_append_38 dX7_append_39 dX7_append_42 dX7_append_45 (by decide) (Nat.le_of_ble_eq_true rfl)
    · skip
      exact lx_throwW hC hE hl hx (i := 19) (text := "the character is not from ' ' to '~'") rfl wd479 wd37 rfl thg_X7_IllegalArgumentException_107 thn_X7_IllegalArgumentException_107 tho_X7_IllegalArgumentException_107 dX7_append_12 dX7_append_15 dX7_append_16 dX7_append_19 dX7_append_22 (by decide) (Nat.le_of_ble_eq_true rfl)
set_option maxRecDepth 100000 in
set_option maxHeartbeats 2000000 in
theorem sat_X4_keyword (l : Launch) (hl : l.stackTraces = false) (p0 : Int32) (s : Mem) : Sat l yX4_keyword (.code yX4_keyword cX4_keyword 1 (some (.object "java/lang/String"))) 30 500 (fun x => some (.ref x)) [.int p0] s (pur s (m_X4_keyword p0 s)) := by
  refine sat_of hl (by decide) (Nat.le_of_ble_eq_true rfl) (fun X V A adV hxl hC hE hx hr => ?_) pur_mono
  subst hxl
  show LX X V A 30 500 (nC s) (nS s) _ 0 [(0, .int p0)] [] s _
  unfold m_X4_keyword
  refine lx_iload_n hC dX4_keyword_0 rfl 0 rfl ?_
  refine lq_case (fun h1 => ?_) (fun h1 => ?_)
  · refine lx_tin hC 60 h1 dX4_keyword_1 (by decide) (by decide) rfl (by decide) ?_
    refine lx_ldcS (q := 3021) hC hE (i := 21) rfl rfl dX4_keyword_60 ?_
    exact lx_aret hC rfl hr (Or.inl ⟨_, rfl⟩) dX4_keyword_62
  · skip
    refine lq_case (fun h2 => ?_) (fun h2 => ?_)
    · refine lx_tin hC 63 h2 dX4_keyword_1 (by decide) (by decide) rfl (by decide) ?_
      refine lx_ldcS (q := 3022) hC hE (i := 22) rfl rfl dX4_keyword_63 ?_
      exact lx_aret hC rfl hr (Or.inl ⟨_, rfl⟩) dX4_keyword_65
    · skip
      refine lq_case (fun h3 => ?_) (fun h3 => ?_)
      · refine lx_tin hC 66 h3 dX4_keyword_1 (by decide) (by decide) rfl (by decide) ?_
        refine lx_ldcS (q := 3023) hC hE (i := 23) rfl rfl dX4_keyword_66 ?_
        exact lx_aret hC rfl hr (Or.inl ⟨_, rfl⟩) dX4_keyword_68
      · skip
        refine lq_case (fun h4 => ?_) (fun h4 => ?_)
        · refine lx_tin hC 69 h4 dX4_keyword_1 (by decide) (by decide) rfl (by decide) ?_
          refine lx_ldcS (q := 3024) hC hE (i := 24) rfl rfl dX4_keyword_69 ?_
          exact lx_aret hC rfl hr (Or.inl ⟨_, rfl⟩) dX4_keyword_71
        · skip
          refine lq_case (fun h5 => ?_) (fun h5 => ?_)
          · refine lx_tin hC 72 h5 dX4_keyword_1 (by decide) (by decide) rfl (by decide) ?_
            refine lx_ldcS (q := 3025) hC hE (i := 25) rfl rfl dX4_keyword_72 ?_
            exact lx_aret hC rfl hr (Or.inl ⟨_, rfl⟩) dX4_keyword_74
          · skip
            refine lq_case (fun h6 => ?_) (fun h6 => ?_)
            · refine lx_tin hC 75 h6 dX4_keyword_1 (by decide) (by decide) rfl (by decide) ?_
              refine lx_ldcS (q := 3026) hC hE (i := 26) rfl rfl dX4_keyword_75 ?_
              exact lx_aret hC rfl hr (Or.inl ⟨_, rfl⟩) dX4_keyword_77
            · skip
              refine lq_case (fun h7 => ?_) (fun h7 => ?_)
              · refine lx_tin hC 78 h7 dX4_keyword_1 (by decide) (by decide) rfl (by decide) ?_
                refine lx_ldcS (q := 3027) hC hE (i := 27) rfl rfl dX4_keyword_78 ?_
                exact lx_aret hC rfl hr (Or.inl ⟨_, rfl⟩) dX4_keyword_80
              · skip
                refine lq_case (fun h8 => ?_) (fun h8 => ?_)
                · refine lx_tin hC 81 h8 dX4_keyword_1 (by decide) (by decide) rfl (by decide) ?_
                  refine lx_ldcS (q := 3028) hC hE (i := 28) rfl rfl dX4_keyword_81 ?_
                  exact lx_aret hC rfl hr (Or.inl ⟨_, rfl⟩) dX4_keyword_83
                · skip
                  refine lq_case (fun h9 => ?_) (fun h9 => ?_)
                  · refine lx_tin hC 84 h9 dX4_keyword_1 (by decide) (by decide) rfl (by decide) ?_
                    refine lx_ldcS (q := 3029) hC hE (i := 29) rfl rfl dX4_keyword_84 ?_
                    exact lx_aret hC rfl hr (Or.inl ⟨_, rfl⟩) dX4_keyword_86
                  · skip
                    refine lq_case (fun h10 => ?_) (fun h10 => ?_)
                    · refine lx_tin hC 87 h10 dX4_keyword_1 (by decide) (by decide) rfl (by decide) ?_
                      refine lx_ldcS (q := 3030) hC hE (i := 30) rfl rfl dX4_keyword_87 ?_
                      exact lx_aret hC rfl hr (Or.inl ⟨_, rfl⟩) dX4_keyword_89
                    · skip
                      refine lq_case (fun h11 => ?_) (fun h11 => ?_)
                      · refine lx_tin hC 90 h11 dX4_keyword_1 (by decide) (by decide) rfl (by decide) ?_
                        refine lx_ldcS (q := 3031) hC hE (i := 31) rfl rfl dX4_keyword_90 ?_
                        exact lx_aret hC rfl hr (Or.inl ⟨_, rfl⟩) dX4_keyword_92
                      · skip
                        refine lx_tdf hC 93 dX4_keyword_1 (fun z zq1 zq2 ze => ?_) (by decide) ?_
                        · rcases (show z = 0 ∨ z = 1 ∨ z = 2 ∨ z = 3 ∨ z = 4 ∨ z = 5 ∨ z = 6 ∨ z = 7 ∨ z = 8 ∨ z = 9 ∨ z = 10 by omega) with rfl | rfl | rfl | rfl | rfl | rfl | rfl | rfl | rfl | rfl | rfl
                          · exact absurd ze (lv_neT h1 (by decide))
                          · exact absurd ze (lv_neT h2 (by decide))
                          · exact absurd ze (lv_neT h3 (by decide))
                          · exact absurd ze (lv_neT h4 (by decide))
                          · exact absurd ze (lv_neT h5 (by decide))
                          · exact absurd ze (lv_neT h6 (by decide))
                          · exact absurd ze (lv_neT h7 (by decide))
                          · exact absurd ze (lv_neT h8 (by decide))
                          · exact absurd ze (lv_neT h9 (by decide))
                          · exact absurd ze (lv_neT h10 (by decide))
                          · exact absurd ze (lv_neT h11 (by decide))
                        · skip
                          refine lx_ldcS (q := 3032) hC hE (i := 32) rfl rfl dX4_keyword_93 ?_
                          exact lx_aret hC rfl hr (Or.inl ⟨_, rfl⟩) dX4_keyword_95
set_option maxRecDepth 100000 in
set_option maxHeartbeats 2000000 in
theorem l_X4_matchedLetters_b2 {X : Cx} {V : Vx} {A : Nat → Prop} {adV : Nat → Nat} {c0 s0 : Nat} (hC : Cok X V A yX4_matchedLetters.cls cX4_matchedLetters 4) (hE : Env0 V adV A (xs X) (xs X).heap) (hl : (xl X).stackTraces = false) (hx : ∀ x ∈ (xc X).exceptionTable.toList, False) (hr : (xh X).sig.returnType = some .int) (q1 : Nat) (hq1 : isStr q1) (s : Mem) (kf2 : Int32 → Option Int32) (hk2 : ∀ a, LX X V A 30 500 c0 s0 (FM X V A (fun x => some (.int x))) 2 [(0, .ref 5), (1, .ref 6), (2, .ref q1), (3, .int a)] [] s (pur s (kf2 a))) (w3 : Int32) : LX X V A 30 500 c0 s0 (FM X V A (fun x => some (.int x))) 2 [(0, .ref 5), (1, .ref 6), (2, .ref q1), (3, .int w3)] [] s (pur s (m_X4_matchedLetters_b2 q1 s kf2 w3 )) := by
  unfold m_X4_matchedLetters_b2
  refine lx_iload_n hC dX4_matchedLetters_2 rfl 3 rfl ?_
  refine lx_aload_n hC dX4_matchedLetters_3 rfl 2 rfl ?_
  refine lx_stlen hC hE hq1 wd1186 (by decide) (by decide) (Nat.le_of_ble_eq_true rfl) dX4_matchedLetters_4 ?_
  refine lq_icmp_ge hC 47 dX4_matchedLetters_7 (by decide) ?_ ?_
  · skip
    refine lx_iload_n hC dX4_matchedLetters_47 rfl 3 rfl ?_
    exact lx_iret hC rfl hr dX4_matchedLetters_48
  · skip
    refine lx_aload_n hC dX4_matchedLetters_10 rfl 0 rfl ?_
    refine lx_getI hC ly5 rfl 4 (by decide) rfl inX4 wd202 dX4_matchedLetters_11 ?_
    refine lx_iload_n hC dX4_matchedLetters_14 rfl 3 rfl ?_
    refine lx_iadd hC dX4_matchedLetters_15 ?_
    refine lx_aload_n hC dX4_matchedLetters_16 rfl 1 rfl ?_
    refine lx_sblen hC hE sb6 wd1187 (by decide) (by decide) (Nat.le_of_ble_eq_true rfl) dX4_matchedLetters_17 ?_
    refine lq_icmp_ge hC 47 dX4_matchedLetters_20 (by decide) ?_ ?_
    · skip
      refine lx_iload_n hC dX4_matchedLetters_47 rfl 3 rfl ?_
      exact lx_iret hC rfl hr dX4_matchedLetters_48
    · skip
      refine lx_aload_n hC dX4_matchedLetters_23 rfl 1 rfl ?_
      refine lx_aload_n hC dX4_matchedLetters_24 rfl 0 rfl ?_
      refine lx_getI hC ly5 rfl 4 (by decide) rfl inX4 wd202 dX4_matchedLetters_25 ?_
      refine lx_iload_n hC dX4_matchedLetters_28 rfl 3 rfl ?_
      refine lx_iadd hC dX4_matchedLetters_29 ?_
      refine lq_sbch hC hE sb6 wd1188 (by decide) (by decide) (Nat.le_of_ble_eq_true rfl) dX4_matchedLetters_30 ?_
      refine lx_aload_n hC dX4_matchedLetters_33 rfl 2 rfl ?_
      refine lx_iload_n hC dX4_matchedLetters_34 rfl 3 rfl ?_
      refine lq_stch hC hE hq1 wd1189 (by decide) (by decide) (Nat.le_of_ble_eq_true rfl) dX4_matchedLetters_35 ?_
      refine lq_icmp_ne hC 47 dX4_matchedLetters_38 (by decide) ?_ ?_
      · skip
        refine lx_iload_n hC dX4_matchedLetters_47 rfl 3 rfl ?_
        exact lx_iret hC rfl hr dX4_matchedLetters_48
      · skip
        refine lq_iincN (v := 1) hC dX4_matchedLetters_41 3 rfl (by decide) rfl (fun y2 => ?_)
        refine lx_goto hC 2 dX4_matchedLetters_44 (by decide) ?_
        exact lx_sub [1, 2, 3, 0] rfl (hk2 y2)
set_option maxRecDepth 100000 in
set_option maxHeartbeats 2000000 in
theorem sat_X4_matchedLetters (l : Launch) (hl : l.stackTraces = false) (p1 : Nat) (hp1 : isStr p1) (s : Mem) : Sat l yX4_matchedLetters (.code yX4_matchedLetters cX4_matchedLetters 4 (some .int)) 30 500 (fun x => some (.int x)) [.ref 5, .ref 6, .ref p1] s (pur s (m_X4_matchedLetters p1 s)) := by
  refine sat_of hl (by decide) (Nat.le_of_ble_eq_true rfl) (fun X V A adV hxl hC hE hx hr => ?_) pur_mono
  subst hxl
  show LX X V A 30 500 (nC s) (nS s) _ 0 [(0, .ref 5), (1, .ref 6), (2, .ref p1)] [] s _
  unfold m_X4_matchedLetters
  refine lx_iconstv (v := 0) hC dX4_matchedLetters_0 rfl ?_
  refine lx_istore_n hC dX4_matchedLetters_1 rfl (by decide) ?_
  refine lx_sub [1, 2, 3, 0] rfl ?_
  exact lq_lp (lv := fun a => [(0, .ref 5), (1, .ref 6), (2, .ref p1), (3, .int a)]) (st := fun _ => []) (fun kf hq a => l_X4_matchedLetters_b2 hC hE hl hx hr p1 hp1 s kf hq a) FUEL 0
set_option maxRecDepth 100000 in
set_option maxHeartbeats 2000000 in
theorem l_X4_readKeyword_b4 {X : Cx} {V : Vx} {A : Nat → Prop} {adV : Nat → Nat} {c0 s0 : Nat} (hC : Cok X V A yX4_readKeyword.cls cX4_readKeyword 6) (hE : Env0 V adV A (xs X) (xs X).heap) (hl : (xl X).stackTraces = false) (hx : ∀ x ∈ (xc X).exceptionTable.toList, False) (hr : (xh X).sig.returnType = some .int) (s : Mem) (kf4 : (Int32 × Int32) → Res Int32) (hk4 : ∀ a, LX X V A 31 523 c0 s0 (FM X V A (fun x => some (.int x))) 4 [(0, .ref 5), (1, .ref 6), (2, .int a.1), (3, .int a.2)] [] s (kf4 a)) (w2 : Int32) (w3 : Int32) : LX X V A 31 523 c0 s0 (FM X V A (fun x => some (.int x))) 4 [(0, .ref 5), (1, .ref 6), (2, .int w2), (3, .int w3)] [] s (m_X4_readKeyword_b4 s kf4 w2 w3 ) := by
  unfold m_X4_readKeyword_b4
  refine lx_iload_n hC dX4_readKeyword_4 rfl 3 rfl ?_
  refine lx_bipush (v := 12) hC dX4_readKeyword_5 (by decide) ?_
  refine lx_icmp_ge hC 61 dX4_readKeyword_7 (by decide) ?_ ?_
  · skip
    refine lx_aload_n hC dX4_readKeyword_61 rfl 0 rfl ?_
    refine lx_dup_ref hC dX4_readKeyword_62 ?_
    refine lx_getI hC ly5 rfl 4 (by decide) rfl inX4 wd202 dX4_readKeyword_63 ?_
    refine lx_iload_n hC dX4_readKeyword_66 rfl 2 rfl ?_
    refine lx_iadd hC dX4_readKeyword_67 ?_
    refine lx_putI hC ly5 rfl 4 (by decide) rfl tyX4 tyX4_ok nmX4 rfl rfl rfl inX4 wd202 dX4_readKeyword_68 (fun s1 => ?_)
    refine lx_iconstv (v := (-1)) hC dX4_readKeyword_71 rfl ?_
    exact lx_iret hC rfl hr dX4_readKeyword_72
  · skip
    refine lx_iload_n hC dX4_readKeyword_10 rfl 3 rfl ?_
    refine lx_callP hC hx (sat_X4_keyword (xl X) hl w3 s) (run_S (as := [.int w3]) (rest := []) hC hE cw_X4_keyword ci_X4_keyword wd1167 cs_X4_keyword cd_X4_keyword (by decide) (by decide) (Nat.le_of_ble_eq_true rfl) dX4_readKeyword_11 rfl) (fun v2 _ => ?_)
    refine lx_if fun h3 => ?_
    refine lx_astore hC dX4_readKeyword_14 (by decide) ?_
    refine lx_aload_n hC dX4_readKeyword_16 rfl 1 rfl ?_
    refine lx_aload_n hC dX4_readKeyword_17 rfl 2 rfl ?_
    refine lx_aload hC dX4_readKeyword_18 0 rfl ?_
    refine lx_callP hC hx (sat_X4_matchedLetters (xl X) hl v2 h3 s) (run_V (as := [.ref 6, .ref v2]) (rest := []) hC hE ly5 rfl cw_X4_matchedLetters ci_X4_matchedLetters wd1182 cs_X4_matchedLetters ce_X4_matchedLetters cd_X4_matchedLetters (by decide) (by decide) (Nat.le_of_ble_eq_true rfl) dX4_readKeyword_20 rfl) (fun v4 _ => ?_)
    refine lx_istore hC dX4_readKeyword_23 (by decide) ?_
    refine lx_iload hC dX4_readKeyword_25 0 rfl ?_
    refine lx_aload hC dX4_readKeyword_27 1 rfl ?_
    refine lx_stlen hC hE h3 wd1186 (by decide) (by decide) (Nat.le_of_ble_eq_true rfl) dX4_readKeyword_29 ?_
    refine lx_icmp_ne hC 48 dX4_readKeyword_32 (by decide) ?_ ?_
    · skip
      refine lx_iload_n hC dX4_readKeyword_48 rfl 4 rfl ?_
      refine lx_iload hC dX4_readKeyword_49 0 rfl ?_
      refine lx_mmax hC wd1190 wd724 wd40 wd725 (by decide) (Nat.le_of_ble_eq_true rfl) dX4_readKeyword_51 ?_
      refine lx_istore_nN hC dX4_readKeyword_54 rfl (by decide) (fun y5 => ?_)
      refine lx_iincN (v := 1) hC dX4_readKeyword_55 5 rfl (by decide) rfl (fun y6 => ?_)
      refine lx_goto hC 4 dX4_readKeyword_58 (by decide) ?_
      exact lx_sub [4, 5, 1, 0] rfl (hk4 (y5, y6))
    · skip
      refine lx_aload_n hC dX4_readKeyword_35 rfl 2 rfl ?_
      refine lx_dup_ref hC dX4_readKeyword_36 ?_
      refine lx_getI hC ly5 rfl 4 (by decide) rfl inX4 wd202 dX4_readKeyword_37 ?_
      refine lx_iload hC dX4_readKeyword_40 0 rfl ?_
      refine lx_iadd hC dX4_readKeyword_42 ?_
      refine lx_putI hC ly5 rfl 4 (by decide) rfl tyX4 tyX4_ok nmX4 rfl rfl rfl inX4 wd202 dX4_readKeyword_43 (fun s7 => ?_)
      refine lx_iload_n hC dX4_readKeyword_46 rfl 5 rfl ?_
      exact lx_iret hC rfl hr dX4_readKeyword_47
set_option maxRecDepth 100000 in
set_option maxHeartbeats 2000000 in
theorem n_X4_readKeyword_b4 (s : Mem) (kf4 : (Int32 × Int32) → Res Int32) (hm4 : ∀ a, Mn s (kf4 a)) (w2 : Int32) (w3 : Int32) : Mn s (m_X4_readKeyword_b4 s kf4 w2 w3 ) := by
  unfold m_X4_readKeyword_b4
  refine mn_if ?_ ?_
  · skip
    refine mn_put (fun s1 => ?_)
    exact mn_some
  · skip
    refine mn_bindP (fun v2 => ?_)
    refine mn_if ?_ mn_none
    refine mn_bindP (fun v4 => ?_)
    refine mn_if ?_ ?_
    · skip
      refine mn_vl (fun y5 => ?_)
      refine mn_vl (fun y6 => ?_)
      exact hm4 (y5, y6)
    · skip
      refine mn_put (fun s7 => ?_)
      exact mn_some
set_option maxRecDepth 100000 in
set_option maxHeartbeats 2000000 in
theorem n_X4_readKeyword (s : Mem) : Mn s (m_X4_readKeyword s) := by
  unfold m_X4_readKeyword
  exact mn_lp (sg := fun a => s) (fun kf hq a => n_X4_readKeyword_b4 s kf hq a.1 a.2) FUEL (0, 0)
set_option maxRecDepth 100000 in
set_option maxHeartbeats 2000000 in
theorem sat_X4_readKeyword (l : Launch) (hl : l.stackTraces = false) (s : Mem) : Sat l yX4_readKeyword (.code yX4_readKeyword cX4_readKeyword 6 (some .int)) 31 523 (fun x => some (.int x)) [.ref 5, .ref 6] s (m_X4_readKeyword s) := by
  refine sat_of hl (by decide) (Nat.le_of_ble_eq_true rfl) (fun X V A adV hxl hC hE hx hr => ?_) (n_X4_readKeyword s)
  subst hxl
  show LX X V A 31 523 (nC s) (nS s) _ 0 [(0, .ref 5), (1, .ref 6)] [] s _
  unfold m_X4_readKeyword
  refine lx_iconstv (v := 0) hC dX4_readKeyword_0 rfl ?_
  refine lx_istore_n hC dX4_readKeyword_1 rfl (by decide) ?_
  refine lx_iconstv (v := 0) hC dX4_readKeyword_2 rfl ?_
  refine lx_istore_n hC dX4_readKeyword_3 rfl (by decide) ?_
  refine lx_sub [2, 3, 1, 0] rfl ?_
  exact lx_lp (lv := fun a => [(0, .ref 5), (1, .ref 6), (2, .int a.1), (3, .int a.2)]) (st := fun _ => []) (sg := fun a => s) (fun kf hq a => l_X4_readKeyword_b4 hC hE hl hx hr s kf hq a.1 a.2) FUEL (0, 0)
set_option maxRecDepth 100000 in
set_option maxHeartbeats 2000000 in
theorem sat_X4_argumentForms (l : Launch) (hl : l.stackTraces = false) (p0 : Int32) (s : Mem) : Sat l yX4_argumentForms (.code yX4_argumentForms cX4_argumentForms 1 (some (.object "java/lang/String"))) 30 500 (fun x => some (.ref x)) [.int p0] s (pur s (m_X4_argumentForms p0 s)) := by
  refine sat_of hl (by decide) (Nat.le_of_ble_eq_true rfl) (fun X V A adV hxl hC hE hx hr => ?_) pur_mono
  subst hxl
  show LX X V A 30 500 (nC s) (nS s) _ 0 [(0, .int p0)] [] s _
  unfold m_X4_argumentForms
  refine lx_iload_n hC dX4_argumentForms_0 rfl 0 rfl ?_
  refine lq_case (fun h1 => ?_) (fun h1 => ?_)
  · refine lx_tin hC 60 h1 dX4_argumentForms_1 (by decide) (by decide) rfl (by decide) ?_
    refine lx_ldcS (q := 3033) hC hE (i := 33) rfl rfl dX4_argumentForms_60 ?_
    exact lx_aret hC rfl hr (Or.inl ⟨_, rfl⟩) dX4_argumentForms_62
  · skip
    refine lq_case (fun h2 => ?_) (fun h2 => ?_)
    · refine lx_tin hC 63 h2 dX4_argumentForms_1 (by decide) (by decide) rfl (by decide) ?_
      refine lx_ldcS (q := 3034) hC hE (i := 34) rfl rfl dX4_argumentForms_63 ?_
      exact lx_aret hC rfl hr (Or.inl ⟨_, rfl⟩) dX4_argumentForms_65
    · skip
      refine lq_case (fun h3 => ?_) (fun h3 => ?_)
      · refine lx_tin hC 63 h3 dX4_argumentForms_1 (by decide) (by decide) rfl (by decide) ?_
        refine lx_ldcS (q := 3034) hC hE (i := 34) rfl rfl dX4_argumentForms_63 ?_
        exact lx_aret hC rfl hr (Or.inl ⟨_, rfl⟩) dX4_argumentForms_65
      · skip
        refine lq_case (fun h4 => ?_) (fun h4 => ?_)
        · refine lx_tin hC 66 h4 dX4_argumentForms_1 (by decide) (by decide) rfl (by decide) ?_
          refine lx_ldcS (q := 3035) hC hE (i := 35) rfl rfl dX4_argumentForms_66 ?_
          exact lx_aret hC rfl hr (Or.inl ⟨_, rfl⟩) dX4_argumentForms_68
        · skip
          refine lq_case (fun h5 => ?_) (fun h5 => ?_)
          · refine lx_tin hC 69 h5 dX4_argumentForms_1 (by decide) (by decide) rfl (by decide) ?_
            refine lx_ldcS (q := 3036) hC hE (i := 36) rfl rfl dX4_argumentForms_69 ?_
            exact lx_aret hC rfl hr (Or.inl ⟨_, rfl⟩) dX4_argumentForms_71
          · skip
            refine lq_case (fun h6 => ?_) (fun h6 => ?_)
            · refine lx_tin hC 60 h6 dX4_argumentForms_1 (by decide) (by decide) rfl (by decide) ?_
              refine lx_ldcS (q := 3033) hC hE (i := 33) rfl rfl dX4_argumentForms_60 ?_
              exact lx_aret hC rfl hr (Or.inl ⟨_, rfl⟩) dX4_argumentForms_62
            · skip
              refine lq_case (fun h7 => ?_) (fun h7 => ?_)
              · refine lx_tin hC 72 h7 dX4_argumentForms_1 (by decide) (by decide) rfl (by decide) ?_
                refine lx_ldcS (q := 3037) hC hE (i := 37) rfl rfl dX4_argumentForms_72 ?_
                exact lx_aret hC rfl hr (Or.inl ⟨_, rfl⟩) dX4_argumentForms_74
              · skip
                refine lq_case (fun h8 => ?_) (fun h8 => ?_)
                · refine lx_tin hC 60 h8 dX4_argumentForms_1 (by decide) (by decide) rfl (by decide) ?_
                  refine lx_ldcS (q := 3033) hC hE (i := 33) rfl rfl dX4_argumentForms_60 ?_
                  exact lx_aret hC rfl hr (Or.inl ⟨_, rfl⟩) dX4_argumentForms_62
                · skip
                  refine lq_case (fun h9 => ?_) (fun h9 => ?_)
                  · refine lx_tin hC 75 h9 dX4_argumentForms_1 (by decide) (by decide) rfl (by decide) ?_
                    refine lx_ldcS (q := 3038) hC hE (i := 38) rfl rfl dX4_argumentForms_75 ?_
                    exact lx_aret hC rfl hr (Or.inl ⟨_, rfl⟩) dX4_argumentForms_77
                  · skip
                    refine lx_tdf hC 78 dX4_argumentForms_1 (fun z zq1 zq2 ze => ?_) (by decide) ?_
                    · rcases (show z = 0 ∨ z = 1 ∨ z = 2 ∨ z = 3 ∨ z = 4 ∨ z = 5 ∨ z = 6 ∨ z = 7 ∨ z = 8 ∨ z = 9 ∨ z = 10 by omega) with rfl | rfl | rfl | rfl | rfl | rfl | rfl | rfl | rfl | rfl | rfl
                      · exact absurd ze (lv_neT h1 (by decide))
                      · exact absurd ze (lv_neT h2 (by decide))
                      · exact absurd ze (lv_neT h3 (by decide))
                      · exact absurd ze (lv_neT h4 (by decide))
                      · exact absurd ze (lv_neT h5 (by decide))
                      · exact absurd ze (lv_neT h6 (by decide))
                      · exact absurd ze (lv_neT h7 (by decide))
                      · exact absurd ze (lv_neT h8 (by decide))
                      · rfl
                      · rfl
                      · exact absurd ze (lv_neT h9 (by decide))
                    · skip
                      refine lx_ldcS (q := 3039) hC hE (i := 39) rfl rfl dX4_argumentForms_78 ?_
                      exact lx_aret hC rfl hr (Or.inl ⟨_, rfl⟩) dX4_argumentForms_80
set_option maxRecDepth 100000 in
set_option maxHeartbeats 2000000 in
theorem n_X4_readSign (p1 : Int32) (s : Mem) : Mn s (m_X4_readSign p1 s) := by
  unfold m_X4_readSign
  refine mn_if ?_ ?_
  · skip
    exact mn_some
  · skip
    refine mn_if ?_ mn_none
    refine mn_if ?_ ?_
    · skip
      refine mn_put (fun s1 => ?_)
      exact mn_some
    · skip
      exact mn_some
set_option maxRecDepth 100000 in
set_option maxHeartbeats 2000000 in
theorem sat_X4_readSign (l : Launch) (hl : l.stackTraces = false) (p1 : Int32) (s : Mem) : Sat l yX4_readSign (.code yX4_readSign cX4_readSign 3 (some .boolean)) 30 500 (fun x => some (.int x)) [.ref 5, .ref 6, .int p1] s (m_X4_readSign p1 s) := by
  refine sat_of hl (by decide) (Nat.le_of_ble_eq_true rfl) (fun X V A adV hxl hC hE hx hr => ?_) (n_X4_readSign p1 s)
  subst hxl
  show LX X V A 30 500 (nC s) (nS s) _ 0 [(0, .ref 5), (1, .ref 6), (2, .int p1)] [] s _
  unfold m_X4_readSign
  refine lx_aload_n hC dX4_readSign_0 rfl 0 rfl ?_
  refine lx_getI hC ly5 rfl 4 (by decide) rfl inX4 wd202 dX4_readSign_1 ?_
  refine lx_aload_n hC dX4_readSign_4 rfl 1 rfl ?_
  refine lx_sblen hC hE sb6 wd1187 (by decide) (by decide) (Nat.le_of_ble_eq_true rfl) dX4_readSign_5 ?_
  refine lx_icmp_ge hC 23 dX4_readSign_8 (by decide) ?_ ?_
  · skip
    refine lx_iconstv (v := 0) hC dX4_readSign_23 rfl ?_
    exact lx_zret hC rfl hr rfl dX4_readSign_24
  · skip
    refine lx_aload_n hC dX4_readSign_11 rfl 1 rfl ?_
    refine lx_aload_n hC dX4_readSign_12 rfl 0 rfl ?_
    refine lx_getI hC ly5 rfl 4 (by decide) rfl inX4 wd202 dX4_readSign_13 ?_
    refine lx_sbch hC hE sb6 wd1188 (by decide) (by decide) (Nat.le_of_ble_eq_true rfl) dX4_readSign_16 ?_
    refine lx_iload_n hC dX4_readSign_19 rfl 2 rfl ?_
    refine lx_icmp_eq hC 25 dX4_readSign_20 (by decide) ?_ ?_
    · skip
      refine lx_aload_n hC dX4_readSign_25 rfl 0 rfl ?_
      refine lx_dup_ref hC dX4_readSign_26 ?_
      refine lx_getI hC ly5 rfl 4 (by decide) rfl inX4 wd202 dX4_readSign_27 ?_
      refine lx_iconstv (v := 1) hC dX4_readSign_30 rfl ?_
      refine lx_iadd hC dX4_readSign_31 ?_
      refine lx_putI hC ly5 rfl 4 (by decide) rfl tyX4 tyX4_ok nmX4 rfl rfl rfl inX4 wd202 dX4_readSign_32 (fun s1 => ?_)
      refine lx_iconstv (v := 1) hC dX4_readSign_35 rfl ?_
      exact lx_zret hC rfl hr rfl dX4_readSign_36
    · skip
      refine lx_iconstv (v := 0) hC dX4_readSign_23 rfl ?_
      exact lx_zret hC rfl hr rfl dX4_readSign_24
set_option maxRecDepth 100000 in
set_option maxHeartbeats 2000000 in
theorem sat_X4_isDigit (l : Launch) (hl : l.stackTraces = false) (p0 : Int32) (s : Mem) : Sat l yX4_isDigit (.code yX4_isDigit cX4_isDigit 1 (some .boolean)) 30 500 (fun x => some (.int x)) [.int p0] s (pur s (m_X4_isDigit p0 s)) := by
  refine sat_of hl (by decide) (Nat.le_of_ble_eq_true rfl) (fun X V A adV hxl hC hE hx hr => ?_) pur_mono
  subst hxl
  show LX X V A 30 500 (nC s) (nS s) _ 0 [(0, .int p0)] [] s _
  unfold m_X4_isDigit
  refine lx_iload_n hC dX4_isDigit_0 rfl 0 rfl ?_
  refine lx_bipush (v := 48) hC dX4_isDigit_1 (by decide) ?_
  refine lq_icmp_lt hC 16 dX4_isDigit_3 (by decide) ?_ ?_
  · skip
    refine lx_iconstv (v := 0) hC dX4_isDigit_16 rfl ?_
    exact lx_zret hC rfl hr rfl dX4_isDigit_17
  · skip
    refine lx_iload_n hC dX4_isDigit_6 rfl 0 rfl ?_
    refine lx_bipush (v := 57) hC dX4_isDigit_7 (by decide) ?_
    refine lq_icmp_gt hC 16 dX4_isDigit_9 (by decide) ?_ ?_
    · skip
      refine lx_iconstv (v := 0) hC dX4_isDigit_16 rfl ?_
      exact lx_zret hC rfl hr rfl dX4_isDigit_17
    · skip
      refine lx_iconstv (v := 1) hC dX4_isDigit_12 rfl ?_
      refine lx_goto hC 17 dX4_isDigit_13 (by decide) ?_
      exact lx_zret hC rfl hr rfl dX4_isDigit_17
set_option maxRecDepth 100000 in
set_option maxHeartbeats 2000000 in
theorem l_X4_readNumber_b5 {X : Cx} {V : Vx} {A : Nat → Prop} {adV : Nat → Nat} {c0 s0 : Nat} (hC : Cok X V A yX4_readNumber.cls cX4_readNumber 5) (hE : Env0 V adV A (xs X) (xs X).heap) (hl : (xl X).stackTraces = false) (hx : ∀ x ∈ (xc X).exceptionTable.toList, False) (hr : (xh X).sig.returnType = some .int) (x1 : Int32) (s : Mem) (kf5 : (Int32 × Int32 × Mem) → Res Int32) (hk5 : ∀ a, LX X V A 31 520 c0 s0 (FM X V A (fun x => some (.int x))) 5 [(0, .ref 5), (1, .ref 6), (2, .int x1), (3, .int a.1), (4, .int a.2.1)] [] a.2.2 (kf5 a)) (w3 : Int32) (w4 : Int32) : LX X V A 31 520 c0 s0 (FM X V A (fun x => some (.int x))) 5 [(0, .ref 5), (1, .ref 6), (2, .int x1), (3, .int w3), (4, .int w4)] [] s (m_X4_readNumber_b5 x1 s kf5 w3 w4 ) := by
  unfold m_X4_readNumber_b5
  refine lx_iload hC dX4_readNumber_5 4 rfl ?_
  refine lx_iload_n hC dX4_readNumber_7 rfl 2 rfl ?_
  refine lx_icmp_ge hC 69 dX4_readNumber_8 (by decide) ?_ ?_
  · skip
    refine lx_iload hC dX4_readNumber_69 4 rfl ?_
    refine lx_if_ne hC 78 dX4_readNumber_71 (by decide) ?_ ?_
    · skip
      refine lx_iload_n hC dX4_readNumber_78 rfl 3 rfl ?_
      exact lx_iret hC rfl hr dX4_readNumber_79
    · skip
      refine lx_iconstv (v := (-1)) hC dX4_readNumber_74 rfl ?_
      refine lx_goto hC 79 dX4_readNumber_75 (by decide) ?_
      exact lx_iret hC rfl hr dX4_readNumber_79
  · skip
    refine lx_aload_n hC dX4_readNumber_11 rfl 0 rfl ?_
    refine lx_getI hC ly5 rfl 4 (by decide) rfl inX4 wd202 dX4_readNumber_12 ?_
    refine lx_aload_n hC dX4_readNumber_15 rfl 1 rfl ?_
    refine lx_sblen hC hE sb6 wd1187 (by decide) (by decide) (Nat.le_of_ble_eq_true rfl) dX4_readNumber_16 ?_
    refine lx_icmp_ge hC 69 dX4_readNumber_19 (by decide) ?_ ?_
    · skip
      refine lx_iload hC dX4_readNumber_69 4 rfl ?_
      refine lx_if_ne hC 78 dX4_readNumber_71 (by decide) ?_ ?_
      · skip
        refine lx_iload_n hC dX4_readNumber_78 rfl 3 rfl ?_
        exact lx_iret hC rfl hr dX4_readNumber_79
      · skip
        refine lx_iconstv (v := (-1)) hC dX4_readNumber_74 rfl ?_
        refine lx_goto hC 79 dX4_readNumber_75 (by decide) ?_
        exact lx_iret hC rfl hr dX4_readNumber_79
    · skip
      refine lx_aload_n hC dX4_readNumber_22 rfl 1 rfl ?_
      refine lx_aload_n hC dX4_readNumber_23 rfl 0 rfl ?_
      refine lx_getI hC ly5 rfl 4 (by decide) rfl inX4 wd202 dX4_readNumber_24 ?_
      refine lx_sbch hC hE sb6 wd1188 (by decide) (by decide) (Nat.le_of_ble_eq_true rfl) dX4_readNumber_27 ?_
      refine lx_callP hC hx (sat_X4_isDigit (xl X) hl (nI ((gB s 6).2.2 (gI s 5 4).toNatClampNeg)) s) (run_S (as := [.int (nI ((gB s 6).2.2 (gI s 5 4).toNatClampNeg))]) (rest := []) hC hE cw_X4_isDigit ci_X4_isDigit wd1213 cs_X4_isDigit cd_X4_isDigit (by decide) (by decide) (Nat.le_of_ble_eq_true rfl) dX4_readNumber_30 rfl) (fun v2 _ => ?_)
      refine lx_if_eq hC 69 dX4_readNumber_33 (by decide) ?_ ?_
      · skip
        refine lx_iload hC dX4_readNumber_69 4 rfl ?_
        refine lx_if_ne hC 78 dX4_readNumber_71 (by decide) ?_ ?_
        · skip
          refine lx_iload_n hC dX4_readNumber_78 rfl 3 rfl ?_
          exact lx_iret hC rfl hr dX4_readNumber_79
        · skip
          refine lx_iconstv (v := (-1)) hC dX4_readNumber_74 rfl ?_
          refine lx_goto hC 79 dX4_readNumber_75 (by decide) ?_
          exact lx_iret hC rfl hr dX4_readNumber_79
      · skip
        refine lx_iload_n hC dX4_readNumber_36 rfl 3 rfl ?_
        refine lx_bipush (v := 10) hC dX4_readNumber_37 (by decide) ?_
        refine lx_imul hC dX4_readNumber_39 ?_
        refine lx_aload_n hC dX4_readNumber_40 rfl 1 rfl ?_
        refine lx_aload_n hC dX4_readNumber_41 rfl 0 rfl ?_
        refine lx_getI hC ly5 rfl 4 (by decide) rfl inX4 wd202 dX4_readNumber_42 ?_
        refine lx_sbch hC hE sb6 wd1188 (by decide) (by decide) (Nat.le_of_ble_eq_true rfl) dX4_readNumber_45 ?_
        refine lx_iadd hC dX4_readNumber_48 ?_
        refine lx_bipush (v := 48) hC dX4_readNumber_49 (by decide) ?_
        refine lx_isub hC dX4_readNumber_51 ?_
        refine lx_istore_nN hC dX4_readNumber_52 rfl (by decide) (fun y3 => ?_)
        refine lx_iincN (v := 1) hC dX4_readNumber_53 4 rfl (by decide) rfl (fun y4 => ?_)
        refine lx_aload_n hC dX4_readNumber_56 rfl 2 rfl ?_
        refine lx_dup_ref hC dX4_readNumber_57 ?_
        refine lx_getI hC ly5 rfl 4 (by decide) rfl inX4 wd202 dX4_readNumber_58 ?_
        refine lx_iconstv (v := 1) hC dX4_readNumber_61 rfl ?_
        refine lx_iadd hC dX4_readNumber_62 ?_
        refine lx_putI hC ly5 rfl 4 (by decide) rfl tyX4 tyX4_ok nmX4 rfl rfl rfl inX4 wd202 dX4_readNumber_63 (fun s5 => ?_)
        refine lx_goto hC 5 dX4_readNumber_66 (by decide) ?_
        exact lx_sub [2, 3, 4, 1, 0] rfl (hk5 (y3, y4, s5))
set_option maxRecDepth 100000 in
set_option maxHeartbeats 2000000 in
theorem n_X4_readNumber_b5 (x1 : Int32) (s : Mem) (kf5 : (Int32 × Int32 × Mem) → Res Int32) (hm5 : ∀ a, Mn a.2.2 (kf5 a)) (w3 : Int32) (w4 : Int32) : Mn s (m_X4_readNumber_b5 x1 s kf5 w3 w4 ) := by
  unfold m_X4_readNumber_b5
  refine mn_if ?_ ?_
  · skip
    refine mn_if ?_ ?_
    · skip
      exact mn_some
    · skip
      exact mn_some
  · skip
    refine mn_if ?_ ?_
    · skip
      refine mn_if ?_ ?_
      · skip
        exact mn_some
      · skip
        exact mn_some
    · skip
      refine mn_if ?_ mn_none
      refine mn_bindP (fun v2 => ?_)
      refine mn_if ?_ ?_
      · skip
        refine mn_if ?_ ?_
        · skip
          exact mn_some
        · skip
          exact mn_some
      · skip
        refine mn_if ?_ mn_none
        refine mn_vl (fun y3 => ?_)
        refine mn_vl (fun y4 => ?_)
        refine mn_put (fun s5 => ?_)
        exact hm5 (y3, y4, s5)
set_option maxRecDepth 100000 in
set_option maxHeartbeats 2000000 in
theorem n_X4_readNumber (p1 : Int32) (s : Mem) : Mn s (m_X4_readNumber p1 s) := by
  unfold m_X4_readNumber
  exact mn_lp (sg := fun a => a.2.2) (fun kf hq a => n_X4_readNumber_b5 p1 a.2.2 kf hq a.1 a.2.1) FUEL (0, 0, s)
set_option maxRecDepth 100000 in
set_option maxHeartbeats 2000000 in
theorem sat_X4_readNumber (l : Launch) (hl : l.stackTraces = false) (p1 : Int32) (s : Mem) : Sat l yX4_readNumber (.code yX4_readNumber cX4_readNumber 5 (some .int)) 31 520 (fun x => some (.int x)) [.ref 5, .ref 6, .int p1] s (m_X4_readNumber p1 s) := by
  refine sat_of hl (by decide) (Nat.le_of_ble_eq_true rfl) (fun X V A adV hxl hC hE hx hr => ?_) (n_X4_readNumber p1 s)
  subst hxl
  show LX X V A 31 520 (nC s) (nS s) _ 0 [(0, .ref 5), (1, .ref 6), (2, .int p1)] [] s _
  unfold m_X4_readNumber
  refine lx_iconstv (v := 0) hC dX4_readNumber_0 rfl ?_
  refine lx_istore_n hC dX4_readNumber_1 rfl (by decide) ?_
  refine lx_iconstv (v := 0) hC dX4_readNumber_2 rfl ?_
  refine lx_istore hC dX4_readNumber_3 (by decide) ?_
  refine lx_sub [2, 3, 4, 1, 0] rfl ?_
  exact lx_lp (lv := fun a => [(0, .ref 5), (1, .ref 6), (2, .int p1), (3, .int a.1), (4, .int a.2.1)]) (st := fun _ => []) (sg := fun a => a.2.2) (fun kf hq a => l_X4_readNumber_b5 hC hE hl hx hr p1 a.2.2 kf hq a.1 a.2.1) FUEL (0, 0, s)
set_option maxRecDepth 100000 in
set_option maxHeartbeats 2000000 in
theorem n_X4_readBoxName (s : Mem) : Mn s (m_X4_readBoxName s) := by
  unfold m_X4_readBoxName
  refine mn_if ?_ ?_
  · skip
    exact mn_some
  · skip
    refine mn_if ?_ mn_none
    refine mn_bindP (fun v1 => ?_)
    refine mn_if ?_ ?_
    · skip
      refine mn_if ?_ mn_none
      refine mn_vl (fun y2 => ?_)
      refine mn_put (fun s3 => ?_)
      exact mn_some
    · skip
      exact mn_some
set_option maxRecDepth 100000 in
set_option maxHeartbeats 2000000 in
theorem sat_X4_readBoxName (l : Launch) (hl : l.stackTraces = false) (s : Mem) : Sat l yX4_readBoxName (.code yX4_readBoxName cX4_readBoxName 3 (some .int)) 31 520 (fun x => some (.int x)) [.ref 5, .ref 6] s (m_X4_readBoxName s) := by
  refine sat_of hl (by decide) (Nat.le_of_ble_eq_true rfl) (fun X V A adV hxl hC hE hx hr => ?_) (n_X4_readBoxName s)
  subst hxl
  show LX X V A 31 520 (nC s) (nS s) _ 0 [(0, .ref 5), (1, .ref 6)] [] s _
  unfold m_X4_readBoxName
  refine lx_aload_n hC dX4_readBoxName_0 rfl 0 rfl ?_
  refine lx_getI hC ly5 rfl 4 (by decide) rfl inX4 wd202 dX4_readBoxName_1 ?_
  refine lx_aload_n hC dX4_readBoxName_4 rfl 1 rfl ?_
  refine lx_sblen hC hE sb6 wd1187 (by decide) (by decide) (Nat.le_of_ble_eq_true rfl) dX4_readBoxName_5 ?_
  refine lx_icmp_ge hC 25 dX4_readBoxName_8 (by decide) ?_ ?_
  · skip
    refine lx_iconstv (v := (-1)) hC dX4_readBoxName_25 rfl ?_
    exact lx_iret hC rfl hr dX4_readBoxName_26
  · skip
    refine lx_aload_n hC dX4_readBoxName_11 rfl 1 rfl ?_
    refine lx_aload_n hC dX4_readBoxName_12 rfl 0 rfl ?_
    refine lx_getI hC ly5 rfl 4 (by decide) rfl inX4 wd202 dX4_readBoxName_13 ?_
    refine lx_sbch hC hE sb6 wd1188 (by decide) (by decide) (Nat.le_of_ble_eq_true rfl) dX4_readBoxName_16 ?_
    refine lx_callP hC hx (sat_X6_isBoxName (xl X) hl (nI ((gB s 6).2.2 (gI s 5 4).toNatClampNeg)) s) (run_S (as := [.int (nI ((gB s 6).2.2 (gI s 5 4).toNatClampNeg))]) (rest := []) hC hE cw_X6_isBoxName ci_X6_isBoxName wd1220 cs_X6_isBoxName cd_X6_isBoxName (by decide) (by decide) (Nat.le_of_ble_eq_true rfl) dX4_readBoxName_19 rfl) (fun v1 _ => ?_)
    refine lx_if_ne hC 27 dX4_readBoxName_22 (by decide) ?_ ?_
    · skip
      refine lx_aload_n hC dX4_readBoxName_27 rfl 1 rfl ?_
      refine lx_aload_n hC dX4_readBoxName_28 rfl 0 rfl ?_
      refine lx_getI hC ly5 rfl 4 (by decide) rfl inX4 wd202 dX4_readBoxName_29 ?_
      refine lx_sbch hC hE sb6 wd1188 (by decide) (by decide) (Nat.le_of_ble_eq_true rfl) dX4_readBoxName_32 ?_
      refine lx_istore_nN hC dX4_readBoxName_35 rfl (by decide) (fun y2 => ?_)
      refine lx_aload_n hC dX4_readBoxName_36 rfl 1 rfl ?_
      refine lx_dup_ref hC dX4_readBoxName_37 ?_
      refine lx_getI hC ly5 rfl 4 (by decide) rfl inX4 wd202 dX4_readBoxName_38 ?_
      refine lx_iconstv (v := 1) hC dX4_readBoxName_41 rfl ?_
      refine lx_iadd hC dX4_readBoxName_42 ?_
      refine lx_putI hC ly5 rfl 4 (by decide) rfl tyX4 tyX4_ok nmX4 rfl rfl rfl inX4 wd202 dX4_readBoxName_43 (fun s3 => ?_)
      refine lx_iload_n hC dX4_readBoxName_46 rfl 0 rfl ?_
      exact lx_iret hC rfl hr dX4_readBoxName_47
    · skip
      refine lx_iconstv (v := (-1)) hC dX4_readBoxName_25 rfl ?_
      exact lx_iret hC rfl hr dX4_readBoxName_26
set_option maxRecDepth 100000 in
set_option maxHeartbeats 2000000 in
theorem n_X4_readArgument (p1 : Int32) (s : Mem) : Mn s (m_X4_readArgument p1 s) := by
  unfold m_X4_readArgument
  refine mn_if ?_ ?_
  · skip
    refine mn_bind (n_X4_readNumber 1 s) (fun v2 s3 => ?_)
    exact mn_some
  · skip
    refine mn_if ?_ ?_
    · skip
      refine mn_bind (n_X4_readNumber 3 s) (fun v5 s6 => ?_)
      exact mn_some
    · skip
      refine mn_bind (n_X4_readBoxName s) (fun v7 s8 => ?_)
      exact mn_some
set_option maxRecDepth 100000 in
set_option maxHeartbeats 2000000 in
theorem sat_X4_readArgument (l : Launch) (hl : l.stackTraces = false) (p1 : Int32) (s : Mem) : Sat l yX4_readArgument (.code yX4_readArgument cX4_readArgument 3 (some .int)) 32 544 (fun x => some (.int x)) [.ref 5, .ref 6, .int p1] s (m_X4_readArgument p1 s) := by
  refine sat_of hl (by decide) (Nat.le_of_ble_eq_true rfl) (fun X V A adV hxl hC hE hx hr => ?_) (n_X4_readArgument p1 s)
  subst hxl
  show LX X V A 32 544 (nC s) (nS s) _ 0 [(0, .ref 5), (1, .ref 6), (2, .int p1)] [] s _
  unfold m_X4_readArgument
  refine lx_iload_n hC dX4_readArgument_0 rfl 2 rfl ?_
  refine lx_case (fun h1 => ?_) (fun h1 => ?_)
  · refine lx_lsw hC 35 dX4_readArgument_1 (by decide) (by rw [h1]; decide +kernel) (off := 34) (by decide) ?_
    refine lx_aload_n hC dX4_readArgument_35 rfl 0 rfl ?_
    refine lx_aload_n hC dX4_readArgument_36 rfl 1 rfl ?_
    refine lx_iconstv (v := 1) hC dX4_readArgument_37 rfl ?_
    refine lx_callX hC hx (sat_X4_readNumber (xl X) hl 1 s) (run_V (as := [.ref 6, .int 1]) (rest := []) hC hE ly5 rfl cw_X4_readNumber ci_X4_readNumber wd1209 cs_X4_readNumber ce_X4_readNumber cd_X4_readNumber (by decide) (by decide) (Nat.le_of_ble_eq_true rfl) dX4_readArgument_38 rfl) (fun v2 s3 _ => ?_)
    exact lx_iret hC rfl hr dX4_readArgument_41
  · skip
    refine lx_case (fun h4 => ?_) (fun h4 => ?_)
    · refine lx_lsw hC 28 dX4_readArgument_1 (by decide) (by rw [h4]; decide +kernel) (off := 27) (by decide) ?_
      refine lx_aload_n hC dX4_readArgument_28 rfl 0 rfl ?_
      refine lx_aload_n hC dX4_readArgument_29 rfl 1 rfl ?_
      refine lx_iconstv (v := 3) hC dX4_readArgument_30 rfl ?_
      refine lx_callX hC hx (sat_X4_readNumber (xl X) hl 3 s) (run_V (as := [.ref 6, .int 3]) (rest := []) hC hE ly5 rfl cw_X4_readNumber ci_X4_readNumber wd1209 cs_X4_readNumber ce_X4_readNumber cd_X4_readNumber (by decide) (by decide) (Nat.le_of_ble_eq_true rfl) dX4_readArgument_31 rfl) (fun v5 s6 _ => ?_)
      exact lx_iret hC rfl hr dX4_readArgument_34
    · skip
      refine lx_lsw hC 42 dX4_readArgument_1 (by decide) (off := 41) (by rw [lv_osw h1 (by decide)]; rw [lv_osw h4 (by decide)]; rfl) (by decide) ?_
      refine lx_aload_n hC dX4_readArgument_42 rfl 0 rfl ?_
      refine lx_aload_n hC dX4_readArgument_43 rfl 1 rfl ?_
      refine lx_callX hC hx (sat_X4_readBoxName (xl X) hl s) (run_V (as := [.ref 6]) (rest := []) hC hE ly5 rfl cw_X4_readBoxName ci_X4_readBoxName wd1216 cs_X4_readBoxName ce_X4_readBoxName cd_X4_readBoxName (by decide) (by decide) (Nat.le_of_ble_eq_true rfl) dX4_readArgument_44 rfl) (fun v7 s8 _ => ?_)
      exact lx_iret hC rfl hr dX4_readArgument_47
set_option maxRecDepth 100000 in
set_option maxHeartbeats 2000000 in
theorem l_X4_readCommand_j76 {X : Cx} {V : Vx} {A : Nat → Prop} {adV : Nat → Nat} {c0 s0 : Nat} (hC : Cok X V A yX4_readCommand.cls cX4_readCommand 6) (hE : Env0 V adV A (xs X) (xs X).heap) (hl : (xl X).stackTraces = false) (hx : ∀ x ∈ (xc X).exceptionTable.toList, False) (hr : (xh X).sig.returnType = some .boolean) (q7 : Nat) (x9 : Int32) (hq7 : isStr q7) (s : Mem) (kf50 : (Int32 × Mem) → Res Int32) (hk50 : ∀ a, LX X V A 33 566 c0 s0 (FM X V A (fun x => some (.int x))) 50 [(0, .ref 5), (1, .ref 6), (3, .ref q7), (4, .int a.1)] [] a.2 (kf50 a)) : LX X V A 33 566 c0 s0 (FM X V A (fun x => some (.int x))) 76 [(0, .ref 5), (1, .ref 6), (3, .ref q7), (4, .int x9)] [] s (m_X4_readCommand_j76 q7 x9 s kf50 ) := by
  unfold m_X4_readCommand_j76
  refine lx_aload_n hC dX4_readCommand_76 rfl 0 rfl ?_
  refine lx_aload_n hC dX4_readCommand_77 rfl 1 rfl ?_
  refine lx_aload_n hC dX4_readCommand_78 rfl 2 rfl ?_
  refine lx_iload hC dX4_readCommand_79 3 rfl ?_
  refine lx_stch hC hE hq7 wd1189 (by decide) (by decide) (Nat.le_of_ble_eq_true rfl) dX4_readCommand_81 ?_
  refine lx_callX hC hx (sat_X4_readArgument (xl X) hl (nI (strC q7 x9.toNatClampNeg)) s) (run_V (as := [.ref 6, .int (nI (strC q7 x9.toNatClampNeg))]) (rest := []) hC hE ly5 rfl cw_X4_readArgument ci_X4_readArgument wd1205 cs_X4_readArgument ce_X4_readArgument cd_X4_readArgument (by decide) (by decide) (Nat.le_of_ble_eq_true rfl) dX4_readCommand_84 rfl) (fun v10 s11 _ => ?_)
  refine lx_istore hC dX4_readCommand_87 (by decide) ?_
  refine lx_iload hC dX4_readCommand_89 0 rfl ?_
  refine lx_iconstv (v := (-1)) hC dX4_readCommand_91 rfl ?_
  refine lx_icmp_ne hC 97 dX4_readCommand_92 (by decide) ?_ ?_
  · skip
    refine lx_iload hC dX4_readCommand_97 4 rfl ?_
    refine lx_if_ne hC 116 dX4_readCommand_99 (by decide) ?_ ?_
    · skip
      refine lx_aload_n hC dX4_readCommand_116 rfl 1 rfl ?_
      refine lx_getR (q := 197) hC ly5 rfl 2 (by decide) rfl rfl inX4 wd199 dX4_readCommand_117 ?_
      refine lx_aload_n hC dX4_readCommand_120 rfl 1 rfl ?_
      refine lx_getI hC ly5 rfl 3 (by decide) rfl inX4 wd200 dX4_readCommand_121 ?_
      refine lx_iload hC dX4_readCommand_124 0 rfl ?_
      refine lx_iastore hC ly197 dX4_readCommand_126 (fun s12 => ?_)
      refine lx_iincN (v := 1) hC dX4_readCommand_127 4 rfl (by decide) rfl (fun y13 => ?_)
      refine lx_goto hC 50 dX4_readCommand_130 (by decide) ?_
      exact lx_sub [2, 3, 4, 0] rfl (hk50 (y13, s12))
    · skip
      refine lx_aload_n hC dX4_readCommand_102 rfl 1 rfl ?_
      refine lx_getR (q := 133) hC ly5 rfl 1 (by decide) rfl rfl inX4 wd198 dX4_readCommand_103 ?_
      refine lx_aload_n hC dX4_readCommand_106 rfl 1 rfl ?_
      refine lx_getI hC ly5 rfl 3 (by decide) rfl inX4 wd200 dX4_readCommand_107 ?_
      refine lx_iload hC dX4_readCommand_110 0 rfl ?_
      refine lx_iastore hC ly133 dX4_readCommand_112 (fun s14 => ?_)
      refine lx_goto hC 127 dX4_readCommand_113 (by decide) ?_
      refine lx_iincN (v := 1) hC dX4_readCommand_127 4 rfl (by decide) rfl (fun y15 => ?_)
      refine lx_goto hC 50 dX4_readCommand_130 (by decide) ?_
      exact lx_sub [2, 3, 4, 0] rfl (hk50 (y15, s14))
  · skip
    refine lx_iconstv (v := 0) hC dX4_readCommand_95 rfl ?_
    exact lx_zret hC rfl hr rfl dX4_readCommand_96
set_option maxRecDepth 100000 in
set_option maxHeartbeats 2000000 in
theorem n_X4_readCommand_j76 (q7 : Nat) (x9 : Int32) (s : Mem) (kf50 : (Int32 × Mem) → Res Int32) (hm50 : ∀ a, Mn a.2 (kf50 a)) : Mn s (m_X4_readCommand_j76 q7 x9 s kf50 ) := by
  unfold m_X4_readCommand_j76
  refine mn_if ?_ mn_none
  refine mn_bind (n_X4_readArgument (nI (strC q7 x9.toNatClampNeg)) s) (fun v10 s11 => ?_)
  refine mn_if ?_ ?_
  · skip
    refine mn_if ?_ ?_
    · skip
      refine mn_if ?_ mn_none
      refine mn_put (fun s12 => ?_)
      refine mn_vl (fun y13 => ?_)
      exact hm50 (y13, s12)
    · skip
      refine mn_if ?_ mn_none
      refine mn_put (fun s14 => ?_)
      refine mn_vl (fun y15 => ?_)
      exact hm50 (y15, s14)
  · skip
    exact mn_some
set_option maxRecDepth 100000 in
set_option maxHeartbeats 2000000 in
theorem l_X4_readCommand_b50 {X : Cx} {V : Vx} {A : Nat → Prop} {adV : Nat → Nat} {c0 s0 : Nat} (hC : Cok X V A yX4_readCommand.cls cX4_readCommand 6) (hE : Env0 V adV A (xs X) (xs X).heap) (hl : (xl X).stackTraces = false) (hx : ∀ x ∈ (xc X).exceptionTable.toList, False) (hr : (xh X).sig.returnType = some .boolean) (q7 : Nat) (hq7 : isStr q7) (s : Mem) (kf50 : (Int32 × Mem) → Res Int32) (hk50 : ∀ a, LX X V A 33 566 c0 s0 (FM X V A (fun x => some (.int x))) 50 [(0, .ref 5), (1, .ref 6), (3, .ref q7), (4, .int a.1)] [] a.2 (kf50 a)) (w4 : Int32) : LX X V A 33 566 c0 s0 (FM X V A (fun x => some (.int x))) 50 [(0, .ref 5), (1, .ref 6), (3, .ref q7), (4, .int w4)] [] s (m_X4_readCommand_b50 q7 s kf50 w4 ) := by
  unfold m_X4_readCommand_b50
  refine lx_iload hC dX4_readCommand_50 3 rfl ?_
  refine lx_aload_n hC dX4_readCommand_52 rfl 2 rfl ?_
  refine lx_stlen hC hE hq7 wd1186 (by decide) (by decide) (Nat.le_of_ble_eq_true rfl) dX4_readCommand_53 ?_
  refine lx_icmp_ge hC 133 dX4_readCommand_56 (by decide) ?_ ?_
  · skip
    refine lx_aload_n hC dX4_readCommand_133 rfl 0 rfl ?_
    refine lx_dup_ref hC dX4_readCommand_134 ?_
    refine lx_getI hC ly5 rfl 3 (by decide) rfl inX4 wd200 dX4_readCommand_135 ?_
    refine lx_iconstv (v := 1) hC dX4_readCommand_138 rfl ?_
    refine lx_iadd hC dX4_readCommand_139 ?_
    refine lx_putI hC ly5 rfl 3 (by decide) rfl tyX4 tyX4_ok nmX4 rfl rfl rfl inX4 wd200 dX4_readCommand_140 (fun s8 => ?_)
    refine lx_iconstv (v := 1) hC dX4_readCommand_143 rfl ?_
    exact lx_zret hC rfl hr rfl dX4_readCommand_144
  · skip
    refine lx_iload hC dX4_readCommand_59 3 rfl ?_
    refine lx_if_le hC 76 dX4_readCommand_61 (by decide) ?_ ?_
    · skip
      exact lx_sub [0, 1, 2, 3] rfl (l_X4_readCommand_j76 hC hE hl hx hr q7 w4 hq7 s kf50 hk50 )
    · skip
      refine lx_aload_n hC dX4_readCommand_64 rfl 0 rfl ?_
      refine lx_aload_n hC dX4_readCommand_65 rfl 1 rfl ?_
      refine lx_bipush (v := 32) hC dX4_readCommand_66 (by decide) ?_
      refine lx_callX hC hx (sat_X4_readSign (xl X) hl 32 s) (run_V (as := [.ref 6, .int 32]) (rest := []) hC hE ly5 rfl cw_X4_readSign ci_X4_readSign wd1201 cs_X4_readSign ce_X4_readSign cd_X4_readSign (by decide) (by decide) (Nat.le_of_ble_eq_true rfl) dX4_readCommand_68 rfl) (fun v17 s18 _ => ?_)
      refine lx_if_ne hC 76 dX4_readCommand_71 (by decide) ?_ ?_
      · skip
        exact lx_sub [0, 1, 2, 3] rfl (l_X4_readCommand_j76 hC hE hl hx hr q7 w4 hq7 s18 kf50 hk50 )
      · skip
        refine lx_iconstv (v := 0) hC dX4_readCommand_74 rfl ?_
        exact lx_zret hC rfl hr rfl dX4_readCommand_75
set_option maxRecDepth 100000 in
set_option maxHeartbeats 2000000 in
theorem n_X4_readCommand_b50 (q7 : Nat) (s : Mem) (kf50 : (Int32 × Mem) → Res Int32) (hm50 : ∀ a, Mn a.2 (kf50 a)) (w4 : Int32) : Mn s (m_X4_readCommand_b50 q7 s kf50 w4 ) := by
  unfold m_X4_readCommand_b50
  refine mn_if ?_ ?_
  · skip
    refine mn_put (fun s8 => ?_)
    exact mn_some
  · skip
    refine mn_if ?_ ?_
    · skip
      exact n_X4_readCommand_j76 q7 w4 s kf50 hm50 
    · skip
      refine mn_bind (n_X4_readSign 32 s) (fun v17 s18 => ?_)
      refine mn_if ?_ ?_
      · skip
        exact n_X4_readCommand_j76 q7 w4 s18 kf50 hm50 
      · skip
        exact mn_some
set_option maxRecDepth 100000 in
set_option maxHeartbeats 2000000 in
theorem n_X4_readCommand (s : Mem) : Mn s (m_X4_readCommand s) := by
  unfold m_X4_readCommand
  refine mn_bind (n_X4_readKeyword s) (fun v1 s2 => ?_)
  refine mn_if ?_ ?_
  · skip
    exact mn_some
  · skip
    refine mn_if ?_ ?_
    · skip
      refine mn_bindP (fun v3 => ?_)
      refine mn_if ?_ mn_none
      refine mn_if ?_ mn_none
      refine mn_put (fun s5 => ?_)
      refine mn_if ?_ mn_none
      refine mn_put (fun s6 => ?_)
      exact mn_lp (sg := fun a => a.2) (fun kf hq a => n_X4_readCommand_b50 v3 a.2 kf hq a.1) FUEL (0, s6)
    · skip
      exact mn_some
set_option maxRecDepth 100000 in
set_option maxHeartbeats 2000000 in
theorem sat_X4_readCommand (l : Launch) (hl : l.stackTraces = false) (s : Mem) : Sat l yX4_readCommand (.code yX4_readCommand cX4_readCommand 6 (some .boolean)) 33 566 (fun x => some (.int x)) [.ref 5, .ref 6] s (m_X4_readCommand s) := by
  refine sat_of hl (by decide) (Nat.le_of_ble_eq_true rfl) (fun X V A adV hxl hC hE hx hr => ?_) (n_X4_readCommand s)
  subst hxl
  show LX X V A 33 566 (nC s) (nS s) _ 0 [(0, .ref 5), (1, .ref 6)] [] s _
  unfold m_X4_readCommand
  refine lx_aload_n hC dX4_readCommand_0 rfl 0 rfl ?_
  refine lx_aload_n hC dX4_readCommand_1 rfl 1 rfl ?_
  refine lx_callX hC hx (sat_X4_readKeyword (xl X) hl s) (run_V (as := [.ref 6]) (rest := []) hC hE ly5 rfl cw_X4_readKeyword ci_X4_readKeyword wd1163 cs_X4_readKeyword ce_X4_readKeyword cd_X4_readKeyword (by decide) (by decide) (Nat.le_of_ble_eq_true rfl) dX4_readCommand_2 rfl) (fun v1 s2 _ => ?_)
  refine lx_istore_n hC dX4_readCommand_5 rfl (by decide) ?_
  refine lx_iload_n hC dX4_readCommand_6 rfl 0 rfl ?_
  refine lx_iconstv (v := (-1)) hC dX4_readCommand_7 rfl ?_
  refine lx_icmp_eq hC 20 dX4_readCommand_8 (by decide) ?_ ?_
  · skip
    refine lx_iconstv (v := 0) hC dX4_readCommand_20 rfl ?_
    exact lx_zret hC rfl hr rfl dX4_readCommand_21
  · skip
    refine lx_aload_n hC dX4_readCommand_11 rfl 1 rfl ?_
    refine lx_getI hC ly5 rfl 3 (by decide) rfl inX4 wd200 dX4_readCommand_12 ?_
    refine lx_bipush (v := 10) hC dX4_readCommand_15 (by decide) ?_
    refine lx_icmp_lt hC 22 dX4_readCommand_17 (by decide) ?_ ?_
    · skip
      refine lx_iload_n hC dX4_readCommand_22 rfl 0 rfl ?_
      refine lx_callP hC hx (sat_X4_argumentForms (xl X) hl v1 s2) (run_S (as := [.int v1]) (rest := []) hC hE cw_X4_argumentForms ci_X4_argumentForms wd1191 cs_X4_argumentForms cd_X4_argumentForms (by decide) (by decide) (Nat.le_of_ble_eq_true rfl) dX4_readCommand_23 rfl) (fun v3 _ => ?_)
      refine lx_if fun h4 => ?_
      refine lx_astore_n hC dX4_readCommand_26 rfl (by decide) ?_
      refine lx_aload_n hC dX4_readCommand_27 rfl 2 rfl ?_
      refine lx_getR (q := 69) hC ly5 rfl 0 (by decide) rfl rfl inX4 wd197 dX4_readCommand_28 ?_
      refine lx_aload_n hC dX4_readCommand_31 rfl 2 rfl ?_
      refine lx_getI hC ly5 rfl 3 (by decide) rfl inX4 wd200 dX4_readCommand_32 ?_
      refine lx_iload_n hC dX4_readCommand_35 rfl 1 rfl ?_
      refine lx_iastore hC ly69 dX4_readCommand_36 (fun s5 => ?_)
      refine lx_aload_n hC dX4_readCommand_37 rfl 2 rfl ?_
      refine lx_getR (q := 197) hC ly5 rfl 2 (by decide) rfl rfl inX4 wd199 dX4_readCommand_38 ?_
      refine lx_aload_n hC dX4_readCommand_41 rfl 2 rfl ?_
      refine lx_getI hC ly5 rfl 3 (by decide) rfl inX4 wd200 dX4_readCommand_42 ?_
      refine lx_iconstv (v := 0) hC dX4_readCommand_45 rfl ?_
      refine lx_iastore hC ly197 dX4_readCommand_46 (fun s6 => ?_)
      refine lx_iconstv (v := 0) hC dX4_readCommand_47 rfl ?_
      refine lx_istore hC dX4_readCommand_48 (by decide) ?_
      refine lx_sub [3, 4, 1, 0] rfl ?_
      exact lx_lp (lv := fun a => [(0, .ref 5), (1, .ref 6), (3, .ref v3), (4, .int a.1)]) (st := fun _ => []) (sg := fun a => a.2) (fun kf hq a => l_X4_readCommand_b50 hC hE hl hx hr v3 h4 a.2 kf hq a.1) FUEL (0, s6)
    · skip
      refine lx_iconstv (v := 0) hC dX4_readCommand_20 rfl ?_
      exact lx_zret hC rfl hr rfl dX4_readCommand_21
set_option maxRecDepth 100000 in
set_option maxHeartbeats 2000000 in
theorem l_X4_parse_j69 {X : Cx} {V : Vx} {A : Nat → Prop} {adV : Nat → Nat} {c0 s0 : Nat} (hC : Cok X V A yX4_parse.cls cX4_parse 4) (hE : Env0 V adV A (xs X) (xs X).heap) (hl : (xl X).stackTraces = false) (hx : ∀ x ∈ (xc X).exceptionTable.toList, False) (hr : (xh X).sig.returnType = some .int) (x5 : Int32) (s : Mem) : LX X V A 34 591 c0 s0 (FM X V A (fun x => some (.int x))) 69 [(0, .ref 5), (2, .int x5)] [] s (m_X4_parse_j69 x5 s ) := by
  unfold m_X4_parse_j69
  refine lx_iload_n hC dX4_parse_69 rfl 1 rfl ?_
  refine lx_if_eq hC 77 dX4_parse_70 (by decide) ?_ ?_
  · skip
    refine lx_aload_n hC dX4_parse_77 rfl 0 rfl ?_
    refine lx_getI hC ly5 rfl 4 (by decide) rfl inX4 wd202 dX4_parse_78 ?_
    exact lx_iret hC rfl hr dX4_parse_81
  · skip
    refine lx_iconstv (v := (-1)) hC dX4_parse_73 rfl ?_
    refine lx_goto hC 81 dX4_parse_74 (by decide) ?_
    exact lx_iret hC rfl hr dX4_parse_81
set_option maxRecDepth 100000 in
set_option maxHeartbeats 2000000 in
theorem n_X4_parse_j69 (x5 : Int32) (s : Mem) : Mn s (m_X4_parse_j69 x5 s ) := by
  unfold m_X4_parse_j69
  refine mn_if ?_ ?_
  · skip
    exact mn_some
  · skip
    exact mn_some
set_option maxRecDepth 100000 in
set_option maxHeartbeats 2000000 in
theorem l_X4_parse_b18 {X : Cx} {V : Vx} {A : Nat → Prop} {adV : Nat → Nat} {c0 s0 : Nat} (hC : Cok X V A yX4_parse.cls cX4_parse 4) (hE : Env0 V adV A (xs X) (xs X).heap) (hl : (xl X).stackTraces = false) (hx : ∀ x ∈ (xc X).exceptionTable.toList, False) (hr : (xh X).sig.returnType = some .int) (s : Mem) (kf18 : (Int32 × Int32 × Mem) → Res Int32) (hk18 : ∀ a, LX X V A 34 591 c0 s0 (FM X V A (fun x => some (.int x))) 18 [(0, .ref 5), (1, .ref 6), (2, .int a.1), (3, .int a.2.1)] [] a.2.2 (kf18 a)) (w2 : Int32) (w3 : Int32) : LX X V A 34 591 c0 s0 (FM X V A (fun x => some (.int x))) 18 [(0, .ref 5), (1, .ref 6), (2, .int w2), (3, .int w3)] [] s (m_X4_parse_b18 s kf18 w2 w3 ) := by
  unfold m_X4_parse_b18
  refine lx_iload_n hC dX4_parse_18 rfl 3 rfl ?_
  refine lx_bipush (v := 60) hC dX4_parse_19 (by decide) ?_
  refine lx_icmp_ge hC 69 dX4_parse_21 (by decide) ?_ ?_
  · skip
    exact lx_sub [0, 2] rfl (l_X4_parse_j69 hC hE hl hx hr w2 s )
  · skip
    refine lx_iload_n hC dX4_parse_24 rfl 2 rfl ?_
    refine lx_if_eq hC 69 dX4_parse_25 (by decide) ?_ ?_
    · skip
      exact lx_sub [0, 2] rfl (l_X4_parse_j69 hC hE hl hx hr w2 s )
    · skip
      refine lx_aload_n hC dX4_parse_28 rfl 0 rfl ?_
      refine lx_getI hC ly5 rfl 4 (by decide) rfl inX4 wd202 dX4_parse_29 ?_
      refine lx_aload_n hC dX4_parse_32 rfl 1 rfl ?_
      refine lx_sblen hC hE sb6 wd1187 (by decide) (by decide) (Nat.le_of_ble_eq_true rfl) dX4_parse_33 ?_
      refine lx_icmp_ge hC 69 dX4_parse_36 (by decide) ?_ ?_
      · skip
        exact lx_sub [0, 2] rfl (l_X4_parse_j69 hC hE hl hx hr w2 s )
      · skip
        refine lx_aload_n hC dX4_parse_39 rfl 0 rfl ?_
        refine lx_aload_n hC dX4_parse_40 rfl 1 rfl ?_
        refine lx_bipush (v := 59) hC dX4_parse_41 (by decide) ?_
        refine lx_callX hC hx (sat_X4_readSign (xl X) hl 59 s) (run_V (as := [.ref 6, .int 59]) (rest := []) hC hE ly5 rfl cw_X4_readSign ci_X4_readSign wd1201 cs_X4_readSign ce_X4_readSign cd_X4_readSign (by decide) (by decide) (Nat.le_of_ble_eq_true rfl) dX4_parse_43 rfl) (fun v9 s10 _ => ?_)
        refine lx_if_eq hC 61 dX4_parse_46 (by decide) ?_ ?_
        · skip
          refine lx_iconstv (v := 0) hC dX4_parse_61 rfl ?_
          refine lx_istore_n hC dX4_parse_62 rfl (by decide) ?_
          refine lx_iincN (v := 1) hC dX4_parse_63 3 rfl (by decide) rfl (fun y11 => ?_)
          refine lx_goto hC 18 dX4_parse_66 (by decide) ?_
          exact lx_sub [2, 3, 1, 0] rfl (hk18 (0, y11, s10))
        · skip
          refine lx_aload_n hC dX4_parse_49 rfl 0 rfl ?_
          refine lx_aload_n hC dX4_parse_50 rfl 1 rfl ?_
          refine lx_callX hC hx (sat_X4_readCommand (xl X) hl s10) (run_V (as := [.ref 6]) (rest := []) hC hE ly5 rfl cw_X4_readCommand ci_X4_readCommand wd1159 cs_X4_readCommand ce_X4_readCommand cd_X4_readCommand (by decide) (by decide) (Nat.le_of_ble_eq_true rfl) dX4_parse_51 rfl) (fun v12 s13 _ => ?_)
          refine lx_if_eq hC 61 dX4_parse_54 (by decide) ?_ ?_
          · skip
            refine lx_iconstv (v := 0) hC dX4_parse_61 rfl ?_
            refine lx_istore_n hC dX4_parse_62 rfl (by decide) ?_
            refine lx_iincN (v := 1) hC dX4_parse_63 3 rfl (by decide) rfl (fun y14 => ?_)
            refine lx_goto hC 18 dX4_parse_66 (by decide) ?_
            exact lx_sub [2, 3, 1, 0] rfl (hk18 (0, y14, s13))
          · skip
            refine lx_iconstv (v := 1) hC dX4_parse_57 rfl ?_
            refine lx_goto hC 62 dX4_parse_58 (by decide) ?_
            refine lx_istore_n hC dX4_parse_62 rfl (by decide) ?_
            refine lx_iincN (v := 1) hC dX4_parse_63 3 rfl (by decide) rfl (fun y15 => ?_)
            refine lx_goto hC 18 dX4_parse_66 (by decide) ?_
            exact lx_sub [2, 3, 1, 0] rfl (hk18 (1, y15, s13))
set_option maxRecDepth 100000 in
set_option maxHeartbeats 2000000 in
theorem n_X4_parse_b18 (s : Mem) (kf18 : (Int32 × Int32 × Mem) → Res Int32) (hm18 : ∀ a, Mn a.2.2 (kf18 a)) (w2 : Int32) (w3 : Int32) : Mn s (m_X4_parse_b18 s kf18 w2 w3 ) := by
  unfold m_X4_parse_b18
  refine mn_if ?_ ?_
  · skip
    exact n_X4_parse_j69 w2 s 
  · skip
    refine mn_if ?_ ?_
    · skip
      exact n_X4_parse_j69 w2 s 
    · skip
      refine mn_if ?_ ?_
      · skip
        exact n_X4_parse_j69 w2 s 
      · skip
        refine mn_bind (n_X4_readSign 59 s) (fun v9 s10 => ?_)
        refine mn_if ?_ ?_
        · skip
          refine mn_vl (fun y11 => ?_)
          exact hm18 (0, y11, s10)
        · skip
          refine mn_bind (n_X4_readCommand s10) (fun v12 s13 => ?_)
          refine mn_if ?_ ?_
          · skip
            refine mn_vl (fun y14 => ?_)
            exact hm18 (0, y14, s13)
          · skip
            refine mn_vl (fun y15 => ?_)
            exact hm18 (1, y15, s13)
set_option maxRecDepth 100000 in
set_option maxHeartbeats 2000000 in
theorem n_X4_parse (s : Mem) : Mn s (m_X4_parse s) := by
  unfold m_X4_parse
  refine mn_put (fun s1 => ?_)
  refine mn_put (fun s2 => ?_)
  refine mn_bind (n_X4_readCommand s2) (fun v3 s4 => ?_)
  exact mn_lp (sg := fun a => a.2.2) (fun kf hq a => n_X4_parse_b18 a.2.2 kf hq a.1 a.2.1) FUEL (v3, 0, s4)
set_option maxRecDepth 100000 in
set_option maxHeartbeats 2000000 in
theorem sat_X4_parse (l : Launch) (hl : l.stackTraces = false) (s : Mem) : Sat l yX4_parse (.code yX4_parse cX4_parse 4 (some .int)) 34 591 (fun x => some (.int x)) [.ref 5, .ref 6] s (m_X4_parse s) := by
  refine sat_of hl (by decide) (Nat.le_of_ble_eq_true rfl) (fun X V A adV hxl hC hE hx hr => ?_) (n_X4_parse s)
  subst hxl
  show LX X V A 34 591 (nC s) (nS s) _ 0 [(0, .ref 5), (1, .ref 6)] [] s _
  unfold m_X4_parse
  refine lx_aload_n hC dX4_parse_0 rfl 0 rfl ?_
  refine lx_iconstv (v := 0) hC dX4_parse_1 rfl ?_
  refine lx_putI hC ly5 rfl 3 (by decide) rfl tyX4 tyX4_ok nmX4 rfl rfl rfl inX4 wd200 dX4_parse_2 (fun s1 => ?_)
  refine lx_aload_n hC dX4_parse_5 rfl 0 rfl ?_
  refine lx_iconstv (v := 0) hC dX4_parse_6 rfl ?_
  refine lx_putI hC ly5 rfl 4 (by decide) rfl tyX4 tyX4_ok nmX4 rfl rfl rfl inX4 wd202 dX4_parse_7 (fun s2 => ?_)
  refine lx_aload_n hC dX4_parse_10 rfl 0 rfl ?_
  refine lx_aload_n hC dX4_parse_11 rfl 1 rfl ?_
  refine lx_callX hC hx (sat_X4_readCommand (xl X) hl s2) (run_V (as := [.ref 6]) (rest := []) hC hE ly5 rfl cw_X4_readCommand ci_X4_readCommand wd1159 cs_X4_readCommand ce_X4_readCommand cd_X4_readCommand (by decide) (by decide) (Nat.le_of_ble_eq_true rfl) dX4_parse_12 rfl) (fun v3 s4 _ => ?_)
  refine lx_istore_n hC dX4_parse_15 rfl (by decide) ?_
  refine lx_iconstv (v := 0) hC dX4_parse_16 rfl ?_
  refine lx_istore_n hC dX4_parse_17 rfl (by decide) ?_
  refine lx_sub [2, 3, 1, 0] rfl ?_
  exact lx_lp (lv := fun a => [(0, .ref 5), (1, .ref 6), (2, .int a.1), (3, .int a.2.1)]) (st := fun _ => []) (sg := fun a => a.2.2) (fun kf hq a => l_X4_parse_b18 hC hE hl hx hr a.2.2 kf hq a.1 a.2.1) FUEL (v3, 0, s4)
set_option maxRecDepth 100000 in
set_option maxHeartbeats 2000000 in
theorem l_X4_carryOut_b2 {X : Cx} {V : Vx} {A : Nat → Prop} {adV : Nat → Nat} {c0 s0 : Nat} (hC : Cok X V A yX4_carryOut.cls cX4_carryOut 6) (hE : Env0 V adV A (xs X) (xs X).heap) (hl : (xl X).stackTraces = false) (hx : ∀ x ∈ (xc X).exceptionTable.toList, False) (hr : (xh X).sig.returnType = some .int) (q1 : Nat) (hq1 : isTh q1) (s : Mem) (kf2 : (Int32 × Mem) → Res Int32) (hk2 : ∀ a, LX X V A 35 614 c0 s0 (FM X V A (fun x => some (.int x))) 2 [(0, .ref 5), (1, .ref q1), (2, .int a.1)] [] a.2 (kf2 a)) (w2 : Int32) : LX X V A 35 614 c0 s0 (FM X V A (fun x => some (.int x))) 2 [(0, .ref 5), (1, .ref q1), (2, .int w2)] [] s (m_X4_carryOut_b2 q1 s kf2 w2 ) := by
  unfold m_X4_carryOut_b2
  refine lx_iload_n hC dX4_carryOut_2 rfl 2 rfl ?_
  refine lx_aload_n hC dX4_carryOut_3 rfl 0 rfl ?_
  refine lx_getI hC ly5 rfl 3 (by decide) rfl inX4 wd200 dX4_carryOut_4 ?_
  refine lx_icmp_ge hC 63 dX4_carryOut_7 (by decide) ?_ ?_
  · skip
    refine lx_iconstv (v := (-1)) hC dX4_carryOut_63 rfl ?_
    exact lx_iret hC rfl hr dX4_carryOut_64
  · skip
    refine lx_aload_n hC dX4_carryOut_10 rfl 0 rfl ?_
    refine lx_getR (q := 69) hC ly5 rfl 0 (by decide) rfl rfl inX4 wd197 dX4_carryOut_11 ?_
    refine lx_iload_n hC dX4_carryOut_14 rfl 2 rfl ?_
    refine lx_iaload hC ly69 dX4_carryOut_15 ?_
    refine lx_istore_nN hC dX4_carryOut_16 rfl (by decide) (fun y2 => ?_)
    refine lx_aload_n hC dX4_carryOut_17 rfl 1 rfl ?_
    refine lx_getR (q := 133) hC ly5 rfl 1 (by decide) rfl rfl inX4 wd198 dX4_carryOut_18 ?_
    refine lx_iload_n hC dX4_carryOut_21 rfl 3 rfl ?_
    refine lx_iaload hC ly133 dX4_carryOut_22 ?_
    refine lx_istoreN hC dX4_carryOut_23 (by decide) (fun y3 => ?_)
    refine lx_aload_n hC dX4_carryOut_25 rfl 2 rfl ?_
    refine lx_getR (q := 197) hC ly5 rfl 2 (by decide) rfl rfl inX4 wd199 dX4_carryOut_26 ?_
    refine lx_iload_n hC dX4_carryOut_29 rfl 4 rfl ?_
    refine lx_iaload hC ly197 dX4_carryOut_30 ?_
    refine lx_istoreN hC dX4_carryOut_31 (by decide) (fun y4 => ?_)
    refine lx_aload_n hC dX4_carryOut_33 rfl 4 rfl ?_
    refine lx_iload_n hC dX4_carryOut_34 rfl 2 rfl ?_
    refine lx_iload hC dX4_carryOut_35 1 rfl ?_
    refine lx_iload hC dX4_carryOut_37 0 rfl ?_
    refine lx_callP hC hx (sat_X5_refusal (xl X) hl q1 y2 y3 y4 hq1 s) (run_S (as := [.ref q1, .int y2, .int y3, .int y4]) (rest := []) hC hE cw_X5_refusal ci_X5_refusal wd1226 cs_X5_refusal cd_X5_refusal (by decide) (by decide) (Nat.le_of_ble_eq_true rfl) dX4_carryOut_39 rfl) (fun v5 _ => ?_)
    refine lx_if_eq hC 47 dX4_carryOut_42 (by decide) ?_ ?_
    · skip
      refine lx_aload_n hC dX4_carryOut_47 rfl 4 rfl ?_
      refine lx_iload_n hC dX4_carryOut_48 rfl 2 rfl ?_
      refine lx_iload hC dX4_carryOut_49 1 rfl ?_
      refine lx_iload hC dX4_carryOut_51 0 rfl ?_
      refine lx_callX hC hx (sat_X0_carryOut (xl X) hl q1 y2 y3 y4 hq1 s) (run_S (as := [.ref q1, .int y2, .int y3, .int y4]) (rest := []) hC hE cw_X0_carryOut ci_X0_carryOut wd1227 cs_X0_carryOut cd_X0_carryOut (by decide) (by decide) (Nat.le_of_ble_eq_true rfl) dX4_carryOut_53 rfl) (fun v6 s7 _ => ?_)
      refine lx_pop_int hC dX4_carryOut_56 ?_
      refine lx_iincN (v := 1) hC dX4_carryOut_57 5 rfl (by decide) rfl (fun y8 => ?_)
      refine lx_goto hC 2 dX4_carryOut_60 (by decide) ?_
      exact lx_sub [4, 5, 0] rfl (hk2 (y8, s7))
    · skip
      refine lx_iload_n hC dX4_carryOut_45 rfl 5 rfl ?_
      exact lx_iret hC rfl hr dX4_carryOut_46
set_option maxRecDepth 100000 in
set_option maxHeartbeats 2000000 in
theorem n_X4_carryOut_b2 (q1 : Nat) (s : Mem) (kf2 : (Int32 × Mem) → Res Int32) (hm2 : ∀ a, Mn a.2 (kf2 a)) (w2 : Int32) : Mn s (m_X4_carryOut_b2 q1 s kf2 w2 ) := by
  unfold m_X4_carryOut_b2
  refine mn_if ?_ ?_
  · skip
    exact mn_some
  · skip
    refine mn_if ?_ mn_none
    refine mn_vl (fun y2 => ?_)
    refine mn_if ?_ mn_none
    refine mn_vl (fun y3 => ?_)
    refine mn_if ?_ mn_none
    refine mn_vl (fun y4 => ?_)
    refine mn_bindP (fun v5 => ?_)
    refine mn_if ?_ ?_
    · skip
      refine mn_bind (n_X0_carryOut q1 y2 y3 y4 s) (fun v6 s7 => ?_)
      refine mn_vl (fun y8 => ?_)
      exact hm2 (y8, s7)
    · skip
      exact mn_some
set_option maxRecDepth 100000 in
set_option maxHeartbeats 2000000 in
theorem n_X4_carryOut (p0 : Nat) (s : Mem) : Mn s (m_X4_carryOut p0 s) := by
  unfold m_X4_carryOut
  exact mn_lp (sg := fun a => a.2) (fun kf hq a => n_X4_carryOut_b2 p0 a.2 kf hq a.1) FUEL (0, s)
set_option maxRecDepth 100000 in
set_option maxHeartbeats 2000000 in
theorem sat_X4_carryOut (l : Launch) (hl : l.stackTraces = false) (p0 : Nat) (hp0 : isTh p0) (s : Mem) : Sat l yX4_carryOut (.code yX4_carryOut cX4_carryOut 6 (some .int)) 35 614 (fun x => some (.int x)) [.ref 5, .ref p0] s (m_X4_carryOut p0 s) := by
  refine sat_of hl (by decide) (Nat.le_of_ble_eq_true rfl) (fun X V A adV hxl hC hE hx hr => ?_) (n_X4_carryOut p0 s)
  subst hxl
  show LX X V A 35 614 (nC s) (nS s) _ 0 [(0, .ref 5), (1, .ref p0)] [] s _
  unfold m_X4_carryOut
  refine lx_iconstv (v := 0) hC dX4_carryOut_0 rfl ?_
  refine lx_istore_n hC dX4_carryOut_1 rfl (by decide) ?_
  refine lx_sub [1, 2, 0] rfl ?_
  exact lx_lp (lv := fun a => [(0, .ref 5), (1, .ref p0), (2, .int a.1)]) (st := fun _ => []) (sg := fun a => a.2) (fun kf hq a => l_X4_carryOut_b2 hC hE hl hx hr p0 hp0 a.2 kf hq a.1) FUEL (0, s)
set_option maxRecDepth 100000 in
set_option maxHeartbeats 2000000 in
theorem n_X7_run (s : Mem) : Mn s (m_X7_run s) := by
  unfold m_X7_run
  refine mn_bind (n_X4_parse s) (fun v1 s2 => ?_)
  refine mn_put (fun s3 => ?_)
  refine mn_if ?_ ?_
  · skip
    refine mn_bind (n_X3_draft s3) (fun v4 s5 => ?_)
    refine mn_if ?_ mn_none
    refine mn_bind (n_X4_carryOut v4 s5) (fun v7 s8 => ?_)
    refine mn_if ?_ ?_
    · skip
      refine mn_bind (n_X3_keepDraft s8) (fun v9 s10 => ?_)
      exact mn_some
    · skip
      refine mn_put (fun s11 => ?_)
      exact mn_thr
  · skip
    refine mn_put (fun s12 => ?_)
    exact mn_thr
set_option maxRecDepth 100000 in
set_option maxHeartbeats 2000000 in
theorem sat_X7_run (l : Launch) (hl : l.stackTraces = false) (s : Mem) : Sat l yX7_run (.code yX7_run cX7_run 3 (some .int)) 36 639 (fun x => some (.int x)) [.ref 0] s (m_X7_run s) := by
  refine sat_of hl (by decide) (Nat.le_of_ble_eq_true rfl) (fun X V A adV hxl hC hE hx hr => ?_) (n_X7_run s)
  subst hxl
  show LX X V A 36 639 (nC s) (nS s) _ 0 [(0, .ref 0)] [] s _
  unfold m_X7_run
  refine lx_aload_n hC dX7_run_0 rfl 0 rfl ?_
  refine lx_getR (q := 5) hC ly0 rfl 4 (by decide) rfl rfl inX7 wd251 dX7_run_1 ?_
  refine lx_aload_n hC dX7_run_4 rfl 0 rfl ?_
  refine lx_getR (q := 6) hC ly0 rfl 5 (by decide) rfl rfl inX7 wd252 dX7_run_5 ?_
  refine lx_callX hC hx (sat_X4_parse (xl X) hl s) (run_V (as := [.ref 6]) (rest := []) hC hE ly5 rfl cw_X4_parse ci_X4_parse wd1155 cs_X4_parse ce_X4_parse cd_X4_parse (by decide) (by decide) (Nat.le_of_ble_eq_true rfl) dX7_run_8 rfl) (fun v1 s2 _ => ?_)
  refine lx_istore_n hC dX7_run_11 rfl (by decide) ?_
  refine lx_aload_n hC dX7_run_12 rfl 1 rfl ?_
  refine lx_getR (q := 6) hC ly0 rfl 5 (by decide) rfl rfl inX7 wd252 dX7_run_13 ?_
  refine lx_iconstv (v := 0) hC dX7_run_16 rfl ?_
  refine lx_sbZ hC hE sb6 wd686 (by decide) (by decide) (Nat.le_of_ble_eq_true rfl) dX7_run_17 (fun s3 => ?_)
  refine lx_iload_n hC dX7_run_20 rfl 0 rfl ?_
  refine lx_iconstv (v := (-1)) hC dX7_run_21 rfl ?_
  refine lx_icmp_eq hC 41 dX7_run_22 (by decide) ?_ ?_
  · skip
    refine lx_aload_n hC dX7_run_41 rfl 1 rfl ?_
    refine lx_getR (q := 5) hC ly0 rfl 4 (by decide) rfl rfl inX7 wd251 dX7_run_42 ?_
    refine lx_aload_n hC dX7_run_45 rfl 1 rfl ?_
    refine lx_getR (q := 1) hC ly0 rfl 0 (by decide) rfl rfl inX7 wd247 dX7_run_46 ?_
    refine lx_callX hC hx (sat_X3_draft (xl X) hl s3) (run_V (as := []) (rest := [.ref 5]) hC hE ly1 rfl cw_X3_draft ci_X3_draft wd315 cs_X3_draft ce_X3_draft cd_X3_draft (by decide) (by decide) (Nat.le_of_ble_eq_true rfl) dX7_run_49 rfl) (fun v4 s5 _ => ?_)
    refine lx_if fun h6 => ?_
    refine lx_callX hC hx (sat_X4_carryOut (xl X) hl v4 h6 s5) (run_V (as := [.ref v4]) (rest := []) hC hE ly5 rfl cw_X4_carryOut ci_X4_carryOut wd1222 cs_X4_carryOut ce_X4_carryOut cd_X4_carryOut (by decide) (by decide) (Nat.le_of_ble_eq_true rfl) dX7_run_52 rfl) (fun v7 s8 _ => ?_)
    refine lx_istore_n hC dX7_run_55 rfl (by decide) ?_
    refine lx_iload_n hC dX7_run_56 rfl 0 rfl ?_
    refine lx_iconstv (v := (-1)) hC dX7_run_57 rfl ?_
    refine lx_icmp_eq hC 77 dX7_run_58 (by decide) ?_ ?_
    · skip
      refine lx_aload_n hC dX7_run_77 rfl 2 rfl ?_
      refine lx_getR (q := 1) hC ly0 rfl 0 (by decide) rfl rfl inX7 wd247 dX7_run_78 ?_
      refine lx_callX hC hx (sat_X3_keepDraft (xl X) hl s8) (run_V (as := []) (rest := []) hC hE ly1 rfl cw_X3_keepDraft ci_X3_keepDraft wd572 cs_X3_keepDraft ce_X3_keepDraft cd_X3_keepDraft (by decide) (by decide) (Nat.le_of_ble_eq_true rfl) dX7_run_81 rfl) (fun v9 s10 _ => ?_)
      refine lx_aload_n hC dX7_run_84 rfl 2 rfl ?_
      refine lx_getR (q := 5) hC ly0 rfl 4 (by decide) rfl rfl inX7 wd251 dX7_run_85 ?_
      refine lx_getI hC ly5 rfl 3 (by decide) rfl inX4 wd201 dX7_run_88 ?_
      exact lx_iret hC rfl hr dX7_run_91
    · skip
      refine lx_aload_n hC dX7_run_61 rfl 2 rfl ?_
      refine lx_iload_n hC dX7_run_62 rfl 0 rfl ?_
      refine lx_putI hC ly0 rfl 9 (by decide) rfl tyX7 tyX7_ok nmX7 rfl rfl rfl inX7 wd256 dX7_run_63 (fun s11 => ?_)
      exact lx_throwW hC hE hl hx (i := 41) (text := "a command of the program failed") rfl wd495 wd38 rfl thg_X7_IllegalStateException_112 thn_X7_IllegalStateException_112 tho_X7_IllegalStateException_112 dX7_run_66 dX7_run_69 dX7_run_70 dX7_run_73 dX7_run_76 (by decide) (Nat.le_of_ble_eq_true rfl)
  · skip
    refine lx_aload_n hC dX7_run_25 rfl 1 rfl ?_
    refine lx_iload_n hC dX7_run_26 rfl 0 rfl ?_
    refine lx_putI hC ly0 rfl 8 (by decide) rfl tyX7 tyX7_ok nmX7 rfl rfl rfl inX7 wd255 dX7_run_27 (fun s12 => ?_)
    exact lx_throwW hC hE hl hx (i := 40) (text := "the program is malformed") rfl wd479 wd37 rfl thg_X7_IllegalArgumentException_107 thn_X7_IllegalArgumentException_107 tho_X7_IllegalArgumentException_107 dX7_run_30 dX7_run_33 dX7_run_34 dX7_run_37 dX7_run_40 (by decide) (Nat.le_of_ble_eq_true rfl)
set_option maxRecDepth 100000 in
set_option maxHeartbeats 2000000 in
theorem sat_X7_undoableCount (l : Launch) (hl : l.stackTraces = false) (s : Mem) : Sat l yX7_undoableCount (.code yX7_undoableCount cX7_undoableCount 1 (some .int)) 30 500 (fun x => some (.int x)) [.ref 0] s (pur s (m_X7_undoableCount s)) := by
  refine sat_of hl (by decide) (Nat.le_of_ble_eq_true rfl) (fun X V A adV hxl hC hE hx hr => ?_) pur_mono
  subst hxl
  show LX X V A 30 500 (nC s) (nS s) _ 0 [(0, .ref 0)] [] s _
  unfold m_X7_undoableCount
  refine lx_aload_n hC dX7_undoableCount_0 rfl 0 rfl ?_
  refine lx_getR (q := 1) hC ly0 rfl 0 (by decide) rfl rfl inX7 wd247 dX7_undoableCount_1 ?_
  refine lx_getI hC ly1 rfl 2 (by decide) rfl inX3 wd159 dX7_undoableCount_4 ?_
  exact lx_iret hC rfl hr dX7_undoableCount_7
set_option maxRecDepth 100000 in
set_option maxHeartbeats 2000000 in
theorem l_X3_stepBack_j19 {X : Cx} {V : Vx} {A : Nat → Prop} {adV : Nat → Nat} {c0 s0 : Nat} (hC : Cok X V A yX3_stepBack.cls cX3_stepBack 1) (hE : Env0 V adV A (xs X) (xs X).heap) (hl : (xl X).stackTraces = false) (hx : ∀ x ∈ (xc X).exceptionTable.toList, False) (hr : (xh X).sig.returnType = none) (x1 : Int32) (s : Mem) : LX X V A 30 500 c0 s0 (FM X V A (fun _ => none)) 19 [(0, .ref 1)] [.int x1, .ref 1] s (m_X3_stepBack_j19 x1 s ) := by
  unfold m_X3_stepBack_j19
  refine lx_putI hC ly1 rfl 1 (by decide) rfl tyX3 tyX3_ok nmX3 rfl rfl rfl inX3 wd157 dX3_stepBack_19 (fun s2 => ?_)
  refine lx_aload_n hC dX3_stepBack_22 rfl 0 rfl ?_
  refine lx_dup_ref hC dX3_stepBack_23 ?_
  refine lx_getI hC ly1 rfl 2 (by decide) rfl inX3 wd158 dX3_stepBack_24 ?_
  refine lx_iconstv (v := 1) hC dX3_stepBack_27 rfl ?_
  refine lx_isub hC dX3_stepBack_28 ?_
  refine lx_putI hC ly1 rfl 2 (by decide) rfl tyX3 tyX3_ok nmX3 rfl rfl rfl inX3 wd158 dX3_stepBack_29 (fun s3 => ?_)
  exact lx_vret hC rfl hr dX3_stepBack_32
set_option maxRecDepth 100000 in
set_option maxHeartbeats 2000000 in
theorem n_X3_stepBack_j19 (x1 : Int32) (s : Mem) : Mn s (m_X3_stepBack_j19 x1 s ) := by
  unfold m_X3_stepBack_j19
  refine mn_put (fun s2 => ?_)
  refine mn_put (fun s3 => ?_)
  exact mn_some
set_option maxRecDepth 100000 in
set_option maxHeartbeats 2000000 in
theorem n_X3_stepBack (s : Mem) : Mn s (m_X3_stepBack s) := by
  unfold m_X3_stepBack
  refine mn_if ?_ ?_
  · skip
    exact n_X3_stepBack_j19 ((gI s 1 1) - 1) s 
  · skip
    exact n_X3_stepBack_j19 9 s 
set_option maxRecDepth 100000 in
set_option maxHeartbeats 2000000 in
theorem sat_X3_stepBack (l : Launch) (hl : l.stackTraces = false) (s : Mem) : Sat l yX3_stepBack (.code yX3_stepBack cX3_stepBack 1 (none)) 30 500 (fun _ => none) [.ref 1] s (m_X3_stepBack s) := by
  refine sat_of hl (by decide) (Nat.le_of_ble_eq_true rfl) (fun X V A adV hxl hC hE hx hr => ?_) (n_X3_stepBack s)
  subst hxl
  show LX X V A 30 500 (nC s) (nS s) _ 0 [(0, .ref 1)] [] s _
  unfold m_X3_stepBack
  refine lx_aload_n hC dX3_stepBack_0 rfl 0 rfl ?_
  refine lx_aload_n hC dX3_stepBack_1 rfl 0 rfl ?_
  refine lx_getI hC ly1 rfl 1 (by decide) rfl inX3 wd157 dX3_stepBack_2 ?_
  refine lx_if_ne hC 13 dX3_stepBack_5 (by decide) ?_ ?_
  · skip
    refine lx_aload_n hC dX3_stepBack_13 rfl 0 rfl ?_
    refine lx_getI hC ly1 rfl 1 (by decide) rfl inX3 wd157 dX3_stepBack_14 ?_
    refine lx_iconstv (v := 1) hC dX3_stepBack_17 rfl ?_
    refine lx_isub hC dX3_stepBack_18 ?_
    exact lx_sub [0] rfl (l_X3_stepBack_j19 hC hE hl hx hr ((gI s 1 1) - 1) s )
  · skip
    refine lx_bipush (v := 9) hC dX3_stepBack_8 (by decide) ?_
    refine lx_goto hC 19 dX3_stepBack_10 (by decide) ?_
    exact lx_sub [0] rfl (l_X3_stepBack_j19 hC hE hl hx hr 9 s )
set_option maxRecDepth 100000 in
set_option maxHeartbeats 2000000 in
theorem n_X7_undo (s : Mem) : Mn s (m_X7_undo s) := by
  unfold m_X7_undo
  refine mn_if ?_ ?_
  · skip
    refine mn_bind (n_X3_stepBack s) (fun v1 s2 => ?_)
    exact mn_some
  · skip
    exact mn_thr
set_option maxRecDepth 100000 in
set_option maxHeartbeats 2000000 in
theorem sat_X7_undo (l : Launch) (hl : l.stackTraces = false) (s : Mem) : Sat l yX7_undo (.code yX7_undo cX7_undo 1 (some .int)) 31 520 (fun x => some (.int x)) [.ref 0] s (m_X7_undo s) := by
  refine sat_of hl (by decide) (Nat.le_of_ble_eq_true rfl) (fun X V A adV hxl hC hE hx hr => ?_) (n_X7_undo s)
  subst hxl
  show LX X V A 31 520 (nC s) (nS s) _ 0 [(0, .ref 0)] [] s _
  unfold m_X7_undo
  refine lx_aload_n hC dX7_undo_0 rfl 0 rfl ?_
  refine lx_getR (q := 1) hC ly0 rfl 0 (by decide) rfl rfl inX7 wd247 dX7_undo_1 ?_
  refine lx_getI hC ly1 rfl 2 (by decide) rfl inX3 wd159 dX7_undo_4 ?_
  refine lx_if_ne hC 21 dX7_undo_7 (by decide) ?_ ?_
  · skip
    refine lx_aload_n hC dX7_undo_21 rfl 0 rfl ?_
    refine lx_getR (q := 1) hC ly0 rfl 0 (by decide) rfl rfl inX7 wd247 dX7_undo_22 ?_
    refine lx_callX hC hx (sat_X3_stepBack (xl X) hl s) (run_V (as := []) (rest := []) hC hE ly1 rfl cw_X3_stepBack ci_X3_stepBack wd623 cs_X3_stepBack ce_X3_stepBack cd_X3_stepBack (by decide) (by decide) (Nat.le_of_ble_eq_true rfl) dX7_undo_25 rfl) (fun v1 s2 _ => ?_)
    refine lx_aload_n hC dX7_undo_28 rfl 0 rfl ?_
    refine lx_getR (q := 1) hC ly0 rfl 0 (by decide) rfl rfl inX7 wd247 dX7_undo_29 ?_
    refine lx_getI hC ly1 rfl 2 (by decide) rfl inX3 wd159 dX7_undo_32 ?_
    exact lx_iret hC rfl hr dX7_undo_35
  · skip
    exact lx_throwW hC hE hl hx (i := 44) (text := "no change can be undone") rfl wd495 wd38 rfl thg_X7_IllegalStateException_112 thn_X7_IllegalStateException_112 tho_X7_IllegalStateException_112 dX7_undo_10 dX7_undo_13 dX7_undo_14 dX7_undo_17 dX7_undo_20 (by decide) (Nat.le_of_ble_eq_true rfl)
set_option maxRecDepth 100000 in
set_option maxHeartbeats 2000000 in
theorem n_X7_save (s : Mem) : Mn s (m_X7_save s) := by
  unfold m_X7_save
  refine mn_bindP (fun v1 => ?_)
  refine mn_if ?_ mn_none
  refine mn_bind (n_X6_copyFrom 22 v1 s) (fun v3 s4 => ?_)
  refine mn_put (fun s5 => ?_)
  exact mn_some
set_option maxRecDepth 100000 in
set_option maxHeartbeats 2000000 in
theorem sat_X7_save (l : Launch) (hl : l.stackTraces = false) (s : Mem) : Sat l yX7_save (.code yX7_save cX7_save 1 (some .int)) 32 545 (fun x => some (.int x)) [.ref 0] s (m_X7_save s) := by
  refine sat_of hl (by decide) (Nat.le_of_ble_eq_true rfl) (fun X V A adV hxl hC hE hx hr => ?_) (n_X7_save s)
  subst hxl
  show LX X V A 32 545 (nC s) (nS s) _ 0 [(0, .ref 0)] [] s _
  unfold m_X7_save
  refine lx_aload_n hC dX7_save_0 rfl 0 rfl ?_
  refine lx_getR (q := 22) hC ly0 rfl 1 (by decide) rfl rfl inX7 wd248 dX7_save_1 ?_
  refine lx_aload_n hC dX7_save_4 rfl 0 rfl ?_
  refine lx_getR (q := 1) hC ly0 rfl 0 (by decide) rfl rfl inX7 wd247 dX7_save_5 ?_
  refine lx_callP hC hx (sat_X3_present (xl X) hl s) (run_V (as := []) (rest := [.ref 22]) hC hE ly1 rfl cw_X3_present ci_X3_present wd282 cs_X3_present ce_X3_present cd_X3_present (by decide) (by decide) (Nat.le_of_ble_eq_true rfl) dX7_save_8 rfl) (fun v1 _ => ?_)
  refine lx_if fun h2 => ?_
  refine lx_callX hC hx (sat_X6_copyFrom (xl X) hl 22 v1 th22 h2 s) (run_V (as := [.ref v1]) (rest := []) hC hE (th_o th22) rfl cw_X6_copyFrom ci_X6_copyFrom wd294 cs_X6_copyFrom ce_X6_copyFrom cd_X6_copyFrom (by decide) (by decide) (Nat.le_of_ble_eq_true rfl) dX7_save_11 rfl) (fun v3 s4 _ => ?_)
  refine lx_aload_n hC dX7_save_14 rfl 0 rfl ?_
  refine lx_iconstv (v := 1) hC dX7_save_15 rfl ?_
  refine lx_putI hC ly0 rfl 7 (by decide) rfl tyX7 tyX7_ok nmX7 rfl rfl rfl inX7 wd254 dX7_save_16 (fun s5 => ?_)
  refine lx_aload_n hC dX7_save_19 rfl 0 rfl ?_
  refine lx_getR (q := 22) hC ly0 rfl 1 (by decide) rfl rfl inX7 wd248 dX7_save_20 ?_
  refine lx_getI hC (th_o th22) rfl 9 (by decide) rfl inX6 wd108 dX7_save_23 ?_
  exact lx_iret hC rfl hr dX7_save_26
set_option maxRecDepth 100000 in
set_option maxHeartbeats 2000000 in
theorem n_X3_startAgainFrom (p0 : Nat) (s : Mem) : Mn s (m_X3_startAgainFrom p0 s) := by
  unfold m_X3_startAgainFrom
  refine mn_if ?_ mn_none
  refine mn_bind (n_X6_copyFrom (arf 65 (gI s 1 1).toNatClampNeg) p0 s) (fun v2 s3 => ?_)
  refine mn_put (fun s4 => ?_)
  exact mn_some
set_option maxRecDepth 100000 in
set_option maxHeartbeats 2000000 in
theorem sat_X3_startAgainFrom (l : Launch) (hl : l.stackTraces = false) (p0 : Nat) (hp0 : isTh p0) (s : Mem) : Sat l yX3_startAgainFrom (.code yX3_startAgainFrom cX3_startAgainFrom 2 (none)) 32 545 (fun _ => none) [.ref 1, .ref p0] s (m_X3_startAgainFrom p0 s) := by
  refine sat_of hl (by decide) (Nat.le_of_ble_eq_true rfl) (fun X V A adV hxl hC hE hx hr => ?_) (n_X3_startAgainFrom p0 s)
  subst hxl
  show LX X V A 32 545 (nC s) (nS s) _ 0 [(0, .ref 1), (1, .ref p0)] [] s _
  unfold m_X3_startAgainFrom
  refine lx_aload_n hC dX3_startAgainFrom_0 rfl 0 rfl ?_
  refine lx_getR (q := 65) hC ly1 rfl 0 (by decide) rfl rfl inX3 wd156 dX3_startAgainFrom_1 ?_
  refine lx_aload_n hC dX3_startAgainFrom_4 rfl 0 rfl ?_
  refine lx_getI hC ly1 rfl 1 (by decide) rfl inX3 wd157 dX3_startAgainFrom_5 ?_
  refine lx_aaload hC ly65 rfl rfl dX3_startAgainFrom_8 (fun h1 => ?_)
  refine lx_aload_n hC dX3_startAgainFrom_9 rfl 1 rfl ?_
  refine lx_callX hC hx (sat_X6_copyFrom (xl X) hl (arf 65 (gI s 1 1).toNatClampNeg) p0 (th_ring h1) hp0 s) (run_V (as := [.ref p0]) (rest := []) hC hE (th_o (th_ring h1)) rfl cw_X6_copyFrom ci_X6_copyFrom wd322 cs_X6_copyFrom ce_X6_copyFrom cd_X6_copyFrom (by decide) (by decide) (Nat.le_of_ble_eq_true rfl) dX3_startAgainFrom_10 rfl) (fun v2 s3 _ => ?_)
  refine lx_aload_n hC dX3_startAgainFrom_13 rfl 0 rfl ?_
  refine lx_iconstv (v := 0) hC dX3_startAgainFrom_14 rfl ?_
  refine lx_putI hC ly1 rfl 2 (by decide) rfl tyX3 tyX3_ok nmX3 rfl rfl rfl inX3 wd158 dX3_startAgainFrom_15 (fun s4 => ?_)
  exact lx_vret hC rfl hr dX3_startAgainFrom_18
set_option maxRecDepth 100000 in
set_option maxHeartbeats 2000000 in
theorem n_X7_restore (s : Mem) : Mn s (m_X7_restore s) := by
  unfold m_X7_restore
  refine mn_if ?_ ?_
  · skip
    refine mn_bind (n_X3_startAgainFrom 22 s) (fun v1 s2 => ?_)
    exact mn_some
  · skip
    exact mn_thr
set_option maxRecDepth 100000 in
set_option maxHeartbeats 2000000 in
theorem sat_X7_restore (l : Launch) (hl : l.stackTraces = false) (s : Mem) : Sat l yX7_restore (.code yX7_restore cX7_restore 1 (some .int)) 33 566 (fun x => some (.int x)) [.ref 0] s (m_X7_restore s) := by
  refine sat_of hl (by decide) (Nat.le_of_ble_eq_true rfl) (fun X V A adV hxl hC hE hx hr => ?_) (n_X7_restore s)
  subst hxl
  show LX X V A 33 566 (nC s) (nS s) _ 0 [(0, .ref 0)] [] s _
  unfold m_X7_restore
  refine lx_aload_n hC dX7_restore_0 rfl 0 rfl ?_
  refine lx_getI hC ly0 rfl 7 (by decide) rfl inX7 wd254 dX7_restore_1 ?_
  refine lx_if_ne hC 18 dX7_restore_4 (by decide) ?_ ?_
  · skip
    refine lx_aload_n hC dX7_restore_18 rfl 0 rfl ?_
    refine lx_getR (q := 1) hC ly0 rfl 0 (by decide) rfl rfl inX7 wd247 dX7_restore_19 ?_
    refine lx_aload_n hC dX7_restore_22 rfl 0 rfl ?_
    refine lx_getR (q := 22) hC ly0 rfl 1 (by decide) rfl rfl inX7 wd248 dX7_restore_23 ?_
    refine lx_callX hC hx (sat_X3_startAgainFrom (xl X) hl 22 th22 s) (run_V (as := [.ref 22]) (rest := []) hC hE ly1 rfl cw_X3_startAgainFrom ci_X3_startAgainFrom wd635 cs_X3_startAgainFrom ce_X3_startAgainFrom cd_X3_startAgainFrom (by decide) (by decide) (Nat.le_of_ble_eq_true rfl) dX7_restore_26 rfl) (fun v1 s2 _ => ?_)
    refine lx_aload_n hC dX7_restore_29 rfl 0 rfl ?_
    refine lx_getR (q := 22) hC ly0 rfl 1 (by decide) rfl rfl inX7 wd248 dX7_restore_30 ?_
    refine lx_getI hC (th_o th22) rfl 9 (by decide) rfl inX6 wd108 dX7_restore_33 ?_
    exact lx_iret hC rfl hr dX7_restore_36
  · skip
    exact lx_throwW hC hE hl hx (i := 45) (text := "there is no saved copy") rfl wd495 wd38 rfl thg_X7_IllegalStateException_112 thn_X7_IllegalStateException_112 tho_X7_IllegalStateException_112 dX7_restore_7 dX7_restore_10 dX7_restore_11 dX7_restore_14 dX7_restore_17 (by decide) (Nat.le_of_ble_eq_true rfl)
