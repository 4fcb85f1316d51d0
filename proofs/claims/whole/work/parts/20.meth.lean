def m_X6_hasRow (t : Nat) (p0 : Int32) (s : Mem) : Option Int32 := if p0 < 0 then (some 0) else (if gI s t 4 ≤ p0 then (some 0) else (some 1))
set_option maxRecDepth 100000 in
set_option maxHeartbeats 2000000 in
theorem sat_X6_hasRow (l : Launch) (hl : l.stackTraces = false) (t : Nat) (p0 : Int32) (ht : isTh t) (s : Mem) : Sat l yX6_hasRow (.code yX6_hasRow cX6_hasRow 2 (some .boolean)) 30 500 (fun x => some (.int x)) [.ref t, .int p0] s (pur s (m_X6_hasRow t p0 s)) := by
  refine sat_of hl (by decide) (Nat.le_of_ble_eq_true rfl) (fun X V A adV hxl hC hE hx hr => ?_) pur_mono
  subst hxl
  show LX X V A 30 500 (nC s) (nS s) _ 0 [(0, .ref t), (1, .int p0)] [] s _
  unfold m_X6_hasRow
  refine lx_iload_n hC dX6_hasRow_0 rfl 1 rfl ?_
  refine lq_if_lt hC 16 dX6_hasRow_1 (by decide) ?_ ?_
  · skip
    refine lx_iconstv (v := 0) hC dX6_hasRow_16 rfl ?_
    exact lx_zret hC rfl hr rfl dX6_hasRow_17
  · skip
    refine lx_iload_n hC dX6_hasRow_4 rfl 1 rfl ?_
    refine lx_aload_n hC dX6_hasRow_5 rfl 0 rfl ?_
    refine lx_getI hC (th_o ht) rfl 4 (by decide) rfl inX6 wd155 dX6_hasRow_6 ?_
    refine lq_icmp_ge hC 16 dX6_hasRow_9 (by decide) ?_ ?_
    · skip
      refine lx_iconstv (v := 0) hC dX6_hasRow_16 rfl ?_
      exact lx_zret hC rfl hr rfl dX6_hasRow_17
    · skip
      refine lx_iconstv (v := 1) hC dX6_hasRow_12 rfl ?_
      refine lx_goto hC 17 dX6_hasRow_13 (by decide) ?_
      exact lx_zret hC rfl hr rfl dX6_hasRow_17
def m_X6_echoesIn_b4 (q1 : Nat) (x2 : Int32) (s : Mem) (kf4 : (Int32 × Int32) → Option Int32) (w2 : Int32) (w3 : Int32) : Option Int32 := if gI s q1 9 ≤ w3 then (some w2) else (if ib w3 24 then if ¬ gI s (q1 + 448) w3.toNatClampNeg = x2 then (vl (w3 + 1) (fun y3 => kf4 (w2, y3))) else (vl (w2 + 1) (fun y4 => vl (w3 + 1) (fun y5 => kf4 (y4, y5)))) else none)
def m_X6_echoesIn (t : Nat) (p0 : Int32) (s : Mem) : Option Int32 := lpO (fun kf4 a => m_X6_echoesIn_b4 t p0 s kf4 a.1 a.2) FUEL (0, 0)
set_option maxRecDepth 100000 in
set_option maxHeartbeats 2000000 in
theorem l_X6_echoesIn_b4 {X : Cx} {V : Vx} {A : Nat → Prop} {adV : Nat → Nat} {c0 s0 : Nat} (hC : Cok X V A yX6_echoesIn.cls cX6_echoesIn 4) (hE : Env0 V adV A (xs X) (xs X).heap) (hl : (xl X).stackTraces = false) (hx : ∀ x ∈ (xc X).exceptionTable.toList, False) (hr : (xh X).sig.returnType = some .int) (q1 : Nat) (x2 : Int32) (hq1 : isTh q1) (s : Mem) (kf4 : (Int32 × Int32) → Option Int32) (hk4 : ∀ a, LX X V A 30 500 c0 s0 (FM X V A (fun x => some (.int x))) 4 [(0, .ref q1), (1, .int x2), (2, .int a.1), (3, .int a.2)] [] s (pur s (kf4 a))) (w2 : Int32) (w3 : Int32) : LX X V A 30 500 c0 s0 (FM X V A (fun x => some (.int x))) 4 [(0, .ref q1), (1, .int x2), (2, .int w2), (3, .int w3)] [] s (pur s (m_X6_echoesIn_b4 q1 x2 s kf4 w2 w3 )) := by
  unfold m_X6_echoesIn_b4
  refine lx_iload_n hC dX6_echoesIn_4 rfl 3 rfl ?_
  refine lx_aload_n hC dX6_echoesIn_5 rfl 0 rfl ?_
  refine lx_getI hC (th_o hq1) rfl 9 (by decide) rfl inX6 wd174 dX6_echoesIn_6 ?_
  refine lq_icmp_ge hC 31 dX6_echoesIn_9 (by decide) ?_ ?_
  · skip
    refine lx_iload_n hC dX6_echoesIn_31 rfl 2 rfl ?_
    exact lx_iret hC rfl hr dX6_echoesIn_32
  · skip
    refine lx_aload_n hC dX6_echoesIn_12 rfl 0 rfl ?_
    refine lx_getR (q := q1 + 448) hC (th_o hq1) rfl 6 (by decide) rfl rfl inX6 wd162 dX6_echoesIn_13 ?_
    refine lx_iload_n hC dX6_echoesIn_16 rfl 3 rfl ?_
    refine lq_iaload hC (th_a6 hq1) dX6_echoesIn_17 ?_
    refine lx_iload_n hC dX6_echoesIn_18 rfl 1 rfl ?_
    refine lq_icmp_ne hC 25 dX6_echoesIn_19 (by decide) ?_ ?_
    · skip
      refine lq_iincN (v := 1) hC dX6_echoesIn_25 3 rfl (by decide) rfl (fun y3 => ?_)
      refine lx_goto hC 4 dX6_echoesIn_28 (by decide) ?_
      exact lx_sub [1, 2, 3, 0] rfl (hk4 (w2, y3))
    · skip
      refine lq_iincN (v := 1) hC dX6_echoesIn_22 2 rfl (by decide) rfl (fun y4 => ?_)
      refine lq_iincN (v := 1) hC dX6_echoesIn_25 3 rfl (by decide) rfl (fun y5 => ?_)
      refine lx_goto hC 4 dX6_echoesIn_28 (by decide) ?_
      exact lx_sub [2, 3, 1, 0] rfl (hk4 (y4, y5))
set_option maxRecDepth 100000 in
set_option maxHeartbeats 2000000 in
theorem sat_X6_echoesIn (l : Launch) (hl : l.stackTraces = false) (t : Nat) (p0 : Int32) (ht : isTh t) (s : Mem) : Sat l yX6_echoesIn (.code yX6_echoesIn cX6_echoesIn 4 (some .int)) 30 500 (fun x => some (.int x)) [.ref t, .int p0] s (pur s (m_X6_echoesIn t p0 s)) := by
  refine sat_of hl (by decide) (Nat.le_of_ble_eq_true rfl) (fun X V A adV hxl hC hE hx hr => ?_) pur_mono
  subst hxl
  show LX X V A 30 500 (nC s) (nS s) _ 0 [(0, .ref t), (1, .int p0)] [] s _
  unfold m_X6_echoesIn
  refine lx_iconstv (v := 0) hC dX6_echoesIn_0 rfl ?_
  refine lx_istore_n hC dX6_echoesIn_1 rfl (by decide) ?_
  refine lx_iconstv (v := 0) hC dX6_echoesIn_2 rfl ?_
  refine lx_istore_n hC dX6_echoesIn_3 rfl (by decide) ?_
  refine lx_sub [2, 3, 1, 0] rfl ?_
  exact lq_lp (lv := fun a => [(0, .ref t), (1, .int p0), (2, .int a.1), (3, .int a.2)]) (st := fun _ => []) (fun kf hq a => l_X6_echoesIn_b4 hC hE hl hx hr t p0 ht s kf hq a.1 a.2) FUEL (0, 0)
def m_X6_emptySeatsIn (t : Nat) (p0 : Int32) (s : Mem) : Option Int32 := if ib p0 8 then if ib p0 8 then bindO (m_X6_echoesIn t p0 s) (fun v1 => some (((gI s (t + 64) p0.toNatClampNeg) + (gI s (t + 128) p0.toNatClampNeg)) - v1)) else none else none
set_option maxRecDepth 100000 in
set_option maxHeartbeats 2000000 in
theorem sat_X6_emptySeatsIn (l : Launch) (hl : l.stackTraces = false) (t : Nat) (p0 : Int32) (ht : isTh t) (s : Mem) : Sat l yX6_emptySeatsIn (.code yX6_emptySeatsIn cX6_emptySeatsIn 2 (some .int)) 31 523 (fun x => some (.int x)) [.ref t, .int p0] s (pur s (m_X6_emptySeatsIn t p0 s)) := by
  refine sat_of hl (by decide) (Nat.le_of_ble_eq_true rfl) (fun X V A adV hxl hC hE hx hr => ?_) pur_mono
  subst hxl
  show LX X V A 31 523 (nC s) (nS s) _ 0 [(0, .ref t), (1, .int p0)] [] s _
  unfold m_X6_emptySeatsIn
  refine lx_aload_n hC dX6_emptySeatsIn_0 rfl 0 rfl ?_
  refine lx_getR (q := t + 64) hC (th_o ht) rfl 0 (by decide) rfl rfl inX6 wd140 dX6_emptySeatsIn_1 ?_
  refine lx_iload_n hC dX6_emptySeatsIn_4 rfl 1 rfl ?_
  refine lq_iaload hC (th_a0 ht) dX6_emptySeatsIn_5 ?_
  refine lx_aload_n hC dX6_emptySeatsIn_6 rfl 0 rfl ?_
  refine lx_getR (q := t + 128) hC (th_o ht) rfl 1 (by decide) rfl rfl inX6 wd143 dX6_emptySeatsIn_7 ?_
  refine lx_iload_n hC dX6_emptySeatsIn_10 rfl 1 rfl ?_
  refine lq_iaload hC (th_a1 ht) dX6_emptySeatsIn_11 ?_
  refine lx_iadd hC dX6_emptySeatsIn_12 ?_
  refine lx_aload_n hC dX6_emptySeatsIn_13 rfl 0 rfl ?_
  refine lx_iload_n hC dX6_emptySeatsIn_14 rfl 1 rfl ?_
  refine lq_call hC hx (sat_X6_echoesIn (xl X) hl t p0 ht s) (run_V (as := [.int p0]) (rest := [.int ((gI s (t + 64) p0.toNatClampNeg) + (gI s (t + 128) p0.toNatClampNeg))]) hC hE (th_o ht) rfl cw_X6_echoesIn ci_X6_echoesIn wd437 cs_X6_echoesIn ce_X6_echoesIn cd_X6_echoesIn (by decide) (by decide) (Nat.le_of_ble_eq_true rfl) dX6_emptySeatsIn_15 rfl) (fun v1 _ => ?_)
  refine lx_isub hC dX6_emptySeatsIn_18 ?_
  exact lx_iret hC rfl hr dX6_emptySeatsIn_19
def m_X6_slotOf_b2 (q1 : Nat) (x2 : Int32) (s : Mem) (kf2 : Int32 → Option Int32) (w2 : Int32) : Option Int32 := if gI s q1 9 ≤ w2 then (some (-1)) else (if ib w2 24 then if ¬ gI s (q1 + 384) w2.toNatClampNeg = x2 then (vl (w2 + 1) (fun y3 => kf2 y3)) else (some w2) else none)
def m_X6_slotOf (t : Nat) (p0 : Int32) (s : Mem) : Option Int32 := lpO (fun kf2 a => m_X6_slotOf_b2 t p0 s kf2 a) FUEL 0
set_option maxRecDepth 100000 in
set_option maxHeartbeats 2000000 in
theorem l_X6_slotOf_b2 {X : Cx} {V : Vx} {A : Nat → Prop} {adV : Nat → Nat} {c0 s0 : Nat} (hC : Cok X V A yX6_slotOf.cls cX6_slotOf 3) (hE : Env0 V adV A (xs X) (xs X).heap) (hl : (xl X).stackTraces = false) (hx : ∀ x ∈ (xc X).exceptionTable.toList, False) (hr : (xh X).sig.returnType = some .int) (q1 : Nat) (x2 : Int32) (hq1 : isTh q1) (s : Mem) (kf2 : Int32 → Option Int32) (hk2 : ∀ a, LX X V A 30 500 c0 s0 (FM X V A (fun x => some (.int x))) 2 [(0, .ref q1), (1, .int x2), (2, .int a)] [] s (pur s (kf2 a))) (w2 : Int32) : LX X V A 30 500 c0 s0 (FM X V A (fun x => some (.int x))) 2 [(0, .ref q1), (1, .int x2), (2, .int w2)] [] s (pur s (m_X6_slotOf_b2 q1 x2 s kf2 w2 )) := by
  unfold m_X6_slotOf_b2
  refine lx_iload_n hC dX6_slotOf_2 rfl 2 rfl ?_
  refine lx_aload_n hC dX6_slotOf_3 rfl 0 rfl ?_
  refine lx_getI hC (th_o hq1) rfl 9 (by decide) rfl inX6 wd174 dX6_slotOf_4 ?_
  refine lq_icmp_ge hC 28 dX6_slotOf_7 (by decide) ?_ ?_
  · skip
    refine lx_iconstv (v := (-1)) hC dX6_slotOf_28 rfl ?_
    exact lx_iret hC rfl hr dX6_slotOf_29
  · skip
    refine lx_aload_n hC dX6_slotOf_10 rfl 0 rfl ?_
    refine lx_getR (q := q1 + 384) hC (th_o hq1) rfl 5 (by decide) rfl rfl inX6 wd159 dX6_slotOf_11 ?_
    refine lx_iload_n hC dX6_slotOf_14 rfl 2 rfl ?_
    refine lq_iaload hC (th_a5 hq1) dX6_slotOf_15 ?_
    refine lx_iload_n hC dX6_slotOf_16 rfl 1 rfl ?_
    refine lq_icmp_ne hC 22 dX6_slotOf_17 (by decide) ?_ ?_
    · skip
      refine lq_iincN (v := 1) hC dX6_slotOf_22 2 rfl (by decide) rfl (fun y3 => ?_)
      refine lx_goto hC 2 dX6_slotOf_25 (by decide) ?_
      exact lx_sub [1, 2, 0] rfl (hk2 y3)
    · skip
      refine lx_iload_n hC dX6_slotOf_20 rfl 2 rfl ?_
      exact lx_iret hC rfl hr dX6_slotOf_21
set_option maxRecDepth 100000 in
set_option maxHeartbeats 2000000 in
theorem sat_X6_slotOf (l : Launch) (hl : l.stackTraces = false) (t : Nat) (p0 : Int32) (ht : isTh t) (s : Mem) : Sat l yX6_slotOf (.code yX6_slotOf cX6_slotOf 3 (some .int)) 30 500 (fun x => some (.int x)) [.ref t, .int p0] s (pur s (m_X6_slotOf t p0 s)) := by
  refine sat_of hl (by decide) (Nat.le_of_ble_eq_true rfl) (fun X V A adV hxl hC hE hx hr => ?_) pur_mono
  subst hxl
  show LX X V A 30 500 (nC s) (nS s) _ 0 [(0, .ref t), (1, .int p0)] [] s _
  unfold m_X6_slotOf
  refine lx_iconstv (v := 0) hC dX6_slotOf_0 rfl ?_
  refine lx_istore_n hC dX6_slotOf_1 rfl (by decide) ?_
  refine lx_sub [1, 2, 0] rfl ?_
  exact lq_lp (lv := fun a => [(0, .ref t), (1, .int p0), (2, .int a)]) (st := fun _ => []) (fun kf hq a => l_X6_slotOf_b2 hC hE hl hx hr t p0 ht s kf hq a) FUEL 0
def m_X0_addEcho (p0 : Nat) (p1 : Int32) (p2 : Int32) (s : Mem) : Res Int32 := vl (gI s p0 9) (fun y1 => vl (gI s p0 10) (fun y2 => if ib y1 24 then vl (pI s (p0 + 384) y1.toNatClampNeg y2) (fun s3 => if ib y1 24 then vl (pI s3 (p0 + 448) y1.toNatClampNeg p1) (fun s4 => if ib y1 24 then vl (pI s4 (p0 + 512) y1.toNatClampNeg p2) (fun s5 => if ib y1 24 then vl (pI s5 (p0 + 576) y1.toNatClampNeg (-1)) (fun s6 => vl (pI s6 p0 9 ((gI s6 p0 9) + 1)) (fun s7 => vl (pI s7 p0 10 ((gI s7 p0 10) + 1)) (fun s8 => vl (pJ s8 p0 13 ((gJ s8 p0 13) + p2.toInt64)) (fun s9 => some (.inl y2, s9))))) else none) else none) else none) else none))
set_option maxRecDepth 100000 in
set_option maxHeartbeats 2000000 in
theorem n_X0_addEcho (p0 : Nat) (p1 : Int32) (p2 : Int32) (s : Mem) : Mn s (m_X0_addEcho p0 p1 p2 s) := by
  unfold m_X0_addEcho
  refine mn_vl (fun y1 => ?_)
  refine mn_vl (fun y2 => ?_)
  refine mn_if ?_ mn_none
  refine mn_put (fun s3 => ?_)
  refine mn_if ?_ mn_none
  refine mn_put (fun s4 => ?_)
  refine mn_if ?_ mn_none
  refine mn_put (fun s5 => ?_)
  refine mn_if ?_ mn_none
  refine mn_put (fun s6 => ?_)
  refine mn_put (fun s7 => ?_)
  refine mn_put (fun s8 => ?_)
  refine mn_put (fun s9 => ?_)
  exact mn_some
set_option maxRecDepth 100000 in
set_option maxHeartbeats 2000000 in
theorem sat_X0_addEcho (l : Launch) (hl : l.stackTraces = false) (p0 : Nat) (p1 : Int32) (p2 : Int32) (hp0 : isTh p0) (s : Mem) : Sat l yX0_addEcho (.code yX0_addEcho cX0_addEcho 5 (some .int)) 30 500 (fun x => some (.int x)) [.ref p0, .int p1, .int p2] s (m_X0_addEcho p0 p1 p2 s) := by
  refine sat_of hl (by decide) (Nat.le_of_ble_eq_true rfl) (fun X V A adV hxl hC hE hx hr => ?_) (n_X0_addEcho p0 p1 p2 s)
  subst hxl
  show LX X V A 30 500 (nC s) (nS s) _ 0 [(0, .ref p0), (1, .int p1), (2, .int p2)] [] s _
  unfold m_X0_addEcho
  refine lx_aload_n hC dX0_addEcho_0 rfl 0 rfl ?_
  refine lx_getI hC (th_o hp0) rfl 9 (by decide) rfl inX6 wd175 dX0_addEcho_1 ?_
  refine lx_istore_nN hC dX0_addEcho_4 rfl (by decide) (fun y1 => ?_)
  refine lx_aload_n hC dX0_addEcho_5 rfl 1 rfl ?_
  refine lx_getI hC (th_o hp0) rfl 10 (by decide) rfl inX6 wd179 dX0_addEcho_6 ?_
  refine lx_istoreN hC dX0_addEcho_9 (by decide) (fun y2 => ?_)
  refine lx_aload_n hC dX0_addEcho_11 rfl 2 rfl ?_
  refine lx_getR (q := p0 + 384) hC (th_o hp0) rfl 5 (by decide) rfl rfl inX6 wd160 dX0_addEcho_12 ?_
  refine lx_iload_n hC dX0_addEcho_15 rfl 1 rfl ?_
  refine lx_iload hC dX0_addEcho_16 0 rfl ?_
  refine lx_iastore hC (th_a5 hp0) dX0_addEcho_18 (fun s3 => ?_)
  refine lx_aload_n hC dX0_addEcho_19 rfl 2 rfl ?_
  refine lx_getR (q := p0 + 448) hC (th_o hp0) rfl 6 (by decide) rfl rfl inX6 wd163 dX0_addEcho_20 ?_
  refine lx_iload_n hC dX0_addEcho_23 rfl 1 rfl ?_
  refine lx_iload_n hC dX0_addEcho_24 rfl 3 rfl ?_
  refine lx_iastore hC (th_a6 hp0) dX0_addEcho_25 (fun s4 => ?_)
  refine lx_aload_n hC dX0_addEcho_26 rfl 2 rfl ?_
  refine lx_getR (q := p0 + 512) hC (th_o hp0) rfl 7 (by decide) rfl rfl inX6 wd167 dX0_addEcho_27 ?_
  refine lx_iload_n hC dX0_addEcho_30 rfl 1 rfl ?_
  refine lx_iload_n hC dX0_addEcho_31 rfl 4 rfl ?_
  refine lx_iastore hC (th_a7 hp0) dX0_addEcho_32 (fun s5 => ?_)
  refine lx_aload_n hC dX0_addEcho_33 rfl 2 rfl ?_
  refine lx_getR (q := p0 + 576) hC (th_o hp0) rfl 8 (by decide) rfl rfl inX6 wd170 dX0_addEcho_34 ?_
  refine lx_iload_n hC dX0_addEcho_37 rfl 1 rfl ?_
  refine lx_iconstv (v := (-1)) hC dX0_addEcho_38 rfl ?_
  refine lx_iastore hC (th_a8 hp0) dX0_addEcho_39 (fun s6 => ?_)
  refine lx_aload_n hC dX0_addEcho_40 rfl 2 rfl ?_
  refine lx_dup_ref hC dX0_addEcho_41 ?_
  refine lx_getI hC (th_o hp0) rfl 9 (by decide) rfl inX6 wd175 dX0_addEcho_42 ?_
  refine lx_iconstv (v := 1) hC dX0_addEcho_45 rfl ?_
  refine lx_iadd hC dX0_addEcho_46 ?_
  refine lx_putI hC (th_o hp0) rfl 9 (by decide) rfl tyX6 tyX6_ok nmX6 rfl rfl rfl inX6 wd175 dX0_addEcho_47 (fun s7 => ?_)
  refine lx_aload_n hC dX0_addEcho_50 rfl 2 rfl ?_
  refine lx_dup_ref hC dX0_addEcho_51 ?_
  refine lx_getI hC (th_o hp0) rfl 10 (by decide) rfl inX6 wd179 dX0_addEcho_52 ?_
  refine lx_iconstv (v := 1) hC dX0_addEcho_55 rfl ?_
  refine lx_iadd hC dX0_addEcho_56 ?_
  refine lx_putI hC (th_o hp0) rfl 10 (by decide) rfl tyX6 tyX6_ok nmX6 rfl rfl rfl inX6 wd179 dX0_addEcho_57 (fun s8 => ?_)
  refine lx_aload_n hC dX0_addEcho_60 rfl 2 rfl ?_
  refine lx_dup_ref hC dX0_addEcho_61 ?_
  refine lx_getJ hC (th_o hp0) rfl 13 (by decide) rfl inX6 wd187 dX0_addEcho_62 ?_
  refine lx_iload_n hC dX0_addEcho_65 rfl 4 rfl ?_
  refine lx_i2l hC dX0_addEcho_66 ?_
  refine lx_ladd hC dX0_addEcho_67 ?_
  refine lx_putJ hC (th_o hp0) rfl 13 (by decide) rfl tyX6 tyX6_ok nmX6 rfl rfl rfl inX6 wd187 dX0_addEcho_68 (fun s9 => ?_)
  refine lx_iload hC dX0_addEcho_71 0 rfl ?_
  exact lx_iret hC rfl hr dX0_addEcho_73
def m_X3_present (s : Mem) : Option Nat := if ib (gI s 1 1) 10 then some (arf 65 (gI s 1 1).toNatClampNeg) else none
set_option maxRecDepth 100000 in
set_option maxHeartbeats 2000000 in
theorem sat_X3_present (l : Launch) (hl : l.stackTraces = false) (s : Mem) : Sat l yX3_present (.code yX3_present cX3_present 1 (some (.object "EchoCensus$Theatre"))) 30 500 (fun x => some (.ref x)) [.ref 1] s (pur s (m_X3_present s)) := by
  refine sat_of hl (by decide) (Nat.le_of_ble_eq_true rfl) (fun X V A adV hxl hC hE hx hr => ?_) pur_mono
  subst hxl
  show LX X V A 30 500 (nC s) (nS s) _ 0 [(0, .ref 1)] [] s _
  unfold m_X3_present
  refine lx_aload_n hC dX3_present_0 rfl 0 rfl ?_
  refine lx_getR (q := 65) hC ly1 rfl 0 (by decide) rfl rfl inX3 wd225 dX3_present_1 ?_
  refine lx_aload_n hC dX3_present_4 rfl 0 rfl ?_
  refine lx_getI hC ly1 rfl 1 (by decide) rfl inX3 wd226 dX3_present_5 ?_
  refine lq_aaload hC ly65 rfl rfl dX3_present_8 (fun h1 => ?_)
  exact lx_aret hC rfl hr (Or.inl ⟨_, rfl⟩) dX3_present_9
def m_X7_theatreWithRow (p0 : Int32) (s : Mem) : Res Nat := bindP (m_X3_present s) (fun v1 => if isTh v1 then bindP (m_X6_hasRow v1 p0 s) (fun v3 => if ¬ v3 = 0 then (some (.inl v1, s)) else (some (.inr "java/lang/IndexOutOfBoundsException", pN s 1 6))) else none)
set_option maxRecDepth 100000 in
set_option maxHeartbeats 2000000 in
theorem n_X7_theatreWithRow (p0 : Int32) (s : Mem) : Mn s (m_X7_theatreWithRow p0 s) := by
  unfold m_X7_theatreWithRow
  refine mn_bindP (fun v1 => ?_)
  refine mn_if ?_ mn_none
  refine mn_bindP (fun v3 => ?_)
  refine mn_if ?_ ?_
  · skip
    exact mn_some
  · skip
    exact mn_thr
set_option maxRecDepth 100000 in
set_option maxHeartbeats 2000000 in
theorem sat_X7_theatreWithRow (l : Launch) (hl : l.stackTraces = false) (p0 : Int32) (s : Mem) : Sat l yX7_theatreWithRow (.code yX7_theatreWithRow cX7_theatreWithRow 3 (some (.object "EchoCensus$Theatre"))) 31 521 (fun x => some (.ref x)) [.ref 0, .int p0] s (m_X7_theatreWithRow p0 s) := by
  refine sat_of hl (by decide) (Nat.le_of_ble_eq_true rfl) (fun X V A adV hxl hC hE hx hr => ?_) (n_X7_theatreWithRow p0 s)
  subst hxl
  show LX X V A 31 521 (nC s) (nS s) _ 0 [(0, .ref 0), (1, .int p0)] [] s _
  unfold m_X7_theatreWithRow
  refine lx_aload_n hC dX7_theatreWithRow_0 rfl 0 rfl ?_
  refine lx_getR (q := 1) hC ly0 rfl 0 (by decide) rfl rfl inX7 wd316 dX7_theatreWithRow_1 ?_
  refine lx_callP hC hx (sat_X3_present (xl X) hl s) (run_V (as := []) (rest := []) hC hE ly1 rfl cw_X3_present ci_X3_present wd351 cs_X3_present ce_X3_present cd_X3_present (by decide) (by decide) (Nat.le_of_ble_eq_true rfl) dX7_theatreWithRow_4 rfl) (fun v1 _ => ?_)
  refine lx_if fun h2 => ?_
  refine lx_astore_n hC dX7_theatreWithRow_7 rfl (by decide) ?_
  refine lx_aload_n hC dX7_theatreWithRow_8 rfl 0 rfl ?_
  refine lx_iload_n hC dX7_theatreWithRow_9 rfl 2 rfl ?_
  refine lx_callP hC hx (sat_X6_hasRow (xl X) hl v1 p0 h2 s) (run_V (as := [.int p0]) (rest := []) hC hE (th_o h2) rfl cw_X6_hasRow ci_X6_hasRow wd863 cs_X6_hasRow ce_X6_hasRow cd_X6_hasRow (by decide) (by decide) (Nat.le_of_ble_eq_true rfl) dX7_theatreWithRow_10 rfl) (fun v3 _ => ?_)
  refine lx_if_ne hC 26 dX7_theatreWithRow_13 (by decide) ?_ ?_
  · skip
    refine lx_aload_n hC dX7_theatreWithRow_26 rfl 0 rfl ?_
    exact lx_aret hC rfl hr (Or.inl ⟨_, rfl⟩) dX7_theatreWithRow_27
  · skip
    exact lx_throw hC hE hl hx (i := 1) (text := "there is no such row") rfl wd639 wd104 rfl thg_X7_IndexOutOfBoundsException_102 thn_X7_IndexOutOfBoundsException_102 (by decide +kernel) tho_X7_IndexOutOfBoundsException_102 dX7_theatreWithRow_16 dX7_theatreWithRow_19 dX7_theatreWithRow_20 dX7_theatreWithRow_22 dX7_theatreWithRow_25 (by decide) (Nat.le_of_ble_eq_true rfl)
