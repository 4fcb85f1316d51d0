def m_X6_slotOf_b2 (q1 : Nat) (x2 : Int32) (s : Mem) (kf2 : Int32 → Option Int32) (w2 : Int32) : Option Int32 := if gI s q1 9 ≤ w2 then (some (-1)) else (if ib w2 24 then if ¬ gI s (q1 + 384) w2.toNatClampNeg = x2 then (vl (w2 + 1) (fun y3 => kf2 y3)) else (some w2) else none)
def m_X6_slotOf (t : Nat) (p0 : Int32) (s : Mem) : Option Int32 := lpO (fun kf2 a => m_X6_slotOf_b2 t p0 s kf2 a) FUEL 0
set_option maxRecDepth 100000 in
set_option maxHeartbeats 2000000 in
theorem l_X6_slotOf_b2 {X : Cx} {V : Vx} {A : Nat → Prop} {adV : Nat → Nat} {c0 s0 : Nat} (hC : Cok X V A yX6_slotOf.cls cX6_slotOf 3) (hE : Env0 V adV A (xs X) (xs X).heap) (hl : (xl X).stackTraces = false) (hx : ∀ x ∈ (xc X).exceptionTable.toList, False) (hr : (xh X).sig.returnType = some .int) (q1 : Nat) (x2 : Int32) (hq1 : isTh q1) (s : Mem) (kf2 : Int32 → Option Int32) (hk2 : ∀ a, LX X V A 30 500 c0 s0 (FM X V A (fun x => some (.int x))) 2 [(0, .ref q1), (1, .int x2), (2, .int a)] [] s (pur s (kf2 a))) (w2 : Int32) : LX X V A 30 500 c0 s0 (FM X V A (fun x => some (.int x))) 2 [(0, .ref q1), (1, .int x2), (2, .int w2)] [] s (pur s (m_X6_slotOf_b2 q1 x2 s kf2 w2 )) := by
  unfold m_X6_slotOf_b2
  refine lx_iload_n hC dX6_slotOf_2 rfl 2 rfl ?_
  refine lx_aload_n hC dX6_slotOf_3 rfl 0 rfl ?_
  refine lx_getI hC (th_o hq1) rfl 9 (by decide) rfl inX6 wd174 dX6_slotOf_4 ?_
  refine lq_icmp_ge hC 28 dX6_slotOf_7 (by decide) ?_ ?_
  · skip
    refine lx_iconstv (v := (-1)) hC dX6_slotOf_28 rfl ?_
    exact lx_iret hC rfl hr dX6_slotOf_29
  · skip
    refine lx_aload_n hC dX6_slotOf_10 rfl 0 rfl ?_
    refine lx_getR (q := q1 + 384) hC (th_o hq1) rfl 5 (by decide) rfl rfl inX6 wd159 dX6_slotOf_11 ?_
    refine lx_iload_n hC dX6_slotOf_14 rfl 2 rfl ?_
    refine lq_iaload hC (th_a5 hq1) dX6_slotOf_15 ?_
    refine lx_iload_n hC dX6_slotOf_16 rfl 1 rfl ?_
    refine lq_icmp_ne hC 22 dX6_slotOf_17 (by decide) ?_ ?_
    · skip
      refine lq_iincN (v := 1) hC dX6_slotOf_22 2 rfl (by decide) rfl (fun y3 => ?_)
      refine lx_goto hC 2 dX6_slotOf_25 (by decide) ?_
      exact lx_sub [1, 2, 0] rfl (hk2 y3)
    · skip
      refine lx_iload_n hC dX6_slotOf_20 rfl 2 rfl ?_
      exact lx_iret hC rfl hr dX6_slotOf_21
set_option maxRecDepth 100000 in
set_option maxHeartbeats 2000000 in
theorem sat_X6_slotOf (l : Launch) (hl : l.stackTraces = false) (t : Nat) (p0 : Int32) (ht : isTh t) (s : Mem) : Sat l yX6_slotOf (.code yX6_slotOf cX6_slotOf 3 (some .int)) 30 500 (fun x => some (.int x)) [.ref t, .int p0] s (pur s (m_X6_slotOf t p0 s)) := by
  refine sat_of hl (by decide) (Nat.le_of_ble_eq_true rfl) (fun X V A adV hxl hC hE hx hr => ?_) pur_mono
  subst hxl
  show LX X V A 30 500 (nC s) (nS s) _ 0 [(0, .ref t), (1, .int p0)] [] s _
  unfold m_X6_slotOf
  refine lx_iconstv (v := 0) hC dX6_slotOf_0 rfl ?_
  refine lx_istore_n hC dX6_slotOf_1 rfl (by decide) ?_
  refine lx_sub [1, 2, 0] rfl ?_
  exact lq_lp (lv := fun a => [(0, .ref t), (1, .int p0), (2, .int a)]) (st := fun _ => []) (fun kf hq a => l_X6_slotOf_b2 hC hE hl hx hr t p0 ht s kf hq a) FUEL 0
