def m_X8_nameRow (p0 : Int32) (p1 : Int32) (s : Mem) : Res Int32 := vl (pI s 8 0 0) (fun s1 => bindP (m_X8_notName p0 p1 s1) (fun v2 => if v2 = 0 then (bindR (m_X8_remembers s1) (fun v3 s4 => bindR (m_X8_names p0 p1 s4) (fun v5 s6 => some (.inl v5, s6)))) else (bindR (m_X8_fails v2 s1) (fun v7 s8 => some (.inl v7, s8)))))
set_option maxRecDepth 100000 in
set_option maxHeartbeats 2000000 in
theorem n_X8_nameRow (p0 : Int32) (p1 : Int32) (s : Mem) : Mn s (m_X8_nameRow p0 p1 s) := by
  unfold m_X8_nameRow
  refine mn_put (fun s1 => ?_)
  refine mn_bindP (fun v2 => ?_)
  refine mn_if ?_ ?_
  · skip
    refine mn_bind (n_X8_remembers s1) (fun v3 s4 => ?_)
    refine mn_bind (n_X8_names p0 p1 s4) (fun v5 s6 => ?_)
    exact mn_some
  · skip
    refine mn_bind (n_X8_fails v2 s1) (fun v7 s8 => ?_)
    exact mn_some
set_option maxRecDepth 100000 in
set_option maxHeartbeats 2000000 in
theorem sat_X8_nameRow (l : Launch) (hl : l.stackTraces = false) (p0 : Int32) (p1 : Int32) (s : Mem) : Sat l yX8_nameRow (.code yX8_nameRow cX8_nameRow 4 (some .int)) 33 565 (fun x => some (.int x)) [.ref 8, .int p0, .int p1] s (m_X8_nameRow p0 p1 s) := by
  refine sat_of hl (by decide) (Nat.le_of_ble_eq_true rfl) (fun X V A adV hxl hC hE hx hr => ?_) (n_X8_nameRow p0 p1 s)
  subst hxl
  show LX X V A 33 565 (nC s) (nS s) _ 0 [(0, .ref 8), (1, .int p0), (2, .int p1)] [] s _
  unfold m_X8_nameRow
  refine lx_aload_n hC dX8_nameRow_0 rfl 0 rfl ?_
  refine lx_iconstv (v := 0) hC dX8_nameRow_1 rfl ?_
  refine lx_putI hC ly8 rfl 0 (by decide) rfl tyX8 tyX8_ok nmX8 rfl rfl rfl inX8 wd1605 dX8_nameRow_2 (fun s1 => ?_)
  refine lx_aload_n hC dX8_nameRow_5 rfl 0 rfl ?_
  refine lx_iload_n hC dX8_nameRow_6 rfl 1 rfl ?_
  refine lx_iload_n hC dX8_nameRow_7 rfl 2 rfl ?_
  refine lx_callP hC hx (sat_X8_notName (xl X) hl p0 p1 s1) (run_V (as := [.int p0, .int p1]) (rest := []) hC hE ly8 rfl cw_X8_notName ci_X8_notName wd1844 cs_X8_notName ce_X8_notName cd_X8_notName (by decide) (by decide) (Nat.le_of_ble_eq_true rfl) dX8_nameRow_8 rfl) (fun v2 _ => ?_)
  refine lx_istore_n hC dX8_nameRow_11 rfl (by decide) ?_
  refine lx_iload_n hC dX8_nameRow_12 rfl 0 rfl ?_
  refine lx_if_eq hC 22 dX8_nameRow_13 (by decide) ?_ ?_
  · skip
    refine lx_aload_n hC dX8_nameRow_22 rfl 1 rfl ?_
    refine lx_callX hC hx (sat_X8_remembers (xl X) hl s1) (run_V (as := []) (rest := []) hC hE ly8 rfl cw_X8_remembers ci_X8_remembers wd1680 cs_X8_remembers ce_X8_remembers cd_X8_remembers (by decide) (by decide) (Nat.le_of_ble_eq_true rfl) dX8_nameRow_23 rfl) (fun v3 s4 _ => ?_)
    refine lx_aload_n hC dX8_nameRow_26 rfl 1 rfl ?_
    refine lx_iload_n hC dX8_nameRow_27 rfl 2 rfl ?_
    refine lx_iload_n hC dX8_nameRow_28 rfl 3 rfl ?_
    refine lx_callX hC hx (sat_X8_names (xl X) hl p0 p1 s4) (run_V (as := [.int p0, .int p1]) (rest := []) hC hE ly8 rfl cw_X8_names ci_X8_names wd1851 cs_X8_names ce_X8_names cd_X8_names (by decide) (by decide) (Nat.le_of_ble_eq_true rfl) dX8_nameRow_29 rfl) (fun v5 s6 _ => ?_)
    exact lx_iret hC rfl hr dX8_nameRow_32
  · skip
    refine lx_aload_n hC dX8_nameRow_16 rfl 1 rfl ?_
    refine lx_iload_n hC dX8_nameRow_17 rfl 0 rfl ?_
    refine lx_callX hC hx (sat_X8_fails (xl X) hl v2 s1) (run_V (as := [.int v2]) (rest := []) hC hE ly8 rfl cw_X8_fails ci_X8_fails wd1676 cs_X8_fails ce_X8_fails cd_X8_fails (by decide) (by decide) (Nat.le_of_ble_eq_true rfl) dX8_nameRow_18 rfl) (fun v7 s8 _ => ?_)
    exact lx_iret hC rfl hr dX8_nameRow_21
def m_X8_loudestIn_j33 (x1 : Int32) (x4 : Int32) (x5 : Int32) (x6 : Int32) (s : Mem) (kf4 : (Int32 × Int32) → Option Int32) : Option Int32 := if x6 = 0 then (vl (x5 + 1) (fun y7 => kf4 (x4, y7))) else (if x4 < 0 then (vl (x5 + 1) (fun y8 => kf4 (x5, y8))) else (bindO (m_X8_is x5 2 s) (fun v9 => bindO (m_X8_is x4 2 s) (fun v10 => if v9 ≤ v10 then (vl (x5 + 1) (fun y11 => kf4 (x4, y11))) else (vl (x5 + 1) (fun y12 => kf4 (x5, y12)))))))
def m_X8_loudestIn_j28 (x1 : Int32) (x2 : Int32) (x3 : Int32) (s : Mem) (kf4 : (Int32 × Int32) → Option Int32) : Option Int32 := m_X8_loudestIn_j33 x1 x2 x3 1 s kf4 
def m_X8_loudestIn_b4 (x1 : Int32) (s : Mem) (kf4 : (Int32 × Int32) → Option Int32) (w2 : Int32) (w3 : Int32) : Option Int32 := if ib 1 135 then if gI s 136 1.toNatClampNeg ≤ w3 then (some w2) else (if x1 < 0 then (m_X8_loudestIn_j28 x1 w2 w3 s kf4 ) else (bindO (m_X8_is w3 1 s) (fun v18 => if ¬ v18 = x1 then (m_X8_loudestIn_j33 x1 w2 w3 0 s kf4 ) else (m_X8_loudestIn_j28 x1 w2 w3 s kf4 )))) else none
def m_X8_loudestIn (p0 : Int32) (s : Mem) : Option Int32 := lpO (fun kf4 a => m_X8_loudestIn_b4 p0 s kf4 a.1 a.2) FUEL ((-1), 0)
set_option maxRecDepth 100000 in
set_option maxHeartbeats 2000000 in
theorem l_X8_loudestIn_j33 {X : Cx} {V : Vx} {A : Nat → Prop} {adV : Nat → Nat} {c0 s0 : Nat} (hC : Cok X V A yX8_loudestIn.cls cX8_loudestIn 5) (hE : Env0 V adV A (xs X) (xs X).heap) (hl : (xl X).stackTraces = false) (hx : ∀ x ∈ (xc X).exceptionTable.toList, False) (hr : (xh X).sig.returnType = some .int) (x1 : Int32) (x4 : Int32) (x5 : Int32) (x6 : Int32) (s : Mem) (kf4 : (Int32 × Int32) → Option Int32) (hk4 : ∀ a, LX X V A 31 522 c0 s0 (FM X V A (fun x => some (.int x))) 4 [(0, .ref 8), (1, .int x1), (2, .int a.1), (3, .int a.2)] [] s (pur s (kf4 a))) : LX X V A 31 522 c0 s0 (FM X V A (fun x => some (.int x))) 33 [(0, .ref 8), (1, .int x1), (2, .int x4), (3, .int x5)] [.int x6] s (pur s (m_X8_loudestIn_j33 x1 x4 x5 x6 s kf4 )) := by
  unfold m_X8_loudestIn_j33
  refine lx_istore hC dX8_loudestIn_33 (by decide) ?_
  refine lx_iload hC dX8_loudestIn_35 0 rfl ?_
  refine lq_if_eq hC 61 dX8_loudestIn_37 (by decide) ?_ ?_
  · skip
    refine lq_iincN (v := 1) hC dX8_loudestIn_61 4 rfl (by decide) rfl (fun y7 => ?_)
    refine lx_goto hC 4 dX8_loudestIn_64 (by decide) ?_
    exact lx_sub [2, 3, 4, 0] rfl (hk4 (x4, y7))
  · skip
    refine lx_iload_n hC dX8_loudestIn_40 rfl 3 rfl ?_
    refine lq_if_lt hC 59 dX8_loudestIn_41 (by decide) ?_ ?_
    · skip
      refine lx_iload_n hC dX8_loudestIn_59 rfl 4 rfl ?_
      refine lx_istore_n hC dX8_loudestIn_60 rfl (by decide) ?_
      refine lq_iincN (v := 1) hC dX8_loudestIn_61 4 rfl (by decide) rfl (fun y8 => ?_)
      refine lx_goto hC 4 dX8_loudestIn_64 (by decide) ?_
      exact lx_sub [3, 4, 1, 0] rfl (hk4 (x5, y8))
    · skip
      refine lx_aload_n hC dX8_loudestIn_44 rfl 1 rfl ?_
      refine lx_iload_n hC dX8_loudestIn_45 rfl 4 rfl ?_
      refine lx_iconstv (v := 2) hC dX8_loudestIn_46 rfl ?_
      refine lq_call hC hx (sat_X8_is (xl X) hl x5 2 s) (run_V (as := [.int x5, .int 2]) (rest := []) hC hE ly8 rfl cw_X8_is ci_X8_is wd1740 cs_X8_is ce_X8_is cd_X8_is (by decide) (by decide) (Nat.le_of_ble_eq_true rfl) dX8_loudestIn_47 rfl) (fun v9 _ => ?_)
      refine lx_aload_n hC dX8_loudestIn_50 rfl 1 rfl ?_
      refine lx_iload_n hC dX8_loudestIn_51 rfl 3 rfl ?_
      refine lx_iconstv (v := 2) hC dX8_loudestIn_52 rfl ?_
      refine lq_call hC hx (sat_X8_is (xl X) hl x4 2 s) (run_V (as := [.int x4, .int 2]) (rest := [.int v9]) hC hE ly8 rfl cw_X8_is ci_X8_is wd1740 cs_X8_is ce_X8_is cd_X8_is (by decide) (by decide) (Nat.le_of_ble_eq_true rfl) dX8_loudestIn_53 rfl) (fun v10 _ => ?_)
      refine lq_icmp_le hC 61 dX8_loudestIn_56 (by decide) ?_ ?_
      · skip
        refine lq_iincN (v := 1) hC dX8_loudestIn_61 4 rfl (by decide) rfl (fun y11 => ?_)
        refine lx_goto hC 4 dX8_loudestIn_64 (by decide) ?_
        exact lx_sub [2, 3, 4, 0] rfl (hk4 (x4, y11))
      · skip
        refine lx_iload_n hC dX8_loudestIn_59 rfl 4 rfl ?_
        refine lx_istore_n hC dX8_loudestIn_60 rfl (by decide) ?_
        refine lq_iincN (v := 1) hC dX8_loudestIn_61 4 rfl (by decide) rfl (fun y12 => ?_)
        refine lx_goto hC 4 dX8_loudestIn_64 (by decide) ?_
        exact lx_sub [3, 4, 1, 0] rfl (hk4 (x5, y12))
set_option maxRecDepth 100000 in
set_option maxHeartbeats 2000000 in
theorem l_X8_loudestIn_j28 {X : Cx} {V : Vx} {A : Nat → Prop} {adV : Nat → Nat} {c0 s0 : Nat} (hC : Cok X V A yX8_loudestIn.cls cX8_loudestIn 5) (hE : Env0 V adV A (xs X) (xs X).heap) (hl : (xl X).stackTraces = false) (hx : ∀ x ∈ (xc X).exceptionTable.toList, False) (hr : (xh X).sig.returnType = some .int) (x1 : Int32) (x2 : Int32) (x3 : Int32) (s : Mem) (kf4 : (Int32 × Int32) → Option Int32) (hk4 : ∀ a, LX X V A 31 522 c0 s0 (FM X V A (fun x => some (.int x))) 4 [(0, .ref 8), (1, .int x1), (2, .int a.1), (3, .int a.2)] [] s (pur s (kf4 a))) : LX X V A 31 522 c0 s0 (FM X V A (fun x => some (.int x))) 28 [(0, .ref 8), (1, .int x1), (2, .int x2), (3, .int x3)] [] s (pur s (m_X8_loudestIn_j28 x1 x2 x3 s kf4 )) := by
  unfold m_X8_loudestIn_j28
  refine lx_iconstv (v := 1) hC dX8_loudestIn_28 rfl ?_
  refine lx_goto hC 33 dX8_loudestIn_29 (by decide) ?_
  exact lx_sub [0, 1, 2, 3] rfl (l_X8_loudestIn_j33 hC hE hl hx hr x1 x2 x3 1 s kf4 hk4 )
set_option maxRecDepth 100000 in
set_option maxHeartbeats 2000000 in
theorem l_X8_loudestIn_b4 {X : Cx} {V : Vx} {A : Nat → Prop} {adV : Nat → Nat} {c0 s0 : Nat} (hC : Cok X V A yX8_loudestIn.cls cX8_loudestIn 5) (hE : Env0 V adV A (xs X) (xs X).heap) (hl : (xl X).stackTraces = false) (hx : ∀ x ∈ (xc X).exceptionTable.toList, False) (hr : (xh X).sig.returnType = some .int) (x1 : Int32) (s : Mem) (kf4 : (Int32 × Int32) → Option Int32) (hk4 : ∀ a, LX X V A 31 522 c0 s0 (FM X V A (fun x => some (.int x))) 4 [(0, .ref 8), (1, .int x1), (2, .int a.1), (3, .int a.2)] [] s (pur s (kf4 a))) (w2 : Int32) (w3 : Int32) : LX X V A 31 522 c0 s0 (FM X V A (fun x => some (.int x))) 4 [(0, .ref 8), (1, .int x1), (2, .int w2), (3, .int w3)] [] s (pur s (m_X8_loudestIn_b4 x1 s kf4 w2 w3 )) := by
  unfold m_X8_loudestIn_b4
  refine lx_iload_n hC dX8_loudestIn_4 rfl 3 rfl ?_
  refine lx_aload_n hC dX8_loudestIn_5 rfl 0 rfl ?_
  refine lx_getR (q := 136) hC ly8 rfl 1 (by decide) rfl rfl inX8 wd1606 dX8_loudestIn_6 ?_
  refine lx_iconstv (v := 1) hC dX8_loudestIn_9 rfl ?_
  refine lq_iaload hC ly136 dX8_loudestIn_10 ?_
  refine lq_icmp_ge hC 67 dX8_loudestIn_11 (by decide) ?_ ?_
  · skip
    refine lx_iload_n hC dX8_loudestIn_67 rfl 2 rfl ?_
    exact lx_iret hC rfl hr dX8_loudestIn_68
  · skip
    refine lx_iload_n hC dX8_loudestIn_14 rfl 1 rfl ?_
    refine lq_if_lt hC 28 dX8_loudestIn_15 (by decide) ?_ ?_
    · skip
      exact lx_sub [0, 1, 2, 3] rfl (l_X8_loudestIn_j28 hC hE hl hx hr x1 w2 w3 s kf4 hk4 )
    · skip
      refine lx_aload_n hC dX8_loudestIn_18 rfl 0 rfl ?_
      refine lx_iload_n hC dX8_loudestIn_19 rfl 3 rfl ?_
      refine lx_iconstv (v := 1) hC dX8_loudestIn_20 rfl ?_
      refine lq_call hC hx (sat_X8_is (xl X) hl w3 1 s) (run_V (as := [.int w3, .int 1]) (rest := []) hC hE ly8 rfl cw_X8_is ci_X8_is wd1740 cs_X8_is ce_X8_is cd_X8_is (by decide) (by decide) (Nat.le_of_ble_eq_true rfl) dX8_loudestIn_21 rfl) (fun v18 _ => ?_)
      refine lx_iload_n hC dX8_loudestIn_24 rfl 1 rfl ?_
      refine lq_icmp_ne hC 32 dX8_loudestIn_25 (by decide) ?_ ?_
      · skip
        refine lx_iconstv (v := 0) hC dX8_loudestIn_32 rfl ?_
        exact lx_sub [0, 1, 2, 3] rfl (l_X8_loudestIn_j33 hC hE hl hx hr x1 w2 w3 0 s kf4 hk4 )
      · skip
        exact lx_sub [0, 1, 2, 3] rfl (l_X8_loudestIn_j28 hC hE hl hx hr x1 w2 w3 s kf4 hk4 )
set_option maxRecDepth 100000 in
set_option maxHeartbeats 2000000 in
theorem sat_X8_loudestIn (l : Launch) (hl : l.stackTraces = false) (p0 : Int32) (s : Mem) : Sat l yX8_loudestIn (.code yX8_loudestIn cX8_loudestIn 5 (some .int)) 31 522 (fun x => some (.int x)) [.ref 8, .int p0] s (pur s (m_X8_loudestIn p0 s)) := by
  refine sat_of hl (by decide) (Nat.le_of_ble_eq_true rfl) (fun X V A adV hxl hC hE hx hr => ?_) pur_mono
  subst hxl
  show LX X V A 31 522 (nC s) (nS s) _ 0 [(0, .ref 8), (1, .int p0)] [] s _
  unfold m_X8_loudestIn
  refine lx_iconstv (v := (-1)) hC dX8_loudestIn_0 rfl ?_
  refine lx_istore_n hC dX8_loudestIn_1 rfl (by decide) ?_
  refine lx_iconstv (v := 0) hC dX8_loudestIn_2 rfl ?_
  refine lx_istore_n hC dX8_loudestIn_3 rfl (by decide) ?_
  refine lx_sub [2, 3, 1, 0] rfl ?_
  exact lq_lp (lv := fun a => [(0, .ref 8), (1, .int p0), (2, .int a.1), (3, .int a.2)]) (st := fun _ => []) (fun kf hq a => l_X8_loudestIn_b4 hC hE hl hx hr p0 s kf hq a.1 a.2) FUEL ((-1), 0)
def m_X8_notSpread (p0 : Int32) (s : Mem) : Option Int32 := bindO (m_X8_isRow p0 s) (fun v1 => if ¬ v1 = 0 then (bindO (m_X8_isLockedRow p0 s) (fun v2 => if v2 = 0 then (some 0) else (some 2))) else (some 1))
set_option maxRecDepth 100000 in
set_option maxHeartbeats 2000000 in
theorem sat_X8_notSpread (l : Launch) (hl : l.stackTraces = false) (p0 : Int32) (s : Mem) : Sat l yX8_notSpread (.code yX8_notSpread cX8_notSpread 2 (some .int)) 32 543 (fun x => some (.int x)) [.ref 8, .int p0] s (pur s (m_X8_notSpread p0 s)) := by
  refine sat_of hl (by decide) (Nat.le_of_ble_eq_true rfl) (fun X V A adV hxl hC hE hx hr => ?_) pur_mono
  subst hxl
  show LX X V A 32 543 (nC s) (nS s) _ 0 [(0, .ref 8), (1, .int p0)] [] s _
  unfold m_X8_notSpread
  refine lx_aload_n hC dX8_notSpread_0 rfl 0 rfl ?_
  refine lx_iload_n hC dX8_notSpread_1 rfl 1 rfl ?_
  refine lq_call hC hx (sat_X8_isRow (xl X) hl p0 s) (run_V (as := [.int p0]) (rest := []) hC hE ly8 rfl cw_X8_isRow ci_X8_isRow wd1708 cs_X8_isRow ce_X8_isRow cd_X8_isRow (by decide) (by decide) (Nat.le_of_ble_eq_true rfl) dX8_notSpread_2 rfl) (fun v1 _ => ?_)
  refine lq_if_ne hC 10 dX8_notSpread_5 (by decide) ?_ ?_
  · skip
    refine lx_aload_n hC dX8_notSpread_10 rfl 0 rfl ?_
    refine lx_iload_n hC dX8_notSpread_11 rfl 1 rfl ?_
    refine lq_call hC hx (sat_X8_isLockedRow (xl X) hl p0 s) (run_V (as := [.int p0]) (rest := []) hC hE ly8 rfl cw_X8_isLockedRow ci_X8_isLockedRow wd1712 cs_X8_isLockedRow ce_X8_isLockedRow cd_X8_isLockedRow (by decide) (by decide) (Nat.le_of_ble_eq_true rfl) dX8_notSpread_12 rfl) (fun v2 _ => ?_)
    refine lq_if_eq hC 22 dX8_notSpread_15 (by decide) ?_ ?_
    · skip
      refine lx_iconstv (v := 0) hC dX8_notSpread_22 rfl ?_
      exact lx_iret hC rfl hr dX8_notSpread_23
    · skip
      refine lx_iconstv (v := 2) hC dX8_notSpread_18 rfl ?_
      refine lx_goto hC 23 dX8_notSpread_19 (by decide) ?_
      exact lx_iret hC rfl hr dX8_notSpread_23
  · skip
    refine lx_iconstv (v := 1) hC dX8_notSpread_8 rfl ?_
    exact lx_iret hC rfl hr dX8_notSpread_9
def m_X8_rowFor_b2 (x1 : Int32) (s : Mem) (kf2 : Int32 → Option Int32) (w2 : Int32) : Option Int32 := if ib 0 135 then if gI s 136 0.toNatClampNeg ≤ w2 then (some (-1)) else (if ib 0 135 then if ¬ (gI s 136 0.toNatClampNeg) = 0 then vl ((x1 + w2) - (x1 + w2) / (gI s 136 0.toNatClampNeg) * (gI s 136 0.toNatClampNeg)) (fun y3 => bindO (m_X8_isLockedRow y3 s) (fun v4 => if ¬ v4 = 0 then (vl (w2 + 1) (fun y5 => kf2 y5)) else (bindO (m_X8_countIn y3 s) (fun v6 => bindO (m_X8_of y3 0 s) (fun v7 => if v7 ≤ v6 then (vl (w2 + 1) (fun y8 => kf2 y8)) else (some y3)))))) else none else none) else none
def m_X8_rowFor (p0 : Int32) (s : Mem) : Option Int32 := lpO (fun kf2 a => m_X8_rowFor_b2 p0 s kf2 a) FUEL 1
set_option maxRecDepth 100000 in
set_option maxHeartbeats 2000000 in
theorem l_X8_rowFor_b2 {X : Cx} {V : Vx} {A : Nat → Prop} {adV : Nat → Nat} {c0 s0 : Nat} (hC : Cok X V A yX8_rowFor.cls cX8_rowFor 4) (hE : Env0 V adV A (xs X) (xs X).heap) (hl : (xl X).stackTraces = false) (hx : ∀ x ∈ (xc X).exceptionTable.toList, False) (hr : (xh X).sig.returnType = some .int) (x1 : Int32) (s : Mem) (kf2 : Int32 → Option Int32) (hk2 : ∀ a, LX X V A 32 545 c0 s0 (FM X V A (fun x => some (.int x))) 2 [(0, .ref 8), (1, .int x1), (2, .int a)] [] s (pur s (kf2 a))) (w2 : Int32) : LX X V A 32 545 c0 s0 (FM X V A (fun x => some (.int x))) 2 [(0, .ref 8), (1, .int x1), (2, .int w2)] [] s (pur s (m_X8_rowFor_b2 x1 s kf2 w2 )) := by
  unfold m_X8_rowFor_b2
  refine lx_iload_n hC dX8_rowFor_2 rfl 2 rfl ?_
  refine lx_aload_n hC dX8_rowFor_3 rfl 0 rfl ?_
  refine lx_getR (q := 136) hC ly8 rfl 1 (by decide) rfl rfl inX8 wd1606 dX8_rowFor_4 ?_
  refine lx_iconstv (v := 0) hC dX8_rowFor_7 rfl ?_
  refine lq_iaload hC ly136 dX8_rowFor_8 ?_
  refine lq_icmp_ge hC 53 dX8_rowFor_9 (by decide) ?_ ?_
  · skip
    refine lx_iconstv (v := (-1)) hC dX8_rowFor_53 rfl ?_
    exact lx_iret hC rfl hr dX8_rowFor_54
  · skip
    refine lx_iload_n hC dX8_rowFor_12 rfl 1 rfl ?_
    refine lx_iload_n hC dX8_rowFor_13 rfl 2 rfl ?_
    refine lx_iadd hC dX8_rowFor_14 ?_
    refine lx_aload_n hC dX8_rowFor_15 rfl 0 rfl ?_
    refine lx_getR (q := 136) hC ly8 rfl 1 (by decide) rfl rfl inX8 wd1606 dX8_rowFor_16 ?_
    refine lx_iconstv (v := 0) hC dX8_rowFor_19 rfl ?_
    refine lq_iaload hC ly136 dX8_rowFor_20 ?_
    refine lq_g fun h2 => lx_irem hC dX8_rowFor_21 h2 ?_
    refine lq_istore_nN hC dX8_rowFor_22 rfl (by decide) (fun y3 => ?_)
    refine lx_aload_n hC dX8_rowFor_23 rfl 1 rfl ?_
    refine lx_iload_n hC dX8_rowFor_24 rfl 0 rfl ?_
    refine lq_call hC hx (sat_X8_isLockedRow (xl X) hl y3 s) (run_V (as := [.int y3]) (rest := []) hC hE ly8 rfl cw_X8_isLockedRow ci_X8_isLockedRow wd1712 cs_X8_isLockedRow ce_X8_isLockedRow cd_X8_isLockedRow (by decide) (by decide) (Nat.le_of_ble_eq_true rfl) dX8_rowFor_25 rfl) (fun v4 _ => ?_)
    refine lq_if_ne hC 47 dX8_rowFor_28 (by decide) ?_ ?_
    · skip
      refine lq_iincN (v := 1) hC dX8_rowFor_47 3 rfl (by decide) rfl (fun y5 => ?_)
      refine lx_goto hC 2 dX8_rowFor_50 (by decide) ?_
      exact lx_sub [2, 3, 0] rfl (hk2 y5)
    · skip
      refine lx_aload_n hC dX8_rowFor_31 rfl 1 rfl ?_
      refine lx_iload_n hC dX8_rowFor_32 rfl 0 rfl ?_
      refine lq_call hC hx (sat_X8_countIn (xl X) hl y3 s) (run_V (as := [.int y3]) (rest := []) hC hE ly8 rfl cw_X8_countIn ci_X8_countIn wd1736 cs_X8_countIn ce_X8_countIn cd_X8_countIn (by decide) (by decide) (Nat.le_of_ble_eq_true rfl) dX8_rowFor_33 rfl) (fun v6 _ => ?_)
      refine lx_aload_n hC dX8_rowFor_36 rfl 1 rfl ?_
      refine lx_iload_n hC dX8_rowFor_37 rfl 0 rfl ?_
      refine lx_iconstv (v := 0) hC dX8_rowFor_38 rfl ?_
      refine lq_call hC hx (sat_X8_of (xl X) hl y3 0 s) (run_V (as := [.int y3, .int 0]) (rest := [.int v6]) hC hE ly8 rfl cw_X8_of ci_X8_of wd1716 cs_X8_of ce_X8_of cd_X8_of (by decide) (by decide) (Nat.le_of_ble_eq_true rfl) dX8_rowFor_39 rfl) (fun v7 _ => ?_)
      refine lq_icmp_ge hC 47 dX8_rowFor_42 (by decide) ?_ ?_
      · skip
        refine lq_iincN (v := 1) hC dX8_rowFor_47 3 rfl (by decide) rfl (fun y8 => ?_)
        refine lx_goto hC 2 dX8_rowFor_50 (by decide) ?_
        exact lx_sub [2, 3, 0] rfl (hk2 y8)
      · skip
        refine lx_iload_n hC dX8_rowFor_45 rfl 0 rfl ?_
        exact lx_iret hC rfl hr dX8_rowFor_46
set_option maxRecDepth 100000 in
set_option maxHeartbeats 2000000 in
theorem sat_X8_rowFor (l : Launch) (hl : l.stackTraces = false) (p0 : Int32) (s : Mem) : Sat l yX8_rowFor (.code yX8_rowFor cX8_rowFor 4 (some .int)) 32 545 (fun x => some (.int x)) [.ref 8, .int p0] s (pur s (m_X8_rowFor p0 s)) := by
  refine sat_of hl (by decide) (Nat.le_of_ble_eq_true rfl) (fun X V A adV hxl hC hE hx hr => ?_) pur_mono
  subst hxl
  show LX X V A 32 545 (nC s) (nS s) _ 0 [(0, .ref 8), (1, .int p0)] [] s _
  unfold m_X8_rowFor
  refine lx_iconstv (v := 1) hC dX8_rowFor_0 rfl ?_
  refine lx_istore_n hC dX8_rowFor_1 rfl (by decide) ?_
  refine lx_sub [1, 2, 0] rfl ?_
  exact lq_lp (lv := fun a => [(0, .ref 8), (1, .int p0), (2, .int a)]) (st := fun _ => []) (fun kf hq a => l_X8_rowFor_b2 hC hE hl hx hr p0 s kf hq a) FUEL 1
def m_X8_spreads_b2 (x1 : Int32) (s : Mem) (kf2 : (Int32 × Mem) → Res Int32) (w2 : Int32) : Res Int32 := bindP (m_X8_isCrowdedRow x1 s) (fun v2 => if v2 = 0 then (some (.inl w2, s)) else (bindP (m_X8_rowFor x1 s) (fun v3 => if v3 < 0 then (some (.inl w2, s)) else (bindP (m_X8_loudestIn x1 s) (fun v4 => bindP (m_X8_rowFor x1 s) (fun v5 => bindR (m_X8_sets v4 1 v5 s) (fun v6 s7 => if ib 3 135 then if ib 3 135 then vl (pI s7 136 3.toNatClampNeg ((gI s7 136 3.toNatClampNeg) + 1)) (fun s8 => vl (w2 + 1) (fun y9 => kf2 (y9, s8))) else none else none)))))))
def m_X8_spreads (p0 : Int32) (s : Mem) : Res Int32 := lp (fun kf2 a => m_X8_spreads_b2 p0 a.2 kf2 a.1) FUEL (0, s)
set_option maxRecDepth 100000 in
set_option maxHeartbeats 2000000 in
theorem l_X8_spreads_b2 {X : Cx} {V : Vx} {A : Nat → Prop} {adV : Nat → Nat} {c0 s0 : Nat} (hC : Cok X V A yX8_spreads.cls cX8_spreads 3) (hE : Env0 V adV A (xs X) (xs X).heap) (hl : (xl X).stackTraces = false) (hx : ∀ x ∈ (xc X).exceptionTable.toList, False) (hr : (xh X).sig.returnType = some .int) (x1 : Int32) (s : Mem) (kf2 : (Int32 × Mem) → Res Int32) (hk2 : ∀ a, LX X V A 33 568 c0 s0 (FM X V A (fun x => some (.int x))) 2 [(0, .ref 8), (1, .int x1), (2, .int a.1)] [] a.2 (kf2 a)) (w2 : Int32) : LX X V A 33 568 c0 s0 (FM X V A (fun x => some (.int x))) 2 [(0, .ref 8), (1, .int x1), (2, .int w2)] [] s (m_X8_spreads_b2 x1 s kf2 w2 ) := by
  unfold m_X8_spreads_b2
  refine lx_aload_n hC dX8_spreads_2 rfl 0 rfl ?_
  refine lx_iload_n hC dX8_spreads_3 rfl 1 rfl ?_
  refine lx_callP hC hx (sat_X8_isCrowdedRow (xl X) hl x1 s) (run_V (as := [.int x1]) (rest := []) hC hE ly8 rfl cw_X8_isCrowdedRow ci_X8_isCrowdedRow wd1867 cs_X8_isCrowdedRow ce_X8_isCrowdedRow cd_X8_isCrowdedRow (by decide) (by decide) (Nat.le_of_ble_eq_true rfl) dX8_spreads_4 rfl) (fun v2 _ => ?_)
  refine lx_if_eq hC 49 dX8_spreads_7 (by decide) ?_ ?_
  · skip
    refine lx_iload_n hC dX8_spreads_49 rfl 2 rfl ?_
    exact lx_iret hC rfl hr dX8_spreads_50
  · skip
    refine lx_aload_n hC dX8_spreads_10 rfl 0 rfl ?_
    refine lx_iload_n hC dX8_spreads_11 rfl 1 rfl ?_
    refine lx_callP hC hx (sat_X8_rowFor (xl X) hl x1 s) (run_V (as := [.int x1]) (rest := []) hC hE ly8 rfl cw_X8_rowFor ci_X8_rowFor wd1871 cs_X8_rowFor ce_X8_rowFor cd_X8_rowFor (by decide) (by decide) (Nat.le_of_ble_eq_true rfl) dX8_spreads_12 rfl) (fun v3 _ => ?_)
    refine lx_if_lt hC 49 dX8_spreads_15 (by decide) ?_ ?_
    · skip
      refine lx_iload_n hC dX8_spreads_49 rfl 2 rfl ?_
      exact lx_iret hC rfl hr dX8_spreads_50
    · skip
      refine lx_aload_n hC dX8_spreads_18 rfl 0 rfl ?_
      refine lx_aload_n hC dX8_spreads_19 rfl 0 rfl ?_
      refine lx_iload_n hC dX8_spreads_20 rfl 1 rfl ?_
      refine lx_callP hC hx (sat_X8_loudestIn (xl X) hl x1 s) (run_V (as := [.int x1]) (rest := [.ref 8]) hC hE ly8 rfl cw_X8_loudestIn ci_X8_loudestIn wd1875 cs_X8_loudestIn ce_X8_loudestIn cd_X8_loudestIn (by decide) (by decide) (Nat.le_of_ble_eq_true rfl) dX8_spreads_21 rfl) (fun v4 _ => ?_)
      refine lx_iconstv (v := 1) hC dX8_spreads_24 rfl ?_
      refine lx_aload_n hC dX8_spreads_25 rfl 0 rfl ?_
      refine lx_iload_n hC dX8_spreads_26 rfl 1 rfl ?_
      refine lx_callP hC hx (sat_X8_rowFor (xl X) hl x1 s) (run_V (as := [.int x1]) (rest := [.int 1, .int v4, .ref 8]) hC hE ly8 rfl cw_X8_rowFor ci_X8_rowFor wd1871 cs_X8_rowFor ce_X8_rowFor cd_X8_rowFor (by decide) (by decide) (Nat.le_of_ble_eq_true rfl) dX8_spreads_27 rfl) (fun v5 _ => ?_)
      refine lx_callX hC hx (sat_X8_sets (xl X) hl v4 1 v5 s) (run_V (as := [.int v4, .int 1, .int v5]) (rest := []) hC hE ly8 rfl cw_X8_sets ci_X8_sets wd1756 cs_X8_sets ce_X8_sets cd_X8_sets (by decide) (by decide) (Nat.le_of_ble_eq_true rfl) dX8_spreads_30 rfl) (fun v6 s7 _ => ?_)
      refine lx_aload_n hC dX8_spreads_33 rfl 0 rfl ?_
      refine lx_getR (q := 136) hC ly8 rfl 1 (by decide) rfl rfl inX8 wd1606 dX8_spreads_34 ?_
      refine lx_iconstv (v := 3) hC dX8_spreads_37 rfl ?_
      refine lx_dup2ir hC dX8_spreads_38 ?_
      refine lx_iaload hC ly136 dX8_spreads_39 ?_
      refine lx_iconstv (v := 1) hC dX8_spreads_40 rfl ?_
      refine lx_iadd hC dX8_spreads_41 ?_
      refine lx_iastore hC ly136 dX8_spreads_42 (fun s8 => ?_)
      refine lx_iincN (v := 1) hC dX8_spreads_43 2 rfl (by decide) rfl (fun y9 => ?_)
      refine lx_goto hC 2 dX8_spreads_46 (by decide) ?_
      exact lx_sub [1, 2, 0] rfl (hk2 (y9, s8))
set_option maxRecDepth 100000 in
set_option maxHeartbeats 2000000 in
theorem n_X8_spreads_b2 (x1 : Int32) (s : Mem) (kf2 : (Int32 × Mem) → Res Int32) (hm2 : ∀ a, Mn a.2 (kf2 a)) (w2 : Int32) : Mn s (m_X8_spreads_b2 x1 s kf2 w2 ) := by
  unfold m_X8_spreads_b2
  refine mn_bindP (fun v2 => ?_)
  refine mn_if ?_ ?_
  · skip
    exact mn_some
  · skip
    refine mn_bindP (fun v3 => ?_)
    refine mn_if ?_ ?_
    · skip
      exact mn_some
    · skip
      refine mn_bindP (fun v4 => ?_)
      refine mn_bindP (fun v5 => ?_)
      refine mn_bind (n_X8_sets v4 1 v5 s) (fun v6 s7 => ?_)
      refine mn_if ?_ mn_none
      refine mn_if ?_ mn_none
      refine mn_put (fun s8 => ?_)
      refine mn_vl (fun y9 => ?_)
      exact hm2 (y9, s8)
set_option maxRecDepth 100000 in
set_option maxHeartbeats 2000000 in
theorem n_X8_spreads (p0 : Int32) (s : Mem) : Mn s (m_X8_spreads p0 s) := by
  unfold m_X8_spreads
  exact mn_lp (sg := fun a => a.2) (fun kf hq a => n_X8_spreads_b2 p0 a.2 kf hq a.1) FUEL (0, s)
set_option maxRecDepth 100000 in
set_option maxHeartbeats 2000000 in
theorem sat_X8_spreads (l : Launch) (hl : l.stackTraces = false) (p0 : Int32) (s : Mem) : Sat l yX8_spreads (.code yX8_spreads cX8_spreads 3 (some .int)) 33 568 (fun x => some (.int x)) [.ref 8, .int p0] s (m_X8_spreads p0 s) := by
  refine sat_of hl (by decide) (Nat.le_of_ble_eq_true rfl) (fun X V A adV hxl hC hE hx hr => ?_) (n_X8_spreads p0 s)
  subst hxl
  show LX X V A 33 568 (nC s) (nS s) _ 0 [(0, .ref 8), (1, .int p0)] [] s _
  unfold m_X8_spreads
  refine lx_iconstv (v := 0) hC dX8_spreads_0 rfl ?_
  refine lx_istore_n hC dX8_spreads_1 rfl (by decide) ?_
  refine lx_sub [1, 2, 0] rfl ?_
  exact lx_lp (lv := fun a => [(0, .ref 8), (1, .int p0), (2, .int a.1)]) (st := fun _ => []) (sg := fun a => a.2) (fun kf hq a => l_X8_spreads_b2 hC hE hl hx hr p0 a.2 kf hq a.1) FUEL (0, s)
def m_X8_spread (p0 : Int32) (s : Mem) : Res Int32 := vl (pI s 8 0 0) (fun s1 => bindP (m_X8_notSpread p0 s1) (fun v2 => if v2 = 0 then (bindR (m_X8_remembers s1) (fun v3 s4 => bindR (m_X8_spreads p0 s4) (fun v5 s6 => some (.inl v5, s6)))) else (bindR (m_X8_fails v2 s1) (fun v7 s8 => some (.inl v7, s8)))))
set_option maxRecDepth 100000 in
set_option maxHeartbeats 2000000 in
theorem n_X8_spread (p0 : Int32) (s : Mem) : Mn s (m_X8_spread p0 s) := by
  unfold m_X8_spread
  refine mn_put (fun s1 => ?_)
  refine mn_bindP (fun v2 => ?_)
  refine mn_if ?_ ?_
  · skip
    refine mn_bind (n_X8_remembers s1) (fun v3 s4 => ?_)
    refine mn_bind (n_X8_spreads p0 s4) (fun v5 s6 => ?_)
    exact mn_some
  · skip
    refine mn_bind (n_X8_fails v2 s1) (fun v7 s8 => ?_)
    exact mn_some
set_option maxRecDepth 100000 in
set_option maxHeartbeats 2000000 in
theorem sat_X8_spread (l : Launch) (hl : l.stackTraces = false) (p0 : Int32) (s : Mem) : Sat l yX8_spread (.code yX8_spread cX8_spread 3 (some .int)) 34 590 (fun x => some (.int x)) [.ref 8, .int p0] s (m_X8_spread p0 s) := by
  refine sat_of hl (by decide) (Nat.le_of_ble_eq_true rfl) (fun X V A adV hxl hC hE hx hr => ?_) (n_X8_spread p0 s)
  subst hxl
  show LX X V A 34 590 (nC s) (nS s) _ 0 [(0, .ref 8), (1, .int p0)] [] s _
  unfold m_X8_spread
  refine lx_aload_n hC dX8_spread_0 rfl 0 rfl ?_
  refine lx_iconstv (v := 0) hC dX8_spread_1 rfl ?_
  refine lx_putI hC ly8 rfl 0 (by decide) rfl tyX8 tyX8_ok nmX8 rfl rfl rfl inX8 wd1605 dX8_spread_2 (fun s1 => ?_)
  refine lx_aload_n hC dX8_spread_5 rfl 0 rfl ?_
  refine lx_iload_n hC dX8_spread_6 rfl 1 rfl ?_
  refine lx_callP hC hx (sat_X8_notSpread (xl X) hl p0 s1) (run_V (as := [.int p0]) (rest := []) hC hE ly8 rfl cw_X8_notSpread ci_X8_notSpread wd1859 cs_X8_notSpread ce_X8_notSpread cd_X8_notSpread (by decide) (by decide) (Nat.le_of_ble_eq_true rfl) dX8_spread_7 rfl) (fun v2 _ => ?_)
  refine lx_istore_n hC dX8_spread_10 rfl (by decide) ?_
  refine lx_iload_n hC dX8_spread_11 rfl 0 rfl ?_
  refine lx_if_eq hC 21 dX8_spread_12 (by decide) ?_ ?_
  · skip
    refine lx_aload_n hC dX8_spread_21 rfl 1 rfl ?_
    refine lx_callX hC hx (sat_X8_remembers (xl X) hl s1) (run_V (as := []) (rest := []) hC hE ly8 rfl cw_X8_remembers ci_X8_remembers wd1680 cs_X8_remembers ce_X8_remembers cd_X8_remembers (by decide) (by decide) (Nat.le_of_ble_eq_true rfl) dX8_spread_22 rfl) (fun v3 s4 _ => ?_)
    refine lx_aload_n hC dX8_spread_25 rfl 1 rfl ?_
    refine lx_iload_n hC dX8_spread_26 rfl 2 rfl ?_
    refine lx_callX hC hx (sat_X8_spreads (xl X) hl p0 s4) (run_V (as := [.int p0]) (rest := []) hC hE ly8 rfl cw_X8_spreads ci_X8_spreads wd1863 cs_X8_spreads ce_X8_spreads cd_X8_spreads (by decide) (by decide) (Nat.le_of_ble_eq_true rfl) dX8_spread_27 rfl) (fun v5 s6 _ => ?_)
    exact lx_iret hC rfl hr dX8_spread_30
  · skip
    refine lx_aload_n hC dX8_spread_15 rfl 1 rfl ?_
    refine lx_iload_n hC dX8_spread_16 rfl 0 rfl ?_
    refine lx_callX hC hx (sat_X8_fails (xl X) hl v2 s1) (run_V (as := [.int v2]) (rest := []) hC hE ly8 rfl cw_X8_fails ci_X8_fails wd1676 cs_X8_fails ce_X8_fails cd_X8_fails (by decide) (by decide) (Nat.le_of_ble_eq_true rfl) dX8_spread_17 rfl) (fun v7 s8 _ => ?_)
    exact lx_iret hC rfl hr dX8_spread_20
def m_X8_rowCount (s : Mem) : Res Int32 := vl (pI s 8 0 0) (fun s1 => if ib 0 135 then some (.inl (gI s1 136 0.toNatClampNeg), s1) else none)
set_option maxRecDepth 100000 in
set_option maxHeartbeats 2000000 in
theorem n_X8_rowCount (s : Mem) : Mn s (m_X8_rowCount s) := by
  unfold m_X8_rowCount
  refine mn_put (fun s1 => ?_)
  refine mn_if ?_ mn_none
  exact mn_some
set_option maxRecDepth 100000 in
set_option maxHeartbeats 2000000 in
theorem sat_X8_rowCount (l : Launch) (hl : l.stackTraces = false) (s : Mem) : Sat l yX8_rowCount (.code yX8_rowCount cX8_rowCount 1 (some .int)) 30 500 (fun x => some (.int x)) [.ref 8] s (m_X8_rowCount s) := by
  refine sat_of hl (by decide) (Nat.le_of_ble_eq_true rfl) (fun X V A adV hxl hC hE hx hr => ?_) (n_X8_rowCount s)
  subst hxl
  show LX X V A 30 500 (nC s) (nS s) _ 0 [(0, .ref 8)] [] s _
  unfold m_X8_rowCount
  refine lx_aload_n hC dX8_rowCount_0 rfl 0 rfl ?_
  refine lx_iconstv (v := 0) hC dX8_rowCount_1 rfl ?_
  refine lx_putI hC ly8 rfl 0 (by decide) rfl tyX8 tyX8_ok nmX8 rfl rfl rfl inX8 wd1605 dX8_rowCount_2 (fun s1 => ?_)
  refine lx_aload_n hC dX8_rowCount_5 rfl 0 rfl ?_
  refine lx_getR (q := 136) hC ly8 rfl 1 (by decide) rfl rfl inX8 wd1606 dX8_rowCount_6 ?_
  refine lx_iconstv (v := 0) hC dX8_rowCount_9 rfl ?_
  refine lx_iaload hC ly136 dX8_rowCount_10 ?_
  exact lx_iret hC rfl hr dX8_rowCount_11
def m_X8_capacity (p0 : Int32) (s : Mem) : Res Int32 := vl (pI s 8 0 0) (fun s1 => bindP (m_X8_isRow p0 s1) (fun v2 => if v2 = 0 then (bindR (m_X8_fails 1 s1) (fun v3 s4 => some (.inl v3, s4))) else (bindP (m_X8_of p0 0 s1) (fun v5 => some (.inl v5, s1)))))
set_option maxRecDepth 100000 in
set_option maxHeartbeats 2000000 in
theorem n_X8_capacity (p0 : Int32) (s : Mem) : Mn s (m_X8_capacity p0 s) := by
  unfold m_X8_capacity
  refine mn_put (fun s1 => ?_)
  refine mn_bindP (fun v2 => ?_)
  refine mn_if ?_ ?_
  · skip
    refine mn_bind (n_X8_fails 1 s1) (fun v3 s4 => ?_)
    exact mn_some
  · skip
    refine mn_bindP (fun v5 => ?_)
    exact mn_some
set_option maxRecDepth 100000 in
set_option maxHeartbeats 2000000 in
theorem sat_X8_capacity (l : Launch) (hl : l.stackTraces = false) (p0 : Int32) (s : Mem) : Sat l yX8_capacity (.code yX8_capacity cX8_capacity 2 (some .int)) 32 543 (fun x => some (.int x)) [.ref 8, .int p0] s (m_X8_capacity p0 s) := by
  refine sat_of hl (by decide) (Nat.le_of_ble_eq_true rfl) (fun X V A adV hxl hC hE hx hr => ?_) (n_X8_capacity p0 s)
  subst hxl
  show LX X V A 32 543 (nC s) (nS s) _ 0 [(0, .ref 8), (1, .int p0)] [] s _
  unfold m_X8_capacity
  refine lx_aload_n hC dX8_capacity_0 rfl 0 rfl ?_
  refine lx_iconstv (v := 0) hC dX8_capacity_1 rfl ?_
  refine lx_putI hC ly8 rfl 0 (by decide) rfl tyX8 tyX8_ok nmX8 rfl rfl rfl inX8 wd1605 dX8_capacity_2 (fun s1 => ?_)
  refine lx_aload_n hC dX8_capacity_5 rfl 0 rfl ?_
  refine lx_iload_n hC dX8_capacity_6 rfl 1 rfl ?_
  refine lx_callP hC hx (sat_X8_isRow (xl X) hl p0 s1) (run_V (as := [.int p0]) (rest := []) hC hE ly8 rfl cw_X8_isRow ci_X8_isRow wd1708 cs_X8_isRow ce_X8_isRow cd_X8_isRow (by decide) (by decide) (Nat.le_of_ble_eq_true rfl) dX8_capacity_7 rfl) (fun v2 _ => ?_)
  refine lx_if_eq hC 22 dX8_capacity_10 (by decide) ?_ ?_
  · skip
    refine lx_aload_n hC dX8_capacity_22 rfl 0 rfl ?_
    refine lx_iconstv (v := 1) hC dX8_capacity_23 rfl ?_
    refine lx_callX hC hx (sat_X8_fails (xl X) hl 1 s1) (run_V (as := [.int 1]) (rest := []) hC hE ly8 rfl cw_X8_fails ci_X8_fails wd1676 cs_X8_fails ce_X8_fails cd_X8_fails (by decide) (by decide) (Nat.le_of_ble_eq_true rfl) dX8_capacity_24 rfl) (fun v3 s4 _ => ?_)
    exact lx_iret hC rfl hr dX8_capacity_27
  · skip
    refine lx_aload_n hC dX8_capacity_13 rfl 0 rfl ?_
    refine lx_iload_n hC dX8_capacity_14 rfl 1 rfl ?_
    refine lx_iconstv (v := 0) hC dX8_capacity_15 rfl ?_
    refine lx_callP hC hx (sat_X8_of (xl X) hl p0 0 s1) (run_V (as := [.int p0, .int 0]) (rest := []) hC hE ly8 rfl cw_X8_of ci_X8_of wd1716 cs_X8_of ce_X8_of cd_X8_of (by decide) (by decide) (Nat.le_of_ble_eq_true rfl) dX8_capacity_16 rfl) (fun v5 _ => ?_)
    refine lx_goto hC 27 dX8_capacity_19 (by decide) ?_
    exact lx_iret hC rfl hr dX8_capacity_27
def m_X8_phantoms (p0 : Int32) (s : Mem) : Res Int32 := vl (pI s 8 0 0) (fun s1 => bindP (m_X8_isRow p0 s1) (fun v2 => if v2 = 0 then (bindR (m_X8_fails 1 s1) (fun v3 s4 => some (.inl v3, s4))) else (bindP (m_X8_of p0 1 s1) (fun v5 => some (.inl v5, s1)))))
set_option maxRecDepth 100000 in
set_option maxHeartbeats 2000000 in
theorem n_X8_phantoms (p0 : Int32) (s : Mem) : Mn s (m_X8_phantoms p0 s) := by
  unfold m_X8_phantoms
  refine mn_put (fun s1 => ?_)
  refine mn_bindP (fun v2 => ?_)
  refine mn_if ?_ ?_
  · skip
    refine mn_bind (n_X8_fails 1 s1) (fun v3 s4 => ?_)
    exact mn_some
  · skip
    refine mn_bindP (fun v5 => ?_)
    exact mn_some
set_option maxRecDepth 100000 in
set_option maxHeartbeats 2000000 in
theorem sat_X8_phantoms (l : Launch) (hl : l.stackTraces = false) (p0 : Int32) (s : Mem) : Sat l yX8_phantoms (.code yX8_phantoms cX8_phantoms 2 (some .int)) 32 543 (fun x => some (.int x)) [.ref 8, .int p0] s (m_X8_phantoms p0 s) := by
  refine sat_of hl (by decide) (Nat.le_of_ble_eq_true rfl) (fun X V A adV hxl hC hE hx hr => ?_) (n_X8_phantoms p0 s)
  subst hxl
  show LX X V A 32 543 (nC s) (nS s) _ 0 [(0, .ref 8), (1, .int p0)] [] s _
  unfold m_X8_phantoms
  refine lx_aload_n hC dX8_phantoms_0 rfl 0 rfl ?_
  refine lx_iconstv (v := 0) hC dX8_phantoms_1 rfl ?_
  refine lx_putI hC ly8 rfl 0 (by decide) rfl tyX8 tyX8_ok nmX8 rfl rfl rfl inX8 wd1605 dX8_phantoms_2 (fun s1 => ?_)
  refine lx_aload_n hC dX8_phantoms_5 rfl 0 rfl ?_
  refine lx_iload_n hC dX8_phantoms_6 rfl 1 rfl ?_
  refine lx_callP hC hx (sat_X8_isRow (xl X) hl p0 s1) (run_V (as := [.int p0]) (rest := []) hC hE ly8 rfl cw_X8_isRow ci_X8_isRow wd1708 cs_X8_isRow ce_X8_isRow cd_X8_isRow (by decide) (by decide) (Nat.le_of_ble_eq_true rfl) dX8_phantoms_7 rfl) (fun v2 _ => ?_)
  refine lx_if_eq hC 22 dX8_phantoms_10 (by decide) ?_ ?_
  · skip
    refine lx_aload_n hC dX8_phantoms_22 rfl 0 rfl ?_
    refine lx_iconstv (v := 1) hC dX8_phantoms_23 rfl ?_
    refine lx_callX hC hx (sat_X8_fails (xl X) hl 1 s1) (run_V (as := [.int 1]) (rest := []) hC hE ly8 rfl cw_X8_fails ci_X8_fails wd1676 cs_X8_fails ce_X8_fails cd_X8_fails (by decide) (by decide) (Nat.le_of_ble_eq_true rfl) dX8_phantoms_24 rfl) (fun v3 s4 _ => ?_)
    exact lx_iret hC rfl hr dX8_phantoms_27
  · skip
    refine lx_aload_n hC dX8_phantoms_13 rfl 0 rfl ?_
    refine lx_iload_n hC dX8_phantoms_14 rfl 1 rfl ?_
    refine lx_iconstv (v := 1) hC dX8_phantoms_15 rfl ?_
    refine lx_callP hC hx (sat_X8_of (xl X) hl p0 1 s1) (run_V (as := [.int p0, .int 1]) (rest := []) hC hE ly8 rfl cw_X8_of ci_X8_of wd1716 cs_X8_of ce_X8_of cd_X8_of (by decide) (by decide) (Nat.le_of_ble_eq_true rfl) dX8_phantoms_16 rfl) (fun v5 _ => ?_)
    refine lx_goto hC 27 dX8_phantoms_19 (by decide) ?_
    exact lx_iret hC rfl hr dX8_phantoms_27
def m_X8_occupancy (p0 : Int32) (s : Mem) : Res Int32 := vl (pI s 8 0 0) (fun s1 => bindP (m_X8_isRow p0 s1) (fun v2 => if v2 = 0 then (bindR (m_X8_fails 1 s1) (fun v3 s4 => some (.inl v3, s4))) else (bindP (m_X8_countIn p0 s1) (fun v5 => some (.inl v5, s1)))))
set_option maxRecDepth 100000 in
set_option maxHeartbeats 2000000 in
theorem n_X8_occupancy (p0 : Int32) (s : Mem) : Mn s (m_X8_occupancy p0 s) := by
  unfold m_X8_occupancy
  refine mn_put (fun s1 => ?_)
  refine mn_bindP (fun v2 => ?_)
  refine mn_if ?_ ?_
  · skip
    refine mn_bind (n_X8_fails 1 s1) (fun v3 s4 => ?_)
    exact mn_some
  · skip
    refine mn_bindP (fun v5 => ?_)
    exact mn_some
set_option maxRecDepth 100000 in
set_option maxHeartbeats 2000000 in
theorem sat_X8_occupancy (l : Launch) (hl : l.stackTraces = false) (p0 : Int32) (s : Mem) : Sat l yX8_occupancy (.code yX8_occupancy cX8_occupancy 2 (some .int)) 32 545 (fun x => some (.int x)) [.ref 8, .int p0] s (m_X8_occupancy p0 s) := by
  refine sat_of hl (by decide) (Nat.le_of_ble_eq_true rfl) (fun X V A adV hxl hC hE hx hr => ?_) (n_X8_occupancy p0 s)
  subst hxl
  show LX X V A 32 545 (nC s) (nS s) _ 0 [(0, .ref 8), (1, .int p0)] [] s _
  unfold m_X8_occupancy
  refine lx_aload_n hC dX8_occupancy_0 rfl 0 rfl ?_
  refine lx_iconstv (v := 0) hC dX8_occupancy_1 rfl ?_
  refine lx_putI hC ly8 rfl 0 (by decide) rfl tyX8 tyX8_ok nmX8 rfl rfl rfl inX8 wd1605 dX8_occupancy_2 (fun s1 => ?_)
  refine lx_aload_n hC dX8_occupancy_5 rfl 0 rfl ?_
  refine lx_iload_n hC dX8_occupancy_6 rfl 1 rfl ?_
  refine lx_callP hC hx (sat_X8_isRow (xl X) hl p0 s1) (run_V (as := [.int p0]) (rest := []) hC hE ly8 rfl cw_X8_isRow ci_X8_isRow wd1708 cs_X8_isRow ce_X8_isRow cd_X8_isRow (by decide) (by decide) (Nat.le_of_ble_eq_true rfl) dX8_occupancy_7 rfl) (fun v2 _ => ?_)
  refine lx_if_eq hC 21 dX8_occupancy_10 (by decide) ?_ ?_
  · skip
    refine lx_aload_n hC dX8_occupancy_21 rfl 0 rfl ?_
    refine lx_iconstv (v := 1) hC dX8_occupancy_22 rfl ?_
    refine lx_callX hC hx (sat_X8_fails (xl X) hl 1 s1) (run_V (as := [.int 1]) (rest := []) hC hE ly8 rfl cw_X8_fails ci_X8_fails wd1676 cs_X8_fails ce_X8_fails cd_X8_fails (by decide) (by decide) (Nat.le_of_ble_eq_true rfl) dX8_occupancy_23 rfl) (fun v3 s4 _ => ?_)
    exact lx_iret hC rfl hr dX8_occupancy_26
  · skip
    refine lx_aload_n hC dX8_occupancy_13 rfl 0 rfl ?_
    refine lx_iload_n hC dX8_occupancy_14 rfl 1 rfl ?_
    refine lx_callP hC hx (sat_X8_countIn (xl X) hl p0 s1) (run_V (as := [.int p0]) (rest := []) hC hE ly8 rfl cw_X8_countIn ci_X8_countIn wd1736 cs_X8_countIn ce_X8_countIn cd_X8_countIn (by decide) (by decide) (Nat.le_of_ble_eq_true rfl) dX8_occupancy_15 rfl) (fun v5 _ => ?_)
    refine lx_goto hC 26 dX8_occupancy_18 (by decide) ?_
    exact lx_iret hC rfl hr dX8_occupancy_26
def m_X8_freeSeats (p0 : Int32) (s : Mem) : Res Int32 := vl (pI s 8 0 0) (fun s1 => bindP (m_X8_isRow p0 s1) (fun v2 => if v2 = 0 then (bindR (m_X8_fails 1 s1) (fun v3 s4 => some (.inl v3, s4))) else (bindP (m_X8_roomIn p0 s1) (fun v5 => some (.inl v5, s1)))))
set_option maxRecDepth 100000 in
set_option maxHeartbeats 2000000 in
theorem n_X8_freeSeats (p0 : Int32) (s : Mem) : Mn s (m_X8_freeSeats p0 s) := by
  unfold m_X8_freeSeats
  refine mn_put (fun s1 => ?_)
  refine mn_bindP (fun v2 => ?_)
  refine mn_if ?_ ?_
  · skip
    refine mn_bind (n_X8_fails 1 s1) (fun v3 s4 => ?_)
    exact mn_some
  · skip
    refine mn_bindP (fun v5 => ?_)
    exact mn_some
set_option maxRecDepth 100000 in
set_option maxHeartbeats 2000000 in
theorem sat_X8_freeSeats (l : Launch) (hl : l.stackTraces = false) (p0 : Int32) (s : Mem) : Sat l yX8_freeSeats (.code yX8_freeSeats cX8_freeSeats 2 (some .int)) 33 566 (fun x => some (.int x)) [.ref 8, .int p0] s (m_X8_freeSeats p0 s) := by
  refine sat_of hl (by decide) (Nat.le_of_ble_eq_true rfl) (fun X V A adV hxl hC hE hx hr => ?_) (n_X8_freeSeats p0 s)
  subst hxl
  show LX X V A 33 566 (nC s) (nS s) _ 0 [(0, .ref 8), (1, .int p0)] [] s _
  unfold m_X8_freeSeats
  refine lx_aload_n hC dX8_freeSeats_0 rfl 0 rfl ?_
  refine lx_iconstv (v := 0) hC dX8_freeSeats_1 rfl ?_
  refine lx_putI hC ly8 rfl 0 (by decide) rfl tyX8 tyX8_ok nmX8 rfl rfl rfl inX8 wd1605 dX8_freeSeats_2 (fun s1 => ?_)
  refine lx_aload_n hC dX8_freeSeats_5 rfl 0 rfl ?_
  refine lx_iload_n hC dX8_freeSeats_6 rfl 1 rfl ?_
  refine lx_callP hC hx (sat_X8_isRow (xl X) hl p0 s1) (run_V (as := [.int p0]) (rest := []) hC hE ly8 rfl cw_X8_isRow ci_X8_isRow wd1708 cs_X8_isRow ce_X8_isRow cd_X8_isRow (by decide) (by decide) (Nat.le_of_ble_eq_true rfl) dX8_freeSeats_7 rfl) (fun v2 _ => ?_)
  refine lx_if_eq hC 21 dX8_freeSeats_10 (by decide) ?_ ?_
  · skip
    refine lx_aload_n hC dX8_freeSeats_21 rfl 0 rfl ?_
    refine lx_iconstv (v := 1) hC dX8_freeSeats_22 rfl ?_
    refine lx_callX hC hx (sat_X8_fails (xl X) hl 1 s1) (run_V (as := [.int 1]) (rest := []) hC hE ly8 rfl cw_X8_fails ci_X8_fails wd1676 cs_X8_fails ce_X8_fails cd_X8_fails (by decide) (by decide) (Nat.le_of_ble_eq_true rfl) dX8_freeSeats_23 rfl) (fun v3 s4 _ => ?_)
    exact lx_iret hC rfl hr dX8_freeSeats_26
  · skip
    refine lx_aload_n hC dX8_freeSeats_13 rfl 0 rfl ?_
    refine lx_iload_n hC dX8_freeSeats_14 rfl 1 rfl ?_
    refine lx_callP hC hx (sat_X8_roomIn (xl X) hl p0 s1) (run_V (as := [.int p0]) (rest := []) hC hE ly8 rfl cw_X8_roomIn ci_X8_roomIn wd1732 cs_X8_roomIn ce_X8_roomIn cd_X8_roomIn (by decide) (by decide) (Nat.le_of_ble_eq_true rfl) dX8_freeSeats_15 rfl) (fun v5 _ => ?_)
    refine lx_goto hC 26 dX8_freeSeats_18 (by decide) ?_
    exact lx_iret hC rfl hr dX8_freeSeats_26
def m_X8_loudnessIn_b4 (x1 : Int32) (s : Mem) (kf4 : (Int32 × Int32) → Option Int32) (w2 : Int32) (w3 : Int32) : Option Int32 := if ib 1 135 then if gI s 136 1.toNatClampNeg ≤ w3 then (some w2) else (bindO (m_X8_is w3 1 s) (fun v2 => if ¬ v2 = x1 then (vl (w2 + 0) (fun y3 => vl (w3 + 1) (fun y4 => kf4 (y3, y4)))) else (bindO (m_X8_is w3 2 s) (fun v5 => vl (w2 + v5) (fun y6 => vl (w3 + 1) (fun y7 => kf4 (y6, y7))))))) else none
def m_X8_loudnessIn (p0 : Int32) (s : Mem) : Option Int32 := lpO (fun kf4 a => m_X8_loudnessIn_b4 p0 s kf4 a.1 a.2) FUEL (0, 0)
set_option maxRecDepth 100000 in
set_option maxHeartbeats 2000000 in
theorem l_X8_loudnessIn_b4 {X : Cx} {V : Vx} {A : Nat → Prop} {adV : Nat → Nat} {c0 s0 : Nat} (hC : Cok X V A yX8_loudnessIn.cls cX8_loudnessIn 4) (hE : Env0 V adV A (xs X) (xs X).heap) (hl : (xl X).stackTraces = false) (hx : ∀ x ∈ (xc X).exceptionTable.toList, False) (hr : (xh X).sig.returnType = some .int) (x1 : Int32) (s : Mem) (kf4 : (Int32 × Int32) → Option Int32) (hk4 : ∀ a, LX X V A 31 522 c0 s0 (FM X V A (fun x => some (.int x))) 4 [(0, .ref 8), (1, .int x1), (2, .int a.1), (3, .int a.2)] [] s (pur s (kf4 a))) (w2 : Int32) (w3 : Int32) : LX X V A 31 522 c0 s0 (FM X V A (fun x => some (.int x))) 4 [(0, .ref 8), (1, .int x1), (2, .int w2), (3, .int w3)] [] s (pur s (m_X8_loudnessIn_b4 x1 s kf4 w2 w3 )) := by
  unfold m_X8_loudnessIn_b4
  refine lx_iload_n hC dX8_loudnessIn_4 rfl 3 rfl ?_
  refine lx_aload_n hC dX8_loudnessIn_5 rfl 0 rfl ?_
  refine lx_getR (q := 136) hC ly8 rfl 1 (by decide) rfl rfl inX8 wd1606 dX8_loudnessIn_6 ?_
  refine lx_iconstv (v := 1) hC dX8_loudnessIn_9 rfl ?_
  refine lq_iaload hC ly136 dX8_loudnessIn_10 ?_
  refine lq_icmp_ge hC 43 dX8_loudnessIn_11 (by decide) ?_ ?_
  · skip
    refine lx_iload_n hC dX8_loudnessIn_43 rfl 2 rfl ?_
    exact lx_iret hC rfl hr dX8_loudnessIn_44
  · skip
    refine lx_iload_n hC dX8_loudnessIn_14 rfl 2 rfl ?_
    refine lx_aload_n hC dX8_loudnessIn_15 rfl 0 rfl ?_
    refine lx_iload_n hC dX8_loudnessIn_16 rfl 3 rfl ?_
    refine lx_iconstv (v := 1) hC dX8_loudnessIn_17 rfl ?_
    refine lq_call hC hx (sat_X8_is (xl X) hl w3 1 s) (run_V (as := [.int w3, .int 1]) (rest := [.int w2]) hC hE ly8 rfl cw_X8_is ci_X8_is wd1740 cs_X8_is ce_X8_is cd_X8_is (by decide) (by decide) (Nat.le_of_ble_eq_true rfl) dX8_loudnessIn_18 rfl) (fun v2 _ => ?_)
    refine lx_iload_n hC dX8_loudnessIn_21 rfl 1 rfl ?_
    refine lq_icmp_ne hC 34 dX8_loudnessIn_22 (by decide) ?_ ?_
    · skip
      refine lx_iconstv (v := 0) hC dX8_loudnessIn_34 rfl ?_
      refine lx_iadd hC dX8_loudnessIn_35 ?_
      refine lq_istore_nN hC dX8_loudnessIn_36 rfl (by decide) (fun y3 => ?_)
      refine lq_iincN (v := 1) hC dX8_loudnessIn_37 3 rfl (by decide) rfl (fun y4 => ?_)
      refine lx_goto hC 4 dX8_loudnessIn_40 (by decide) ?_
      exact lx_sub [2, 3, 1, 0] rfl (hk4 (y3, y4))
    · skip
      refine lx_aload_n hC dX8_loudnessIn_25 rfl 0 rfl ?_
      refine lx_iload_n hC dX8_loudnessIn_26 rfl 3 rfl ?_
      refine lx_iconstv (v := 2) hC dX8_loudnessIn_27 rfl ?_
      refine lq_call hC hx (sat_X8_is (xl X) hl w3 2 s) (run_V (as := [.int w3, .int 2]) (rest := [.int w2]) hC hE ly8 rfl cw_X8_is ci_X8_is wd1740 cs_X8_is ce_X8_is cd_X8_is (by decide) (by decide) (Nat.le_of_ble_eq_true rfl) dX8_loudnessIn_28 rfl) (fun v5 _ => ?_)
      refine lx_goto hC 35 dX8_loudnessIn_31 (by decide) ?_
      refine lx_iadd hC dX8_loudnessIn_35 ?_
      refine lq_istore_nN hC dX8_loudnessIn_36 rfl (by decide) (fun y6 => ?_)
      refine lq_iincN (v := 1) hC dX8_loudnessIn_37 3 rfl (by decide) rfl (fun y7 => ?_)
      refine lx_goto hC 4 dX8_loudnessIn_40 (by decide) ?_
      exact lx_sub [2, 3, 1, 0] rfl (hk4 (y6, y7))
set_option maxRecDepth 100000 in
set_option maxHeartbeats 2000000 in
theorem sat_X8_loudnessIn (l : Launch) (hl : l.stackTraces = false) (p0 : Int32) (s : Mem) : Sat l yX8_loudnessIn (.code yX8_loudnessIn cX8_loudnessIn 4 (some .int)) 31 522 (fun x => some (.int x)) [.ref 8, .int p0] s (pur s (m_X8_loudnessIn p0 s)) := by
  refine sat_of hl (by decide) (Nat.le_of_ble_eq_true rfl) (fun X V A adV hxl hC hE hx hr => ?_) pur_mono
  subst hxl
  show LX X V A 31 522 (nC s) (nS s) _ 0 [(0, .ref 8), (1, .int p0)] [] s _
  unfold m_X8_loudnessIn
  refine lx_iconstv (v := 0) hC dX8_loudnessIn_0 rfl ?_
  refine lx_istore_n hC dX8_loudnessIn_1 rfl (by decide) ?_
  refine lx_iconstv (v := 0) hC dX8_loudnessIn_2 rfl ?_
  refine lx_istore_n hC dX8_loudnessIn_3 rfl (by decide) ?_
  refine lx_sub [2, 3, 1, 0] rfl ?_
  exact lq_lp (lv := fun a => [(0, .ref 8), (1, .int p0), (2, .int a.1), (3, .int a.2)]) (st := fun _ => []) (fun kf hq a => l_X8_loudnessIn_b4 hC hE hl hx hr p0 s kf hq a.1 a.2) FUEL (0, 0)
def m_X8_rowLoudness (p0 : Int32) (s : Mem) : Res Int32 := vl (pI s 8 0 0) (fun s1 => bindP (m_X8_isRow p0 s1) (fun v2 => if v2 = 0 then (bindR (m_X8_fails 1 s1) (fun v3 s4 => some (.inl v3, s4))) else (bindP (m_X8_loudnessIn p0 s1) (fun v5 => some (.inl v5, s1)))))
set_option maxRecDepth 100000 in
set_option maxHeartbeats 2000000 in
theorem n_X8_rowLoudness (p0 : Int32) (s : Mem) : Mn s (m_X8_rowLoudness p0 s) := by
  unfold m_X8_rowLoudness
  refine mn_put (fun s1 => ?_)
  refine mn_bindP (fun v2 => ?_)
  refine mn_if ?_ ?_
  · skip
    refine mn_bind (n_X8_fails 1 s1) (fun v3 s4 => ?_)
    exact mn_some
  · skip
    refine mn_bindP (fun v5 => ?_)
    exact mn_some
set_option maxRecDepth 100000 in
set_option maxHeartbeats 2000000 in
theorem sat_X8_rowLoudness (l : Launch) (hl : l.stackTraces = false) (p0 : Int32) (s : Mem) : Sat l yX8_rowLoudness (.code yX8_rowLoudness cX8_rowLoudness 2 (some .int)) 32 545 (fun x => some (.int x)) [.ref 8, .int p0] s (m_X8_rowLoudness p0 s) := by
  refine sat_of hl (by decide) (Nat.le_of_ble_eq_true rfl) (fun X V A adV hxl hC hE hx hr => ?_) (n_X8_rowLoudness p0 s)
  subst hxl
  show LX X V A 32 545 (nC s) (nS s) _ 0 [(0, .ref 8), (1, .int p0)] [] s _
  unfold m_X8_rowLoudness
  refine lx_aload_n hC dX8_rowLoudness_0 rfl 0 rfl ?_
  refine lx_iconstv (v := 0) hC dX8_rowLoudness_1 rfl ?_
  refine lx_putI hC ly8 rfl 0 (by decide) rfl tyX8 tyX8_ok nmX8 rfl rfl rfl inX8 wd1605 dX8_rowLoudness_2 (fun s1 => ?_)
  refine lx_aload_n hC dX8_rowLoudness_5 rfl 0 rfl ?_
  refine lx_iload_n hC dX8_rowLoudness_6 rfl 1 rfl ?_
  refine lx_callP hC hx (sat_X8_isRow (xl X) hl p0 s1) (run_V (as := [.int p0]) (rest := []) hC hE ly8 rfl cw_X8_isRow ci_X8_isRow wd1708 cs_X8_isRow ce_X8_isRow cd_X8_isRow (by decide) (by decide) (Nat.le_of_ble_eq_true rfl) dX8_rowLoudness_7 rfl) (fun v2 _ => ?_)
  refine lx_if_eq hC 21 dX8_rowLoudness_10 (by decide) ?_ ?_
  · skip
    refine lx_aload_n hC dX8_rowLoudness_21 rfl 0 rfl ?_
    refine lx_iconstv (v := 1) hC dX8_rowLoudness_22 rfl ?_
    refine lx_callX hC hx (sat_X8_fails (xl X) hl 1 s1) (run_V (as := [.int 1]) (rest := []) hC hE ly8 rfl cw_X8_fails ci_X8_fails wd1676 cs_X8_fails ce_X8_fails cd_X8_fails (by decide) (by decide) (Nat.le_of_ble_eq_true rfl) dX8_rowLoudness_23 rfl) (fun v3 s4 _ => ?_)
    exact lx_iret hC rfl hr dX8_rowLoudness_26
  · skip
    refine lx_aload_n hC dX8_rowLoudness_13 rfl 0 rfl ?_
    refine lx_iload_n hC dX8_rowLoudness_14 rfl 1 rfl ?_
    refine lx_callP hC hx (sat_X8_loudnessIn (xl X) hl p0 s1) (run_V (as := [.int p0]) (rest := []) hC hE ly8 rfl cw_X8_loudnessIn ci_X8_loudnessIn wd1903 cs_X8_loudnessIn ce_X8_loudnessIn cd_X8_loudnessIn (by decide) (by decide) (Nat.le_of_ble_eq_true rfl) dX8_rowLoudness_15 rfl) (fun v5 _ => ?_)
    refine lx_goto hC 26 dX8_rowLoudness_18 (by decide) ?_
    exact lx_iret hC rfl hr dX8_rowLoudness_26
def m_X8_isLocked (p0 : Int32) (s : Mem) : Res Int32 := vl (pI s 8 0 0) (fun s1 => bindP (m_X8_isRow p0 s1) (fun v2 => if ¬ v2 = 0 then (bindP (m_X8_isLockedRow p0 s1) (fun v3 => if vp_nar .boolean v3 = v3 then some (.inl v3, s1) else none)) else (bindR (m_X8_fails 1 s1) (fun v4 s5 => if v4 ≤ 0 then (some (.inl 0, s5)) else (some (.inl 1, s5))))))
set_option maxRecDepth 100000 in
set_option maxHeartbeats 2000000 in
theorem n_X8_isLocked (p0 : Int32) (s : Mem) : Mn s (m_X8_isLocked p0 s) := by
  unfold m_X8_isLocked
  refine mn_put (fun s1 => ?_)
  refine mn_bindP (fun v2 => ?_)
  refine mn_if ?_ ?_
  · skip
    refine mn_bindP (fun v3 => ?_)
    exact mn_if mn_some mn_none
  · skip
    refine mn_bind (n_X8_fails 1 s1) (fun v4 s5 => ?_)
    refine mn_if ?_ ?_
    · skip
      exact mn_some
    · skip
      exact mn_some
set_option maxRecDepth 100000 in
set_option maxHeartbeats 2000000 in
theorem sat_X8_isLocked (l : Launch) (hl : l.stackTraces = false) (p0 : Int32) (s : Mem) : Sat l yX8_isLocked (.code yX8_isLocked cX8_isLocked 2 (some .boolean)) 32 543 (fun x => some (.int x)) [.ref 8, .int p0] s (m_X8_isLocked p0 s) := by
  refine sat_of hl (by decide) (Nat.le_of_ble_eq_true rfl) (fun X V A adV hxl hC hE hx hr => ?_) (n_X8_isLocked p0 s)
  subst hxl
  show LX X V A 32 543 (nC s) (nS s) _ 0 [(0, .ref 8), (1, .int p0)] [] s _
  unfold m_X8_isLocked
  refine lx_aload_n hC dX8_isLocked_0 rfl 0 rfl ?_
  refine lx_iconstv (v := 0) hC dX8_isLocked_1 rfl ?_
  refine lx_putI hC ly8 rfl 0 (by decide) rfl tyX8 tyX8_ok nmX8 rfl rfl rfl inX8 wd1605 dX8_isLocked_2 (fun s1 => ?_)
  refine lx_aload_n hC dX8_isLocked_5 rfl 0 rfl ?_
  refine lx_iload_n hC dX8_isLocked_6 rfl 1 rfl ?_
  refine lx_callP hC hx (sat_X8_isRow (xl X) hl p0 s1) (run_V (as := [.int p0]) (rest := []) hC hE ly8 rfl cw_X8_isRow ci_X8_isRow wd1708 cs_X8_isRow ce_X8_isRow cd_X8_isRow (by decide) (by decide) (Nat.le_of_ble_eq_true rfl) dX8_isLocked_7 rfl) (fun v2 _ => ?_)
  refine lx_if_ne hC 27 dX8_isLocked_10 (by decide) ?_ ?_
  · skip
    refine lx_aload_n hC dX8_isLocked_27 rfl 0 rfl ?_
    refine lx_iload_n hC dX8_isLocked_28 rfl 1 rfl ?_
    refine lx_callP hC hx (sat_X8_isLockedRow (xl X) hl p0 s1) (run_V (as := [.int p0]) (rest := []) hC hE ly8 rfl cw_X8_isLockedRow ci_X8_isLockedRow wd1712 cs_X8_isLockedRow ce_X8_isLockedRow cd_X8_isLockedRow (by decide) (by decide) (Nat.le_of_ble_eq_true rfl) dX8_isLocked_29 rfl) (fun v3 _ => ?_)
    exact lx_zretn hC rfl hr (by simp) dX8_isLocked_32
  · skip
    refine lx_aload_n hC dX8_isLocked_13 rfl 0 rfl ?_
    refine lx_iconstv (v := 1) hC dX8_isLocked_14 rfl ?_
    refine lx_callX hC hx (sat_X8_fails (xl X) hl 1 s1) (run_V (as := [.int 1]) (rest := []) hC hE ly8 rfl cw_X8_fails ci_X8_fails wd1676 cs_X8_fails ce_X8_fails cd_X8_fails (by decide) (by decide) (Nat.le_of_ble_eq_true rfl) dX8_isLocked_15 rfl) (fun v4 s5 _ => ?_)
    refine lx_if_le hC 25 dX8_isLocked_18 (by decide) ?_ ?_
    · skip
      refine lx_iconstv (v := 0) hC dX8_isLocked_25 rfl ?_
      exact lx_zret hC rfl hr rfl dX8_isLocked_26
    · skip
      refine lx_iconstv (v := 1) hC dX8_isLocked_21 rfl ?_
      refine lx_goto hC 26 dX8_isLocked_22 (by decide) ?_
      exact lx_zret hC rfl hr rfl dX8_isLocked_26
def m_X8_isCrowded (p0 : Int32) (s : Mem) : Res Int32 := vl (pI s 8 0 0) (fun s1 => bindP (m_X8_isRow p0 s1) (fun v2 => if ¬ v2 = 0 then (bindP (m_X8_isCrowdedRow p0 s1) (fun v3 => if vp_nar .boolean v3 = v3 then some (.inl v3, s1) else none)) else (bindR (m_X8_fails 1 s1) (fun v4 s5 => if v4 ≤ 0 then (some (.inl 0, s5)) else (some (.inl 1, s5))))))
set_option maxRecDepth 100000 in
set_option maxHeartbeats 2000000 in
theorem n_X8_isCrowded (p0 : Int32) (s : Mem) : Mn s (m_X8_isCrowded p0 s) := by
  unfold m_X8_isCrowded
  refine mn_put (fun s1 => ?_)
  refine mn_bindP (fun v2 => ?_)
  refine mn_if ?_ ?_
  · skip
    refine mn_bindP (fun v3 => ?_)
    exact mn_if mn_some mn_none
  · skip
    refine mn_bind (n_X8_fails 1 s1) (fun v4 s5 => ?_)
    refine mn_if ?_ ?_
    · skip
      exact mn_some
    · skip
      exact mn_some
set_option maxRecDepth 100000 in
set_option maxHeartbeats 2000000 in
theorem sat_X8_isCrowded (l : Launch) (hl : l.stackTraces = false) (p0 : Int32) (s : Mem) : Sat l yX8_isCrowded (.code yX8_isCrowded cX8_isCrowded 2 (some .boolean)) 33 566 (fun x => some (.int x)) [.ref 8, .int p0] s (m_X8_isCrowded p0 s) := by
  refine sat_of hl (by decide) (Nat.le_of_ble_eq_true rfl) (fun X V A adV hxl hC hE hx hr => ?_) (n_X8_isCrowded p0 s)
  subst hxl
  show LX X V A 33 566 (nC s) (nS s) _ 0 [(0, .ref 8), (1, .int p0)] [] s _
  unfold m_X8_isCrowded
  refine lx_aload_n hC dX8_isCrowded_0 rfl 0 rfl ?_
  refine lx_iconstv (v := 0) hC dX8_isCrowded_1 rfl ?_
  refine lx_putI hC ly8 rfl 0 (by decide) rfl tyX8 tyX8_ok nmX8 rfl rfl rfl inX8 wd1605 dX8_isCrowded_2 (fun s1 => ?_)
  refine lx_aload_n hC dX8_isCrowded_5 rfl 0 rfl ?_
  refine lx_iload_n hC dX8_isCrowded_6 rfl 1 rfl ?_
  refine lx_callP hC hx (sat_X8_isRow (xl X) hl p0 s1) (run_V (as := [.int p0]) (rest := []) hC hE ly8 rfl cw_X8_isRow ci_X8_isRow wd1708 cs_X8_isRow ce_X8_isRow cd_X8_isRow (by decide) (by decide) (Nat.le_of_ble_eq_true rfl) dX8_isCrowded_7 rfl) (fun v2 _ => ?_)
  refine lx_if_ne hC 27 dX8_isCrowded_10 (by decide) ?_ ?_
  · skip
    refine lx_aload_n hC dX8_isCrowded_27 rfl 0 rfl ?_
    refine lx_iload_n hC dX8_isCrowded_28 rfl 1 rfl ?_
    refine lx_callP hC hx (sat_X8_isCrowdedRow (xl X) hl p0 s1) (run_V (as := [.int p0]) (rest := []) hC hE ly8 rfl cw_X8_isCrowdedRow ci_X8_isCrowdedRow wd1867 cs_X8_isCrowdedRow ce_X8_isCrowdedRow cd_X8_isCrowdedRow (by decide) (by decide) (Nat.le_of_ble_eq_true rfl) dX8_isCrowded_29 rfl) (fun v3 _ => ?_)
    exact lx_zretn hC rfl hr (by simp) dX8_isCrowded_32
  · skip
    refine lx_aload_n hC dX8_isCrowded_13 rfl 0 rfl ?_
    refine lx_iconstv (v := 1) hC dX8_isCrowded_14 rfl ?_
    refine lx_callX hC hx (sat_X8_fails (xl X) hl 1 s1) (run_V (as := [.int 1]) (rest := []) hC hE ly8 rfl cw_X8_fails ci_X8_fails wd1676 cs_X8_fails ce_X8_fails cd_X8_fails (by decide) (by decide) (Nat.le_of_ble_eq_true rfl) dX8_isCrowded_15 rfl) (fun v4 s5 _ => ?_)
    refine lx_if_le hC 25 dX8_isCrowded_18 (by decide) ?_ ?_
    · skip
      refine lx_iconstv (v := 0) hC dX8_isCrowded_25 rfl ?_
      exact lx_zret hC rfl hr rfl dX8_isCrowded_26
    · skip
      refine lx_iconstv (v := 1) hC dX8_isCrowded_21 rfl ?_
      refine lx_goto hC 26 dX8_isCrowded_22 (by decide) ?_
      exact lx_zret hC rfl hr rfl dX8_isCrowded_26
def m_X8_slotAt_b5 (x1 : Int32) (s : Mem) (kf5 : (Int32 × Int32) → Option Int32) (w3 : Int32) (w4 : Int32) : Option Int32 := if ib 1 135 then if gI s 136 1.toNatClampNeg ≤ w4 then (some (-1)) else (bindO (m_X8_is w4 1 s) (fun v2 => if v2 = x1 then (if ¬ w3 = 0 then (vl (w3 + (-1)) (fun y3 => vl (w4 + 1) (fun y4 => kf5 (y3, y4)))) else (some w4)) else (vl (w4 + 1) (fun y5 => kf5 (w3, y5))))) else none
def m_X8_slotAt (p0 : Int32) (p1 : Int32) (s : Mem) : Option Int32 := lpO (fun kf5 a => m_X8_slotAt_b5 p0 s kf5 a.1 a.2) FUEL (p1, 0)
set_option maxRecDepth 100000 in
set_option maxHeartbeats 2000000 in
theorem l_X8_slotAt_b5 {X : Cx} {V : Vx} {A : Nat → Prop} {adV : Nat → Nat} {c0 s0 : Nat} (hC : Cok X V A yX8_slotAt.cls cX8_slotAt 5) (hE : Env0 V adV A (xs X) (xs X).heap) (hl : (xl X).stackTraces = false) (hx : ∀ x ∈ (xc X).exceptionTable.toList, False) (hr : (xh X).sig.returnType = some .int) (x1 : Int32) (s : Mem) (kf5 : (Int32 × Int32) → Option Int32) (hk5 : ∀ a, LX X V A 31 522 c0 s0 (FM X V A (fun x => some (.int x))) 5 [(0, .ref 8), (1, .int x1), (3, .int a.1), (4, .int a.2)] [] s (pur s (kf5 a))) (w3 : Int32) (w4 : Int32) : LX X V A 31 522 c0 s0 (FM X V A (fun x => some (.int x))) 5 [(0, .ref 8), (1, .int x1), (3, .int w3), (4, .int w4)] [] s (pur s (m_X8_slotAt_b5 x1 s kf5 w3 w4 )) := by
  unfold m_X8_slotAt_b5
  refine lx_iload hC dX8_slotAt_5 3 rfl ?_
  refine lx_aload_n hC dX8_slotAt_7 rfl 0 rfl ?_
  refine lx_getR (q := 136) hC ly8 rfl 1 (by decide) rfl rfl inX8 wd1606 dX8_slotAt_8 ?_
  refine lx_iconstv (v := 1) hC dX8_slotAt_11 rfl ?_
  refine lq_iaload hC ly136 dX8_slotAt_12 ?_
  refine lq_icmp_ge hC 46 dX8_slotAt_13 (by decide) ?_ ?_
  · skip
    refine lx_iconstv (v := (-1)) hC dX8_slotAt_46 rfl ?_
    exact lx_iret hC rfl hr dX8_slotAt_47
  · skip
    refine lx_aload_n hC dX8_slotAt_16 rfl 0 rfl ?_
    refine lx_iload hC dX8_slotAt_17 3 rfl ?_
    refine lx_iconstv (v := 1) hC dX8_slotAt_19 rfl ?_
    refine lq_call hC hx (sat_X8_is (xl X) hl w4 1 s) (run_V (as := [.int w4, .int 1]) (rest := []) hC hE ly8 rfl cw_X8_is ci_X8_is wd1740 cs_X8_is ce_X8_is cd_X8_is (by decide) (by decide) (Nat.le_of_ble_eq_true rfl) dX8_slotAt_20 rfl) (fun v2 _ => ?_)
    refine lx_iload_n hC dX8_slotAt_23 rfl 1 rfl ?_
    refine lq_icmp_eq hC 30 dX8_slotAt_24 (by decide) ?_ ?_
    · skip
      refine lx_iload_n hC dX8_slotAt_30 rfl 2 rfl ?_
      refine lq_if_ne hC 37 dX8_slotAt_31 (by decide) ?_ ?_
      · skip
        refine lq_iincN (v := (-1)) hC dX8_slotAt_37 2 rfl (by decide) rfl (fun y3 => ?_)
        refine lq_iincN (v := 1) hC dX8_slotAt_40 3 rfl (by decide) rfl (fun y4 => ?_)
        refine lx_goto hC 5 dX8_slotAt_43 (by decide) ?_
        exact lx_sub [2, 3, 1, 0] rfl (hk5 (y3, y4))
      · skip
        refine lx_iload hC dX8_slotAt_34 3 rfl ?_
        exact lx_iret hC rfl hr dX8_slotAt_36
    · skip
      refine lx_goto hC 40 dX8_slotAt_27 (by decide) ?_
      refine lq_iincN (v := 1) hC dX8_slotAt_40 3 rfl (by decide) rfl (fun y5 => ?_)
      refine lx_goto hC 5 dX8_slotAt_43 (by decide) ?_
      exact lx_sub [1, 2, 3, 0] rfl (hk5 (w3, y5))
set_option maxRecDepth 100000 in
set_option maxHeartbeats 2000000 in
theorem sat_X8_slotAt (l : Launch) (hl : l.stackTraces = false) (p0 : Int32) (p1 : Int32) (s : Mem) : Sat l yX8_slotAt (.code yX8_slotAt cX8_slotAt 5 (some .int)) 31 522 (fun x => some (.int x)) [.ref 8, .int p0, .int p1] s (pur s (m_X8_slotAt p0 p1 s)) := by
  refine sat_of hl (by decide) (Nat.le_of_ble_eq_true rfl) (fun X V A adV hxl hC hE hx hr => ?_) pur_mono
  subst hxl
  show LX X V A 31 522 (nC s) (nS s) _ 0 [(0, .ref 8), (1, .int p0), (2, .int p1)] [] s _
  unfold m_X8_slotAt
  refine lx_iload_n hC dX8_slotAt_0 rfl 2 rfl ?_
  refine lx_istore_n hC dX8_slotAt_1 rfl (by decide) ?_
  refine lx_iconstv (v := 0) hC dX8_slotAt_2 rfl ?_
  refine lx_istore hC dX8_slotAt_3 (by decide) ?_
  refine lx_sub [2, 3, 1, 0] rfl ?_
  exact lq_lp (lv := fun a => [(0, .ref 8), (1, .int p0), (3, .int a.1), (4, .int a.2)]) (st := fun _ => []) (fun kf hq a => l_X8_slotAt_b5 hC hE hl hx hr p0 s kf hq a.1 a.2) FUEL (p1, 0)
def m_X8_idInRow (p0 : Int32) (p1 : Int32) (s : Mem) : Res Int32 := vl (pI s 8 0 0) (fun s1 => bindP (m_X8_isRow p0 s1) (fun v2 => if ¬ v2 = 0 then (bindP (m_X8_slotAt p0 p1 s1) (fun v3 => if 0 ≤ v3 then (bindP (m_X8_is v3 0 s1) (fun v4 => some (.inl v4, s1))) else (bindR (m_X8_fails 2 s1) (fun v5 s6 => some (.inl v5, s6))))) else (bindR (m_X8_fails 1 s1) (fun v7 s8 => some (.inl v7, s8)))))
set_option maxRecDepth 100000 in
set_option maxHeartbeats 2000000 in
theorem n_X8_idInRow (p0 : Int32) (p1 : Int32) (s : Mem) : Mn s (m_X8_idInRow p0 p1 s) := by
  unfold m_X8_idInRow
  refine mn_put (fun s1 => ?_)
  refine mn_bindP (fun v2 => ?_)
  refine mn_if ?_ ?_
  · skip
    refine mn_bindP (fun v3 => ?_)
    refine mn_if ?_ ?_
    · skip
      refine mn_bindP (fun v4 => ?_)
      exact mn_some
    · skip
      refine mn_bind (n_X8_fails 2 s1) (fun v5 s6 => ?_)
      exact mn_some
  · skip
    refine mn_bind (n_X8_fails 1 s1) (fun v7 s8 => ?_)
    exact mn_some
set_option maxRecDepth 100000 in
set_option maxHeartbeats 2000000 in
theorem sat_X8_idInRow (l : Launch) (hl : l.stackTraces = false) (p0 : Int32) (p1 : Int32) (s : Mem) : Sat l yX8_idInRow (.code yX8_idInRow cX8_idInRow 4 (some .int)) 32 546 (fun x => some (.int x)) [.ref 8, .int p0, .int p1] s (m_X8_idInRow p0 p1 s) := by
  refine sat_of hl (by decide) (Nat.le_of_ble_eq_true rfl) (fun X V A adV hxl hC hE hx hr => ?_) (n_X8_idInRow p0 p1 s)
  subst hxl
  show LX X V A 32 546 (nC s) (nS s) _ 0 [(0, .ref 8), (1, .int p0), (2, .int p1)] [] s _
  unfold m_X8_idInRow
  refine lx_aload_n hC dX8_idInRow_0 rfl 0 rfl ?_
  refine lx_iconstv (v := 0) hC dX8_idInRow_1 rfl ?_
  refine lx_putI hC ly8 rfl 0 (by decide) rfl tyX8 tyX8_ok nmX8 rfl rfl rfl inX8 wd1605 dX8_idInRow_2 (fun s1 => ?_)
  refine lx_aload_n hC dX8_idInRow_5 rfl 0 rfl ?_
  refine lx_iload_n hC dX8_idInRow_6 rfl 1 rfl ?_
  refine lx_callP hC hx (sat_X8_isRow (xl X) hl p0 s1) (run_V (as := [.int p0]) (rest := []) hC hE ly8 rfl cw_X8_isRow ci_X8_isRow wd1708 cs_X8_isRow ce_X8_isRow cd_X8_isRow (by decide) (by decide) (Nat.le_of_ble_eq_true rfl) dX8_idInRow_7 rfl) (fun v2 _ => ?_)
  refine lx_if_ne hC 19 dX8_idInRow_10 (by decide) ?_ ?_
  · skip
    refine lx_aload_n hC dX8_idInRow_19 rfl 0 rfl ?_
    refine lx_iload_n hC dX8_idInRow_20 rfl 1 rfl ?_
    refine lx_iload_n hC dX8_idInRow_21 rfl 2 rfl ?_
    refine lx_callP hC hx (sat_X8_slotAt (xl X) hl p0 p1 s1) (run_V (as := [.int p0, .int p1]) (rest := []) hC hE ly8 rfl cw_X8_slotAt ci_X8_slotAt wd1919 cs_X8_slotAt ce_X8_slotAt cd_X8_slotAt (by decide) (by decide) (Nat.le_of_ble_eq_true rfl) dX8_idInRow_22 rfl) (fun v3 _ => ?_)
    refine lx_istore_n hC dX8_idInRow_25 rfl (by decide) ?_
    refine lx_iload_n hC dX8_idInRow_26 rfl 0 rfl ?_
    refine lx_if_ge hC 38 dX8_idInRow_27 (by decide) ?_ ?_
    · skip
      refine lx_aload_n hC dX8_idInRow_38 rfl 1 rfl ?_
      refine lx_iload_n hC dX8_idInRow_39 rfl 0 rfl ?_
      refine lx_iconstv (v := 0) hC dX8_idInRow_40 rfl ?_
      refine lx_callP hC hx (sat_X8_is (xl X) hl v3 0 s1) (run_V (as := [.int v3, .int 0]) (rest := []) hC hE ly8 rfl cw_X8_is ci_X8_is wd1740 cs_X8_is ce_X8_is cd_X8_is (by decide) (by decide) (Nat.le_of_ble_eq_true rfl) dX8_idInRow_41 rfl) (fun v4 _ => ?_)
      exact lx_iret hC rfl hr dX8_idInRow_44
    · skip
      refine lx_aload_n hC dX8_idInRow_30 rfl 1 rfl ?_
      refine lx_iconstv (v := 2) hC dX8_idInRow_31 rfl ?_
      refine lx_callX hC hx (sat_X8_fails (xl X) hl 2 s1) (run_V (as := [.int 2]) (rest := []) hC hE ly8 rfl cw_X8_fails ci_X8_fails wd1676 cs_X8_fails ce_X8_fails cd_X8_fails (by decide) (by decide) (Nat.le_of_ble_eq_true rfl) dX8_idInRow_32 rfl) (fun v5 s6 _ => ?_)
      refine lx_goto hC 44 dX8_idInRow_35 (by decide) ?_
      exact lx_iret hC rfl hr dX8_idInRow_44
  · skip
    refine lx_aload_n hC dX8_idInRow_13 rfl 0 rfl ?_
    refine lx_iconstv (v := 1) hC dX8_idInRow_14 rfl ?_
    refine lx_callX hC hx (sat_X8_fails (xl X) hl 1 s1) (run_V (as := [.int 1]) (rest := []) hC hE ly8 rfl cw_X8_fails ci_X8_fails wd1676 cs_X8_fails ce_X8_fails cd_X8_fails (by decide) (by decide) (Nat.le_of_ble_eq_true rfl) dX8_idInRow_15 rfl) (fun v7 s8 _ => ?_)
    exact lx_iret hC rfl hr dX8_idInRow_18
def m_X8_echoCount (s : Mem) : Res Int32 := vl (pI s 8 0 0) (fun s1 => if ib 1 135 then some (.inl (gI s1 136 1.toNatClampNeg), s1) else none)
set_option maxRecDepth 100000 in
set_option maxHeartbeats 2000000 in
theorem n_X8_echoCount (s : Mem) : Mn s (m_X8_echoCount s) := by
  unfold m_X8_echoCount
  refine mn_put (fun s1 => ?_)
  refine mn_if ?_ mn_none
  exact mn_some
set_option maxRecDepth 100000 in
set_option maxHeartbeats 2000000 in
theorem sat_X8_echoCount (l : Launch) (hl : l.stackTraces = false) (s : Mem) : Sat l yX8_echoCount (.code yX8_echoCount cX8_echoCount 1 (some .int)) 30 500 (fun x => some (.int x)) [.ref 8] s (m_X8_echoCount s) := by
  refine sat_of hl (by decide) (Nat.le_of_ble_eq_true rfl) (fun X V A adV hxl hC hE hx hr => ?_) (n_X8_echoCount s)
  subst hxl
  show LX X V A 30 500 (nC s) (nS s) _ 0 [(0, .ref 8)] [] s _
  unfold m_X8_echoCount
  refine lx_aload_n hC dX8_echoCount_0 rfl 0 rfl ?_
  refine lx_iconstv (v := 0) hC dX8_echoCount_1 rfl ?_
  refine lx_putI hC ly8 rfl 0 (by decide) rfl tyX8 tyX8_ok nmX8 rfl rfl rfl inX8 wd1605 dX8_echoCount_2 (fun s1 => ?_)
  refine lx_aload_n hC dX8_echoCount_5 rfl 0 rfl ?_
  refine lx_getR (q := 136) hC ly8 rfl 1 (by decide) rfl rfl inX8 wd1606 dX8_echoCount_6 ?_
  refine lx_iconstv (v := 1) hC dX8_echoCount_9 rfl ?_
  refine lx_iaload hC ly136 dX8_echoCount_10 ?_
  exact lx_iret hC rfl hr dX8_echoCount_11
def m_X8_isActive (p0 : Int32) (s : Mem) : Res Int32 := vl (pI s 8 0 0) (fun s1 => bindP (m_X8_slotOf p0 s1) (fun v2 => if v2 < 0 then (some (.inl 0, s1)) else (some (.inl 1, s1))))
set_option maxRecDepth 100000 in
set_option maxHeartbeats 2000000 in
theorem n_X8_isActive (p0 : Int32) (s : Mem) : Mn s (m_X8_isActive p0 s) := by
  unfold m_X8_isActive
  refine mn_put (fun s1 => ?_)
  refine mn_bindP (fun v2 => ?_)
  refine mn_if ?_ ?_
  · skip
    exact mn_some
  · skip
    exact mn_some
set_option maxRecDepth 100000 in
set_option maxHeartbeats 2000000 in
theorem sat_X8_isActive (l : Launch) (hl : l.stackTraces = false) (p0 : Int32) (s : Mem) : Sat l yX8_isActive (.code yX8_isActive cX8_isActive 2 (some .boolean)) 32 544 (fun x => some (.int x)) [.ref 8, .int p0] s (m_X8_isActive p0 s) := by
  refine sat_of hl (by decide) (Nat.le_of_ble_eq_true rfl) (fun X V A adV hxl hC hE hx hr => ?_) (n_X8_isActive p0 s)
  subst hxl
  show LX X V A 32 544 (nC s) (nS s) _ 0 [(0, .ref 8), (1, .int p0)] [] s _
  unfold m_X8_isActive
  refine lx_aload_n hC dX8_isActive_0 rfl 0 rfl ?_
  refine lx_iconstv (v := 0) hC dX8_isActive_1 rfl ?_
  refine lx_putI hC ly8 rfl 0 (by decide) rfl tyX8 tyX8_ok nmX8 rfl rfl rfl inX8 wd1605 dX8_isActive_2 (fun s1 => ?_)
  refine lx_aload_n hC dX8_isActive_5 rfl 0 rfl ?_
  refine lx_iload_n hC dX8_isActive_6 rfl 1 rfl ?_
  refine lx_callP hC hx (sat_X8_slotOf (xl X) hl p0 s1) (run_V (as := [.int p0]) (rest := []) hC hE ly8 rfl cw_X8_slotOf ci_X8_slotOf wd1768 cs_X8_slotOf ce_X8_slotOf cd_X8_slotOf (by decide) (by decide) (Nat.le_of_ble_eq_true rfl) dX8_isActive_7 rfl) (fun v2 _ => ?_)
  refine lx_if_lt hC 17 dX8_isActive_10 (by decide) ?_ ?_
  · skip
    refine lx_iconstv (v := 0) hC dX8_isActive_17 rfl ?_
    exact lx_zret hC rfl hr rfl dX8_isActive_18
  · skip
    refine lx_iconstv (v := 1) hC dX8_isActive_13 rfl ?_
    refine lx_goto hC 18 dX8_isActive_14 (by decide) ?_
    exact lx_zret hC rfl hr rfl dX8_isActive_18
def m_X8_asks (p0 : Int32) (p1 : Int32) (s : Mem) : Res Int32 := vl (pI s 8 0 0) (fun s1 => bindP (m_X8_slotOf p0 s1) (fun v2 => if 0 ≤ v2 then (bindP (m_X8_slotOf p0 s1) (fun v3 => bindP (m_X8_is v3 p1 s1) (fun v4 => some (.inl v4, s1)))) else (bindR (m_X8_fails 1 s1) (fun v5 s6 => some (.inl v5, s6)))))
set_option maxRecDepth 100000 in
set_option maxHeartbeats 2000000 in
theorem n_X8_asks (p0 : Int32) (p1 : Int32) (s : Mem) : Mn s (m_X8_asks p0 p1 s) := by
  unfold m_X8_asks
  refine mn_put (fun s1 => ?_)
  refine mn_bindP (fun v2 => ?_)
  refine mn_if ?_ ?_
  · skip
    refine mn_bindP (fun v3 => ?_)
    refine mn_bindP (fun v4 => ?_)
    exact mn_some
  · skip
    refine mn_bind (n_X8_fails 1 s1) (fun v5 s6 => ?_)
    exact mn_some
set_option maxRecDepth 100000 in
set_option maxHeartbeats 2000000 in
theorem sat_X8_asks (l : Launch) (hl : l.stackTraces = false) (p0 : Int32) (p1 : Int32) (s : Mem) : Sat l yX8_asks (.code yX8_asks cX8_asks 3 (some .int)) 32 544 (fun x => some (.int x)) [.ref 8, .int p0, .int p1] s (m_X8_asks p0 p1 s) := by
  refine sat_of hl (by decide) (Nat.le_of_ble_eq_true rfl) (fun X V A adV hxl hC hE hx hr => ?_) (n_X8_asks p0 p1 s)
  subst hxl
  show LX X V A 32 544 (nC s) (nS s) _ 0 [(0, .ref 8), (1, .int p0), (2, .int p1)] [] s _
  unfold m_X8_asks
  refine lx_aload_n hC dX8_asks_0 rfl 0 rfl ?_
  refine lx_iconstv (v := 0) hC dX8_asks_1 rfl ?_
  refine lx_putI hC ly8 rfl 0 (by decide) rfl tyX8 tyX8_ok nmX8 rfl rfl rfl inX8 wd1605 dX8_asks_2 (fun s1 => ?_)
  refine lx_aload_n hC dX8_asks_5 rfl 0 rfl ?_
  refine lx_iload_n hC dX8_asks_6 rfl 1 rfl ?_
  refine lx_callP hC hx (sat_X8_slotOf (xl X) hl p0 s1) (run_V (as := [.int p0]) (rest := []) hC hE ly8 rfl cw_X8_slotOf ci_X8_slotOf wd1768 cs_X8_slotOf ce_X8_slotOf cd_X8_slotOf (by decide) (by decide) (Nat.le_of_ble_eq_true rfl) dX8_asks_7 rfl) (fun v2 _ => ?_)
  refine lx_if_ge hC 21 dX8_asks_10 (by decide) ?_ ?_
  · skip
    refine lx_aload_n hC dX8_asks_21 rfl 0 rfl ?_
    refine lx_aload_n hC dX8_asks_22 rfl 0 rfl ?_
    refine lx_iload_n hC dX8_asks_23 rfl 1 rfl ?_
    refine lx_callP hC hx (sat_X8_slotOf (xl X) hl p0 s1) (run_V (as := [.int p0]) (rest := [.ref 8]) hC hE ly8 rfl cw_X8_slotOf ci_X8_slotOf wd1768 cs_X8_slotOf ce_X8_slotOf cd_X8_slotOf (by decide) (by decide) (Nat.le_of_ble_eq_true rfl) dX8_asks_24 rfl) (fun v3 _ => ?_)
    refine lx_iload_n hC dX8_asks_27 rfl 2 rfl ?_
    refine lx_callP hC hx (sat_X8_is (xl X) hl v3 p1 s1) (run_V (as := [.int v3, .int p1]) (rest := []) hC hE ly8 rfl cw_X8_is ci_X8_is wd1740 cs_X8_is ce_X8_is cd_X8_is (by decide) (by decide) (Nat.le_of_ble_eq_true rfl) dX8_asks_28 rfl) (fun v4 _ => ?_)
    exact lx_iret hC rfl hr dX8_asks_31
  · skip
    refine lx_aload_n hC dX8_asks_13 rfl 0 rfl ?_
    refine lx_iconstv (v := 1) hC dX8_asks_14 rfl ?_
    refine lx_callX hC hx (sat_X8_fails (xl X) hl 1 s1) (run_V (as := [.int 1]) (rest := []) hC hE ly8 rfl cw_X8_fails ci_X8_fails wd1676 cs_X8_fails ce_X8_fails cd_X8_fails (by decide) (by decide) (Nat.le_of_ble_eq_true rfl) dX8_asks_15 rfl) (fun v5 s6 _ => ?_)
    refine lx_goto hC 31 dX8_asks_18 (by decide) ?_
    exact lx_iret hC rfl hr dX8_asks_31
def m_X8_rowOf (p0 : Int32) (s : Mem) : Res Int32 := bindR (m_X8_asks p0 1 s) (fun v1 s2 => some (.inl v1, s2))
set_option maxRecDepth 100000 in
set_option maxHeartbeats 2000000 in
theorem n_X8_rowOf (p0 : Int32) (s : Mem) : Mn s (m_X8_rowOf p0 s) := by
  unfold m_X8_rowOf
  refine mn_bind (n_X8_asks p0 1 s) (fun v1 s2 => ?_)
  exact mn_some
set_option maxRecDepth 100000 in
set_option maxHeartbeats 2000000 in
theorem sat_X8_rowOf (l : Launch) (hl : l.stackTraces = false) (p0 : Int32) (s : Mem) : Sat l yX8_rowOf (.code yX8_rowOf cX8_rowOf 2 (some .int)) 33 566 (fun x => some (.int x)) [.ref 8, .int p0] s (m_X8_rowOf p0 s) := by
  refine sat_of hl (by decide) (Nat.le_of_ble_eq_true rfl) (fun X V A adV hxl hC hE hx hr => ?_) (n_X8_rowOf p0 s)
  subst hxl
  show LX X V A 33 566 (nC s) (nS s) _ 0 [(0, .ref 8), (1, .int p0)] [] s _
  unfold m_X8_rowOf
  refine lx_aload_n hC dX8_rowOf_0 rfl 0 rfl ?_
  refine lx_iload_n hC dX8_rowOf_1 rfl 1 rfl ?_
  refine lx_iconstv (v := 1) hC dX8_rowOf_2 rfl ?_
  refine lx_callX hC hx (sat_X8_asks (xl X) hl p0 1 s) (run_V (as := [.int p0, .int 1]) (rest := []) hC hE ly8 rfl cw_X8_asks ci_X8_asks wd1935 cs_X8_asks ce_X8_asks cd_X8_asks (by decide) (by decide) (Nat.le_of_ble_eq_true rfl) dX8_rowOf_3 rfl) (fun v1 s2 _ => ?_)
  exact lx_iret hC rfl hr dX8_rowOf_6
def m_X8_loudness (p0 : Int32) (s : Mem) : Res Int32 := bindR (m_X8_asks p0 2 s) (fun v1 s2 => some (.inl v1, s2))
set_option maxRecDepth 100000 in
set_option maxHeartbeats 2000000 in
theorem n_X8_loudness (p0 : Int32) (s : Mem) : Mn s (m_X8_loudness p0 s) := by
  unfold m_X8_loudness
  refine mn_bind (n_X8_asks p0 2 s) (fun v1 s2 => ?_)
  exact mn_some
set_option maxRecDepth 100000 in
set_option maxHeartbeats 2000000 in
theorem sat_X8_loudness (l : Launch) (hl : l.stackTraces = false) (p0 : Int32) (s : Mem) : Sat l yX8_loudness (.code yX8_loudness cX8_loudness 2 (some .int)) 33 566 (fun x => some (.int x)) [.ref 8, .int p0] s (m_X8_loudness p0 s) := by
  refine sat_of hl (by decide) (Nat.le_of_ble_eq_true rfl) (fun X V A adV hxl hC hE hx hr => ?_) (n_X8_loudness p0 s)
  subst hxl
  show LX X V A 33 566 (nC s) (nS s) _ 0 [(0, .ref 8), (1, .int p0)] [] s _
  unfold m_X8_loudness
  refine lx_aload_n hC dX8_loudness_0 rfl 0 rfl ?_
  refine lx_iload_n hC dX8_loudness_1 rfl 1 rfl ?_
  refine lx_iconstv (v := 2) hC dX8_loudness_2 rfl ?_
  refine lx_callX hC hx (sat_X8_asks (xl X) hl p0 2 s) (run_V (as := [.int p0, .int 2]) (rest := []) hC hE ly8 rfl cw_X8_asks ci_X8_asks wd1935 cs_X8_asks ce_X8_asks cd_X8_asks (by decide) (by decide) (Nat.le_of_ble_eq_true rfl) dX8_loudness_3 rfl) (fun v1 s2 _ => ?_)
  exact lx_iret hC rfl hr dX8_loudness_6
def m_X8_positionOf_b4 (x1 : Int32) (s : Mem) (kf4 : (Int32 × Int32) → Option Int32) (w2 : Int32) (w3 : Int32) : Option Int32 := if x1 ≤ w3 then (some w2) else (bindO (m_X8_is w3 1 s) (fun v2 => bindO (m_X8_is x1 1 s) (fun v3 => if ¬ v2 = v3 then (vl (w2 + 0) (fun y4 => vl (w3 + 1) (fun y5 => kf4 (y4, y5)))) else (vl (w2 + 1) (fun y6 => vl (w3 + 1) (fun y7 => kf4 (y6, y7)))))))
def m_X8_positionOf (p0 : Int32) (s : Mem) : Option Int32 := lpO (fun kf4 a => m_X8_positionOf_b4 p0 s kf4 a.1 a.2) FUEL (0, 0)
set_option maxRecDepth 100000 in
set_option maxHeartbeats 2000000 in
theorem l_X8_positionOf_b4 {X : Cx} {V : Vx} {A : Nat → Prop} {adV : Nat → Nat} {c0 s0 : Nat} (hC : Cok X V A yX8_positionOf.cls cX8_positionOf 4) (hE : Env0 V adV A (xs X) (xs X).heap) (hl : (xl X).stackTraces = false) (hx : ∀ x ∈ (xc X).exceptionTable.toList, False) (hr : (xh X).sig.returnType = some .int) (x1 : Int32) (s : Mem) (kf4 : (Int32 × Int32) → Option Int32) (hk4 : ∀ a, LX X V A 31 522 c0 s0 (FM X V A (fun x => some (.int x))) 4 [(0, .ref 8), (1, .int x1), (2, .int a.1), (3, .int a.2)] [] s (pur s (kf4 a))) (w2 : Int32) (w3 : Int32) : LX X V A 31 522 c0 s0 (FM X V A (fun x => some (.int x))) 4 [(0, .ref 8), (1, .int x1), (2, .int w2), (3, .int w3)] [] s (pur s (m_X8_positionOf_b4 x1 s kf4 w2 w3 )) := by
  unfold m_X8_positionOf_b4
  refine lx_iload_n hC dX8_positionOf_4 rfl 3 rfl ?_
  refine lx_iload_n hC dX8_positionOf_5 rfl 1 rfl ?_
  refine lq_icmp_ge hC 38 dX8_positionOf_6 (by decide) ?_ ?_
  · skip
    refine lx_iload_n hC dX8_positionOf_38 rfl 2 rfl ?_
    exact lx_iret hC rfl hr dX8_positionOf_39
  · skip
    refine lx_iload_n hC dX8_positionOf_9 rfl 2 rfl ?_
    refine lx_aload_n hC dX8_positionOf_10 rfl 0 rfl ?_
    refine lx_iload_n hC dX8_positionOf_11 rfl 3 rfl ?_
    refine lx_iconstv (v := 1) hC dX8_positionOf_12 rfl ?_
    refine lq_call hC hx (sat_X8_is (xl X) hl w3 1 s) (run_V (as := [.int w3, .int 1]) (rest := [.int w2]) hC hE ly8 rfl cw_X8_is ci_X8_is wd1740 cs_X8_is ce_X8_is cd_X8_is (by decide) (by decide) (Nat.le_of_ble_eq_true rfl) dX8_positionOf_13 rfl) (fun v2 _ => ?_)
    refine lx_aload_n hC dX8_positionOf_16 rfl 0 rfl ?_
    refine lx_iload_n hC dX8_positionOf_17 rfl 1 rfl ?_
    refine lx_iconstv (v := 1) hC dX8_positionOf_18 rfl ?_
    refine lq_call hC hx (sat_X8_is (xl X) hl x1 1 s) (run_V (as := [.int x1, .int 1]) (rest := [.int v2, .int w2]) hC hE ly8 rfl cw_X8_is ci_X8_is wd1740 cs_X8_is ce_X8_is cd_X8_is (by decide) (by decide) (Nat.le_of_ble_eq_true rfl) dX8_positionOf_19 rfl) (fun v3 _ => ?_)
    refine lq_icmp_ne hC 29 dX8_positionOf_22 (by decide) ?_ ?_
    · skip
      refine lx_iconstv (v := 0) hC dX8_positionOf_29 rfl ?_
      refine lx_iadd hC dX8_positionOf_30 ?_
      refine lq_istore_nN hC dX8_positionOf_31 rfl (by decide) (fun y4 => ?_)
      refine lq_iincN (v := 1) hC dX8_positionOf_32 3 rfl (by decide) rfl (fun y5 => ?_)
      refine lx_goto hC 4 dX8_positionOf_35 (by decide) ?_
      exact lx_sub [2, 3, 1, 0] rfl (hk4 (y4, y5))
    · skip
      refine lx_iconstv (v := 1) hC dX8_positionOf_25 rfl ?_
      refine lx_goto hC 30 dX8_positionOf_26 (by decide) ?_
      refine lx_iadd hC dX8_positionOf_30 ?_
      refine lq_istore_nN hC dX8_positionOf_31 rfl (by decide) (fun y6 => ?_)
      refine lq_iincN (v := 1) hC dX8_positionOf_32 3 rfl (by decide) rfl (fun y7 => ?_)
      refine lx_goto hC 4 dX8_positionOf_35 (by decide) ?_
      exact lx_sub [2, 3, 1, 0] rfl (hk4 (y6, y7))
set_option maxRecDepth 100000 in
set_option maxHeartbeats 2000000 in
theorem sat_X8_positionOf (l : Launch) (hl : l.stackTraces = false) (p0 : Int32) (s : Mem) : Sat l yX8_positionOf (.code yX8_positionOf cX8_positionOf 4 (some .int)) 31 522 (fun x => some (.int x)) [.ref 8, .int p0] s (pur s (m_X8_positionOf p0 s)) := by
  refine sat_of hl (by decide) (Nat.le_of_ble_eq_true rfl) (fun X V A adV hxl hC hE hx hr => ?_) pur_mono
  subst hxl
  show LX X V A 31 522 (nC s) (nS s) _ 0 [(0, .ref 8), (1, .int p0)] [] s _
  unfold m_X8_positionOf
  refine lx_iconstv (v := 0) hC dX8_positionOf_0 rfl ?_
  refine lx_istore_n hC dX8_positionOf_1 rfl (by decide) ?_
  refine lx_iconstv (v := 0) hC dX8_positionOf_2 rfl ?_
  refine lx_istore_n hC dX8_positionOf_3 rfl (by decide) ?_
  refine lx_sub [2, 3, 1, 0] rfl ?_
  exact lq_lp (lv := fun a => [(0, .ref 8), (1, .int p0), (2, .int a.1), (3, .int a.2)]) (st := fun _ => []) (fun kf hq a => l_X8_positionOf_b4 hC hE hl hx hr p0 s kf hq a.1 a.2) FUEL (0, 0)
def m_X8_positionInRow (p0 : Int32) (s : Mem) : Res Int32 := vl (pI s 8 0 0) (fun s1 => bindP (m_X8_slotOf p0 s1) (fun v2 => if 0 ≤ v2 then (bindP (m_X8_slotOf p0 s1) (fun v3 => bindP (m_X8_positionOf v3 s1) (fun v4 => some (.inl v4, s1)))) else (bindR (m_X8_fails 1 s1) (fun v5 s6 => some (.inl v5, s6)))))
set_option maxRecDepth 100000 in
set_option maxHeartbeats 2000000 in
theorem n_X8_positionInRow (p0 : Int32) (s : Mem) : Mn s (m_X8_positionInRow p0 s) := by
  unfold m_X8_positionInRow
  refine mn_put (fun s1 => ?_)
  refine mn_bindP (fun v2 => ?_)
  refine mn_if ?_ ?_
  · skip
    refine mn_bindP (fun v3 => ?_)
    refine mn_bindP (fun v4 => ?_)
    exact mn_some
  · skip
    refine mn_bind (n_X8_fails 1 s1) (fun v5 s6 => ?_)
    exact mn_some
set_option maxRecDepth 100000 in
set_option maxHeartbeats 2000000 in
theorem sat_X8_positionInRow (l : Launch) (hl : l.stackTraces = false) (p0 : Int32) (s : Mem) : Sat l yX8_positionInRow (.code yX8_positionInRow cX8_positionInRow 2 (some .int)) 32 545 (fun x => some (.int x)) [.ref 8, .int p0] s (m_X8_positionInRow p0 s) := by
  refine sat_of hl (by decide) (Nat.le_of_ble_eq_true rfl) (fun X V A adV hxl hC hE hx hr => ?_) (n_X8_positionInRow p0 s)
  subst hxl
  show LX X V A 32 545 (nC s) (nS s) _ 0 [(0, .ref 8), (1, .int p0)] [] s _
  unfold m_X8_positionInRow
  refine lx_aload_n hC dX8_positionInRow_0 rfl 0 rfl ?_
  refine lx_iconstv (v := 0) hC dX8_positionInRow_1 rfl ?_
  refine lx_putI hC ly8 rfl 0 (by decide) rfl tyX8 tyX8_ok nmX8 rfl rfl rfl inX8 wd1605 dX8_positionInRow_2 (fun s1 => ?_)
  refine lx_aload_n hC dX8_positionInRow_5 rfl 0 rfl ?_
  refine lx_iload_n hC dX8_positionInRow_6 rfl 1 rfl ?_
  refine lx_callP hC hx (sat_X8_slotOf (xl X) hl p0 s1) (run_V (as := [.int p0]) (rest := []) hC hE ly8 rfl cw_X8_slotOf ci_X8_slotOf wd1768 cs_X8_slotOf ce_X8_slotOf cd_X8_slotOf (by decide) (by decide) (Nat.le_of_ble_eq_true rfl) dX8_positionInRow_7 rfl) (fun v2 _ => ?_)
  refine lx_if_ge hC 21 dX8_positionInRow_10 (by decide) ?_ ?_
  · skip
    refine lx_aload_n hC dX8_positionInRow_21 rfl 0 rfl ?_
    refine lx_aload_n hC dX8_positionInRow_22 rfl 0 rfl ?_
    refine lx_iload_n hC dX8_positionInRow_23 rfl 1 rfl ?_
    refine lx_callP hC hx (sat_X8_slotOf (xl X) hl p0 s1) (run_V (as := [.int p0]) (rest := [.ref 8]) hC hE ly8 rfl cw_X8_slotOf ci_X8_slotOf wd1768 cs_X8_slotOf ce_X8_slotOf cd_X8_slotOf (by decide) (by decide) (Nat.le_of_ble_eq_true rfl) dX8_positionInRow_24 rfl) (fun v3 _ => ?_)
    refine lx_callP hC hx (sat_X8_positionOf (xl X) hl v3 s1) (run_V (as := [.int v3]) (rest := []) hC hE ly8 rfl cw_X8_positionOf ci_X8_positionOf wd1947 cs_X8_positionOf ce_X8_positionOf cd_X8_positionOf (by decide) (by decide) (Nat.le_of_ble_eq_true rfl) dX8_positionInRow_27 rfl) (fun v4 _ => ?_)
    exact lx_iret hC rfl hr dX8_positionInRow_30
  · skip
    refine lx_aload_n hC dX8_positionInRow_13 rfl 0 rfl ?_
    refine lx_iconstv (v := 1) hC dX8_positionInRow_14 rfl ?_
    refine lx_callX hC hx (sat_X8_fails (xl X) hl 1 s1) (run_V (as := [.int 1]) (rest := []) hC hE ly8 rfl cw_X8_fails ci_X8_fails wd1676 cs_X8_fails ce_X8_fails cd_X8_fails (by decide) (by decide) (Nat.le_of_ble_eq_true rfl) dX8_positionInRow_15 rfl) (fun v5 s6 _ => ?_)
    refine lx_goto hC 30 dX8_positionInRow_18 (by decide) ?_
    exact lx_iret hC rfl hr dX8_positionInRow_30
def m_X8_hasHeir (p0 : Int32) (s : Mem) : Res Int32 := bindR (m_X8_asks p0 3 s) (fun v1 s2 => if v1 ≤ 0 then (some (.inl 0, s2)) else (some (.inl 1, s2)))
set_option maxRecDepth 100000 in
set_option maxHeartbeats 2000000 in
theorem n_X8_hasHeir (p0 : Int32) (s : Mem) : Mn s (m_X8_hasHeir p0 s) := by
  unfold m_X8_hasHeir
  refine mn_bind (n_X8_asks p0 3 s) (fun v1 s2 => ?_)
  refine mn_if ?_ ?_
  · skip
    exact mn_some
  · skip
    exact mn_some
set_option maxRecDepth 100000 in
set_option maxHeartbeats 2000000 in
theorem sat_X8_hasHeir (l : Launch) (hl : l.stackTraces = false) (p0 : Int32) (s : Mem) : Sat l yX8_hasHeir (.code yX8_hasHeir cX8_hasHeir 2 (some .boolean)) 33 566 (fun x => some (.int x)) [.ref 8, .int p0] s (m_X8_hasHeir p0 s) := by
  refine sat_of hl (by decide) (Nat.le_of_ble_eq_true rfl) (fun X V A adV hxl hC hE hx hr => ?_) (n_X8_hasHeir p0 s)
  subst hxl
  show LX X V A 33 566 (nC s) (nS s) _ 0 [(0, .ref 8), (1, .int p0)] [] s _
  unfold m_X8_hasHeir
  refine lx_aload_n hC dX8_hasHeir_0 rfl 0 rfl ?_
  refine lx_iload_n hC dX8_hasHeir_1 rfl 1 rfl ?_
  refine lx_iconstv (v := 3) hC dX8_hasHeir_2 rfl ?_
  refine lx_callX hC hx (sat_X8_asks (xl X) hl p0 3 s) (run_V (as := [.int p0, .int 3]) (rest := []) hC hE ly8 rfl cw_X8_asks ci_X8_asks wd1935 cs_X8_asks ce_X8_asks cd_X8_asks (by decide) (by decide) (Nat.le_of_ble_eq_true rfl) dX8_hasHeir_3 rfl) (fun v1 s2 _ => ?_)
  refine lx_if_le hC 13 dX8_hasHeir_6 (by decide) ?_ ?_
  · skip
    refine lx_iconstv (v := 0) hC dX8_hasHeir_13 rfl ?_
    exact lx_zret hC rfl hr rfl dX8_hasHeir_14
  · skip
    refine lx_iconstv (v := 1) hC dX8_hasHeir_9 rfl ?_
    refine lx_goto hC 14 dX8_hasHeir_10 (by decide) ?_
    exact lx_zret hC rfl hr rfl dX8_hasHeir_14
def m_X8_heir (p0 : Int32) (s : Mem) : Res Int32 := bindR (m_X8_asks p0 3 s) (fun v1 s2 => if gI s2 8 0 = 0 then (if ¬ v1 = 0 then (some (.inl (v1 - 1), s2)) else (bindR (m_X8_fails 2 s2) (fun v3 s4 => some (.inl v3, s4)))) else (some (.inl 0, s2)))
set_option maxRecDepth 100000 in
set_option maxHeartbeats 2000000 in
theorem n_X8_heir (p0 : Int32) (s : Mem) : Mn s (m_X8_heir p0 s) := by
  unfold m_X8_heir
  refine mn_bind (n_X8_asks p0 3 s) (fun v1 s2 => ?_)
  refine mn_if ?_ ?_
  · skip
    refine mn_if ?_ ?_
    · skip
      exact mn_some
    · skip
      refine mn_bind (n_X8_fails 2 s2) (fun v3 s4 => ?_)
      exact mn_some
  · skip
    exact mn_some
set_option maxRecDepth 100000 in
set_option maxHeartbeats 2000000 in
theorem sat_X8_heir (l : Launch) (hl : l.stackTraces = false) (p0 : Int32) (s : Mem) : Sat l yX8_heir (.code yX8_heir cX8_heir 3 (some .int)) 33 566 (fun x => some (.int x)) [.ref 8, .int p0] s (m_X8_heir p0 s) := by
  refine sat_of hl (by decide) (Nat.le_of_ble_eq_true rfl) (fun X V A adV hxl hC hE hx hr => ?_) (n_X8_heir p0 s)
  subst hxl
  show LX X V A 33 566 (nC s) (nS s) _ 0 [(0, .ref 8), (1, .int p0)] [] s _
  unfold m_X8_heir
  refine lx_aload_n hC dX8_heir_0 rfl 0 rfl ?_
  refine lx_iload_n hC dX8_heir_1 rfl 1 rfl ?_
  refine lx_iconstv (v := 3) hC dX8_heir_2 rfl ?_
  refine lx_callX hC hx (sat_X8_asks (xl X) hl p0 3 s) (run_V (as := [.int p0, .int 3]) (rest := []) hC hE ly8 rfl cw_X8_asks ci_X8_asks wd1935 cs_X8_asks ce_X8_asks cd_X8_asks (by decide) (by decide) (Nat.le_of_ble_eq_true rfl) dX8_heir_3 rfl) (fun v1 s2 _ => ?_)
  refine lx_istore_n hC dX8_heir_6 rfl (by decide) ?_
  refine lx_aload_n hC dX8_heir_7 rfl 1 rfl ?_
  refine lx_getI hC ly8 rfl 0 (by decide) rfl inX8 wd1605 dX8_heir_8 ?_
  refine lx_if_eq hC 16 dX8_heir_11 (by decide) ?_ ?_
  · skip
    refine lx_iload_n hC dX8_heir_16 rfl 0 rfl ?_
    refine lx_if_ne hC 28 dX8_heir_17 (by decide) ?_ ?_
    · skip
      refine lx_iload_n hC dX8_heir_28 rfl 0 rfl ?_
      refine lx_iconstv (v := 1) hC dX8_heir_29 rfl ?_
      refine lx_isub hC dX8_heir_30 ?_
      exact lx_iret hC rfl hr dX8_heir_31
    · skip
      refine lx_aload_n hC dX8_heir_20 rfl 1 rfl ?_
      refine lx_iconstv (v := 2) hC dX8_heir_21 rfl ?_
      refine lx_callX hC hx (sat_X8_fails (xl X) hl 2 s2) (run_V (as := [.int 2]) (rest := []) hC hE ly8 rfl cw_X8_fails ci_X8_fails wd1676 cs_X8_fails ce_X8_fails cd_X8_fails (by decide) (by decide) (Nat.le_of_ble_eq_true rfl) dX8_heir_22 rfl) (fun v3 s4 _ => ?_)
      refine lx_goto hC 31 dX8_heir_25 (by decide) ?_
      exact lx_iret hC rfl hr dX8_heir_31
  · skip
    refine lx_iconstv (v := 0) hC dX8_heir_14 rfl ?_
    exact lx_iret hC rfl hr dX8_heir_15
def m_X8_lastHeir (p0 : Int32) (s : Mem) : Res Int32 := vl (pI s 8 0 0) (fun s1 => bindP (m_X8_slotOf p0 s1) (fun v2 => if 0 ≤ v2 then (bindP (m_X8_slotOf p0 s1) (fun v3 => bindP (m_X8_lastHeirOf v3 s1) (fun v4 => bindP (m_X8_is v4 0 s1) (fun v5 => some (.inl v5, s1))))) else (bindR (m_X8_fails 1 s1) (fun v6 s7 => some (.inl v6, s7)))))
set_option maxRecDepth 100000 in
set_option maxHeartbeats 2000000 in
theorem n_X8_lastHeir (p0 : Int32) (s : Mem) : Mn s (m_X8_lastHeir p0 s) := by
  unfold m_X8_lastHeir
  refine mn_put (fun s1 => ?_)
  refine mn_bindP (fun v2 => ?_)
  refine mn_if ?_ ?_
  · skip
    refine mn_bindP (fun v3 => ?_)
    refine mn_bindP (fun v4 => ?_)
    refine mn_bindP (fun v5 => ?_)
    exact mn_some
  · skip
    refine mn_bind (n_X8_fails 1 s1) (fun v6 s7 => ?_)
    exact mn_some
set_option maxRecDepth 100000 in
set_option maxHeartbeats 2000000 in
theorem sat_X8_lastHeir (l : Launch) (hl : l.stackTraces = false) (p0 : Int32) (s : Mem) : Sat l yX8_lastHeir (.code yX8_lastHeir cX8_lastHeir 2 (some .int)) 33 566 (fun x => some (.int x)) [.ref 8, .int p0] s (m_X8_lastHeir p0 s) := by
  refine sat_of hl (by decide) (Nat.le_of_ble_eq_true rfl) (fun X V A adV hxl hC hE hx hr => ?_) (n_X8_lastHeir p0 s)
  subst hxl
  show LX X V A 33 566 (nC s) (nS s) _ 0 [(0, .ref 8), (1, .int p0)] [] s _
  unfold m_X8_lastHeir
  refine lx_aload_n hC dX8_lastHeir_0 rfl 0 rfl ?_
  refine lx_iconstv (v := 0) hC dX8_lastHeir_1 rfl ?_
  refine lx_putI hC ly8 rfl 0 (by decide) rfl tyX8 tyX8_ok nmX8 rfl rfl rfl inX8 wd1605 dX8_lastHeir_2 (fun s1 => ?_)
  refine lx_aload_n hC dX8_lastHeir_5 rfl 0 rfl ?_
  refine lx_iload_n hC dX8_lastHeir_6 rfl 1 rfl ?_
  refine lx_callP hC hx (sat_X8_slotOf (xl X) hl p0 s1) (run_V (as := [.int p0]) (rest := []) hC hE ly8 rfl cw_X8_slotOf ci_X8_slotOf wd1768 cs_X8_slotOf ce_X8_slotOf cd_X8_slotOf (by decide) (by decide) (Nat.le_of_ble_eq_true rfl) dX8_lastHeir_7 rfl) (fun v2 _ => ?_)
  refine lx_if_ge hC 21 dX8_lastHeir_10 (by decide) ?_ ?_
  · skip
    refine lx_aload_n hC dX8_lastHeir_21 rfl 0 rfl ?_
    refine lx_aload_n hC dX8_lastHeir_22 rfl 0 rfl ?_
    refine lx_aload_n hC dX8_lastHeir_23 rfl 0 rfl ?_
    refine lx_iload_n hC dX8_lastHeir_24 rfl 1 rfl ?_
    refine lx_callP hC hx (sat_X8_slotOf (xl X) hl p0 s1) (run_V (as := [.int p0]) (rest := [.ref 8, .ref 8]) hC hE ly8 rfl cw_X8_slotOf ci_X8_slotOf wd1768 cs_X8_slotOf ce_X8_slotOf cd_X8_slotOf (by decide) (by decide) (Nat.le_of_ble_eq_true rfl) dX8_lastHeir_25 rfl) (fun v3 _ => ?_)
    refine lx_callP hC hx (sat_X8_lastHeirOf (xl X) hl v3 s1) (run_V (as := [.int v3]) (rest := [.ref 8]) hC hE ly8 rfl cw_X8_lastHeirOf ci_X8_lastHeirOf wd1963 cs_X8_lastHeirOf ce_X8_lastHeirOf cd_X8_lastHeirOf (by decide) (by decide) (Nat.le_of_ble_eq_true rfl) dX8_lastHeir_28 rfl) (fun v4 _ => ?_)
    refine lx_iconstv (v := 0) hC dX8_lastHeir_31 rfl ?_
    refine lx_callP hC hx (sat_X8_is (xl X) hl v4 0 s1) (run_V (as := [.int v4, .int 0]) (rest := []) hC hE ly8 rfl cw_X8_is ci_X8_is wd1740 cs_X8_is ce_X8_is cd_X8_is (by decide) (by decide) (Nat.le_of_ble_eq_true rfl) dX8_lastHeir_32 rfl) (fun v5 _ => ?_)
    exact lx_iret hC rfl hr dX8_lastHeir_35
  · skip
    refine lx_aload_n hC dX8_lastHeir_13 rfl 0 rfl ?_
    refine lx_iconstv (v := 1) hC dX8_lastHeir_14 rfl ?_
    refine lx_callX hC hx (sat_X8_fails (xl X) hl 1 s1) (run_V (as := [.int 1]) (rest := []) hC hE ly8 rfl cw_X8_fails ci_X8_fails wd1676 cs_X8_fails ce_X8_fails cd_X8_fails (by decide) (by decide) (Nat.le_of_ble_eq_true rfl) dX8_lastHeir_15 rfl) (fun v6 s7 _ => ?_)
    refine lx_goto hC 35 dX8_lastHeir_18 (by decide) ?_
    exact lx_iret hC rfl hr dX8_lastHeir_35
def m_X8_lastHeirByDoubling (p0 : Int32) (s : Mem) : Res Int32 := bindR (m_X8_lastHeir p0 s) (fun v1 s2 => some (.inl v1, s2))
set_option maxRecDepth 100000 in
set_option maxHeartbeats 2000000 in
theorem n_X8_lastHeirByDoubling (p0 : Int32) (s : Mem) : Mn s (m_X8_lastHeirByDoubling p0 s) := by
  unfold m_X8_lastHeirByDoubling
  refine mn_bind (n_X8_lastHeir p0 s) (fun v1 s2 => ?_)
  exact mn_some
set_option maxRecDepth 100000 in
set_option maxHeartbeats 2000000 in
theorem sat_X8_lastHeirByDoubling (l : Launch) (hl : l.stackTraces = false) (p0 : Int32) (s : Mem) : Sat l yX8_lastHeirByDoubling (.code yX8_lastHeirByDoubling cX8_lastHeirByDoubling 2 (some .int)) 34 587 (fun x => some (.int x)) [.ref 8, .int p0] s (m_X8_lastHeirByDoubling p0 s) := by
  refine sat_of hl (by decide) (Nat.le_of_ble_eq_true rfl) (fun X V A adV hxl hC hE hx hr => ?_) (n_X8_lastHeirByDoubling p0 s)
  subst hxl
  show LX X V A 34 587 (nC s) (nS s) _ 0 [(0, .ref 8), (1, .int p0)] [] s _
  unfold m_X8_lastHeirByDoubling
  refine lx_aload_n hC dX8_lastHeirByDoubling_0 rfl 0 rfl ?_
  refine lx_iload_n hC dX8_lastHeirByDoubling_1 rfl 1 rfl ?_
  refine lx_callX hC hx (sat_X8_lastHeir (xl X) hl p0 s) (run_V (as := [.int p0]) (rest := []) hC hE ly8 rfl cw_X8_lastHeir ci_X8_lastHeir wd1971 cs_X8_lastHeir ce_X8_lastHeir cd_X8_lastHeir (by decide) (by decide) (Nat.le_of_ble_eq_true rfl) dX8_lastHeirByDoubling_2 rfl) (fun v1 s2 _ => ?_)
  exact lx_iret hC rfl hr dX8_lastHeirByDoubling_5
def m_X8_stepsToLastHeir_b27 (s : Mem) (kf27 : (Int32 × Int32) → Res Int32) (w2 : Int32) (w3 : Int32) : Res Int32 := bindP (m_X8_is w3 3 s) (fun v4 => if v4 = 0 then (some (.inl w2, s)) else (vl (w2 + 1) (fun y5 => bindP (m_X8_is w3 3 s) (fun v6 => bindP (m_X8_slotOf (v6 - 1) s) (fun v7 => kf27 (y5, v7))))))
def m_X8_stepsToLastHeir (p0 : Int32) (s : Mem) : Res Int32 := vl (pI s 8 0 0) (fun s1 => bindP (m_X8_slotOf p0 s1) (fun v2 => if 0 ≤ v2 then (bindP (m_X8_slotOf p0 s1) (fun v3 => lp (fun kf27 a => m_X8_stepsToLastHeir_b27 s1 kf27 a.1 a.2) FUEL (0, v3))) else (bindR (m_X8_fails 1 s1) (fun v8 s9 => some (.inl v8, s9)))))
set_option maxRecDepth 100000 in
set_option maxHeartbeats 2000000 in
theorem l_X8_stepsToLastHeir_b27 {X : Cx} {V : Vx} {A : Nat → Prop} {adV : Nat → Nat} {c0 s0 : Nat} (hC : Cok X V A yX8_stepsToLastHeir.cls cX8_stepsToLastHeir 4) (hE : Env0 V adV A (xs X) (xs X).heap) (hl : (xl X).stackTraces = false) (hx : ∀ x ∈ (xc X).exceptionTable.toList, False) (hr : (xh X).sig.returnType = some .int) (s : Mem) (kf27 : (Int32 × Int32) → Res Int32) (hk27 : ∀ a, LX X V A 32 544 c0 s0 (FM X V A (fun x => some (.int x))) 27 [(0, .ref 8), (2, .int a.1), (3, .int a.2)] [] s (kf27 a)) (w2 : Int32) (w3 : Int32) : LX X V A 32 544 c0 s0 (FM X V A (fun x => some (.int x))) 27 [(0, .ref 8), (2, .int w2), (3, .int w3)] [] s (m_X8_stepsToLastHeir_b27 s kf27 w2 w3 ) := by
  unfold m_X8_stepsToLastHeir_b27
  refine lx_aload_n hC dX8_stepsToLastHeir_27 rfl 0 rfl ?_
  refine lx_iload_n hC dX8_stepsToLastHeir_28 rfl 2 rfl ?_
  refine lx_iconstv (v := 3) hC dX8_stepsToLastHeir_29 rfl ?_
  refine lx_callP hC hx (sat_X8_is (xl X) hl w3 3 s) (run_V (as := [.int w3, .int 3]) (rest := []) hC hE ly8 rfl cw_X8_is ci_X8_is wd1740 cs_X8_is ce_X8_is cd_X8_is (by decide) (by decide) (Nat.le_of_ble_eq_true rfl) dX8_stepsToLastHeir_30 rfl) (fun v4 _ => ?_)
  refine lx_if_eq hC 55 dX8_stepsToLastHeir_33 (by decide) ?_ ?_
  · skip
    refine lx_iload_n hC dX8_stepsToLastHeir_55 rfl 1 rfl ?_
    exact lx_iret hC rfl hr dX8_stepsToLastHeir_56
  · skip
    refine lx_iincN (v := 1) hC dX8_stepsToLastHeir_36 1 rfl (by decide) rfl (fun y5 => ?_)
    refine lx_aload_n hC dX8_stepsToLastHeir_39 rfl 1 rfl ?_
    refine lx_aload_n hC dX8_stepsToLastHeir_40 rfl 1 rfl ?_
    refine lx_iload_n hC dX8_stepsToLastHeir_41 rfl 2 rfl ?_
    refine lx_iconstv (v := 3) hC dX8_stepsToLastHeir_42 rfl ?_
    refine lx_callP hC hx (sat_X8_is (xl X) hl w3 3 s) (run_V (as := [.int w3, .int 3]) (rest := [.ref 8]) hC hE ly8 rfl cw_X8_is ci_X8_is wd1740 cs_X8_is ce_X8_is cd_X8_is (by decide) (by decide) (Nat.le_of_ble_eq_true rfl) dX8_stepsToLastHeir_43 rfl) (fun v6 _ => ?_)
    refine lx_iconstv (v := 1) hC dX8_stepsToLastHeir_46 rfl ?_
    refine lx_isub hC dX8_stepsToLastHeir_47 ?_
    refine lx_callP hC hx (sat_X8_slotOf (xl X) hl (v6 - 1) s) (run_V (as := [.int (v6 - 1)]) (rest := []) hC hE ly8 rfl cw_X8_slotOf ci_X8_slotOf wd1768 cs_X8_slotOf ce_X8_slotOf cd_X8_slotOf (by decide) (by decide) (Nat.le_of_ble_eq_true rfl) dX8_stepsToLastHeir_48 rfl) (fun v7 _ => ?_)
    refine lx_istore_n hC dX8_stepsToLastHeir_51 rfl (by decide) ?_
    refine lx_goto hC 27 dX8_stepsToLastHeir_52 (by decide) ?_
    exact lx_sub [2, 1, 0] rfl (hk27 (y5, v7))
set_option maxRecDepth 100000 in
set_option maxHeartbeats 2000000 in
theorem n_X8_stepsToLastHeir_b27 (s : Mem) (kf27 : (Int32 × Int32) → Res Int32) (hm27 : ∀ a, Mn s (kf27 a)) (w2 : Int32) (w3 : Int32) : Mn s (m_X8_stepsToLastHeir_b27 s kf27 w2 w3 ) := by
  unfold m_X8_stepsToLastHeir_b27
  refine mn_bindP (fun v4 => ?_)
  refine mn_if ?_ ?_
  · skip
    exact mn_some
  · skip
    refine mn_vl (fun y5 => ?_)
    refine mn_bindP (fun v6 => ?_)
    refine mn_bindP (fun v7 => ?_)
    exact hm27 (y5, v7)
set_option maxRecDepth 100000 in
set_option maxHeartbeats 2000000 in
theorem n_X8_stepsToLastHeir (p0 : Int32) (s : Mem) : Mn s (m_X8_stepsToLastHeir p0 s) := by
  unfold m_X8_stepsToLastHeir
  refine mn_put (fun s1 => ?_)
  refine mn_bindP (fun v2 => ?_)
  refine mn_if ?_ ?_
  · skip
    refine mn_bindP (fun v3 => ?_)
    exact mn_lp (sg := fun a => s1) (fun kf hq a => n_X8_stepsToLastHeir_b27 s1 kf hq a.1 a.2) FUEL (0, v3)
  · skip
    refine mn_bind (n_X8_fails 1 s1) (fun v8 s9 => ?_)
    exact mn_some
set_option maxRecDepth 100000 in
set_option maxHeartbeats 2000000 in
theorem sat_X8_stepsToLastHeir (l : Launch) (hl : l.stackTraces = false) (p0 : Int32) (s : Mem) : Sat l yX8_stepsToLastHeir (.code yX8_stepsToLastHeir cX8_stepsToLastHeir 4 (some .int)) 32 544 (fun x => some (.int x)) [.ref 8, .int p0] s (m_X8_stepsToLastHeir p0 s) := by
  refine sat_of hl (by decide) (Nat.le_of_ble_eq_true rfl) (fun X V A adV hxl hC hE hx hr => ?_) (n_X8_stepsToLastHeir p0 s)
  subst hxl
  show LX X V A 32 544 (nC s) (nS s) _ 0 [(0, .ref 8), (1, .int p0)] [] s _
  unfold m_X8_stepsToLastHeir
  refine lx_aload_n hC dX8_stepsToLastHeir_0 rfl 0 rfl ?_
  refine lx_iconstv (v := 0) hC dX8_stepsToLastHeir_1 rfl ?_
  refine lx_putI hC ly8 rfl 0 (by decide) rfl tyX8 tyX8_ok nmX8 rfl rfl rfl inX8 wd1605 dX8_stepsToLastHeir_2 (fun s1 => ?_)
  refine lx_aload_n hC dX8_stepsToLastHeir_5 rfl 0 rfl ?_
  refine lx_iload_n hC dX8_stepsToLastHeir_6 rfl 1 rfl ?_
  refine lx_callP hC hx (sat_X8_slotOf (xl X) hl p0 s1) (run_V (as := [.int p0]) (rest := []) hC hE ly8 rfl cw_X8_slotOf ci_X8_slotOf wd1768 cs_X8_slotOf ce_X8_slotOf cd_X8_slotOf (by decide) (by decide) (Nat.le_of_ble_eq_true rfl) dX8_stepsToLastHeir_7 rfl) (fun v2 _ => ?_)
  refine lx_if_ge hC 19 dX8_stepsToLastHeir_10 (by decide) ?_ ?_
  · skip
    refine lx_iconstv (v := 0) hC dX8_stepsToLastHeir_19 rfl ?_
    refine lx_istore_n hC dX8_stepsToLastHeir_20 rfl (by decide) ?_
    refine lx_aload_n hC dX8_stepsToLastHeir_21 rfl 1 rfl ?_
    refine lx_iload_n hC dX8_stepsToLastHeir_22 rfl 2 rfl ?_
    refine lx_callP hC hx (sat_X8_slotOf (xl X) hl p0 s1) (run_V (as := [.int p0]) (rest := []) hC hE ly8 rfl cw_X8_slotOf ci_X8_slotOf wd1768 cs_X8_slotOf ce_X8_slotOf cd_X8_slotOf (by decide) (by decide) (Nat.le_of_ble_eq_true rfl) dX8_stepsToLastHeir_23 rfl) (fun v3 _ => ?_)
    refine lx_istore_n hC dX8_stepsToLastHeir_26 rfl (by decide) ?_
    refine lx_sub [2, 1, 0] rfl ?_
    exact lx_lp (lv := fun a => [(0, .ref 8), (2, .int a.1), (3, .int a.2)]) (st := fun _ => []) (sg := fun a => s1) (fun kf hq a => l_X8_stepsToLastHeir_b27 hC hE hl hx hr s1 kf hq a.1 a.2) FUEL (0, v3)
  · skip
    refine lx_aload_n hC dX8_stepsToLastHeir_13 rfl 0 rfl ?_
    refine lx_iconstv (v := 1) hC dX8_stepsToLastHeir_14 rfl ?_
    refine lx_callX hC hx (sat_X8_fails (xl X) hl 1 s1) (run_V (as := [.int 1]) (rest := []) hC hE ly8 rfl cw_X8_fails ci_X8_fails wd1676 cs_X8_fails ce_X8_fails cd_X8_fails (by decide) (by decide) (Nat.le_of_ble_eq_true rfl) dX8_stepsToLastHeir_15 rfl) (fun v8 s9 _ => ?_)
    exact lx_iret hC rfl hr dX8_stepsToLastHeir_18
def m_X8_bequeathers_b23 (x3 : Int32) (s : Mem) (kf23 : (Int32 × Int32) → Res Int32) (w2 : Int32) (w3 : Int32) : Res Int32 := if ib 1 135 then if gI s 136 1.toNatClampNeg ≤ w3 then (some (.inl w2, s)) else (bindP (m_X8_is w3 3 s) (fun v4 => if ¬ v4 = x3 + 1 then (vl (w2 + 0) (fun y5 => vl (w3 + 1) (fun y6 => kf23 (y5, y6)))) else (vl (w2 + 1) (fun y7 => vl (w3 + 1) (fun y8 => kf23 (y7, y8)))))) else none
def m_X8_bequeathers (p0 : Int32) (s : Mem) : Res Int32 := vl (pI s 8 0 0) (fun s1 => bindP (m_X8_slotOf p0 s1) (fun v2 => if 0 ≤ v2 then (lp (fun kf23 a => m_X8_bequeathers_b23 p0 s1 kf23 a.1 a.2) FUEL (0, 0)) else (bindR (m_X8_fails 1 s1) (fun v9 s10 => some (.inl v9, s10)))))
set_option maxRecDepth 100000 in
set_option maxHeartbeats 2000000 in
theorem l_X8_bequeathers_b23 {X : Cx} {V : Vx} {A : Nat → Prop} {adV : Nat → Nat} {c0 s0 : Nat} (hC : Cok X V A yX8_bequeathers.cls cX8_bequeathers 4) (hE : Env0 V adV A (xs X) (xs X).heap) (hl : (xl X).stackTraces = false) (hx : ∀ x ∈ (xc X).exceptionTable.toList, False) (hr : (xh X).sig.returnType = some .int) (x3 : Int32) (s : Mem) (kf23 : (Int32 × Int32) → Res Int32) (hk23 : ∀ a, LX X V A 32 544 c0 s0 (FM X V A (fun x => some (.int x))) 23 [(0, .ref 8), (1, .int x3), (2, .int a.1), (3, .int a.2)] [] s (kf23 a)) (w2 : Int32) (w3 : Int32) : LX X V A 32 544 c0 s0 (FM X V A (fun x => some (.int x))) 23 [(0, .ref 8), (1, .int x3), (2, .int w2), (3, .int w3)] [] s (m_X8_bequeathers_b23 x3 s kf23 w2 w3 ) := by
  unfold m_X8_bequeathers_b23
  refine lx_iload_n hC dX8_bequeathers_23 rfl 3 rfl ?_
  refine lx_aload_n hC dX8_bequeathers_24 rfl 0 rfl ?_
  refine lx_getR (q := 136) hC ly8 rfl 1 (by decide) rfl rfl inX8 wd1606 dX8_bequeathers_25 ?_
  refine lx_iconstv (v := 1) hC dX8_bequeathers_28 rfl ?_
  refine lx_iaload hC ly136 dX8_bequeathers_29 ?_
  refine lx_icmp_ge hC 59 dX8_bequeathers_30 (by decide) ?_ ?_
  · skip
    refine lx_iload_n hC dX8_bequeathers_59 rfl 2 rfl ?_
    exact lx_iret hC rfl hr dX8_bequeathers_60
  · skip
    refine lx_iload_n hC dX8_bequeathers_33 rfl 2 rfl ?_
    refine lx_aload_n hC dX8_bequeathers_34 rfl 0 rfl ?_
    refine lx_iload_n hC dX8_bequeathers_35 rfl 3 rfl ?_
    refine lx_iconstv (v := 3) hC dX8_bequeathers_36 rfl ?_
    refine lx_callP hC hx (sat_X8_is (xl X) hl w3 3 s) (run_V (as := [.int w3, .int 3]) (rest := [.int w2]) hC hE ly8 rfl cw_X8_is ci_X8_is wd1740 cs_X8_is ce_X8_is cd_X8_is (by decide) (by decide) (Nat.le_of_ble_eq_true rfl) dX8_bequeathers_37 rfl) (fun v4 _ => ?_)
    refine lx_iload_n hC dX8_bequeathers_40 rfl 1 rfl ?_
    refine lx_iconstv (v := 1) hC dX8_bequeathers_41 rfl ?_
    refine lx_iadd hC dX8_bequeathers_42 ?_
    refine lx_icmp_ne hC 50 dX8_bequeathers_43 (by decide) ?_ ?_
    · skip
      refine lx_iconstv (v := 0) hC dX8_bequeathers_50 rfl ?_
      refine lx_iadd hC dX8_bequeathers_51 ?_
      refine lx_istore_nN hC dX8_bequeathers_52 rfl (by decide) (fun y5 => ?_)
      refine lx_iincN (v := 1) hC dX8_bequeathers_53 3 rfl (by decide) rfl (fun y6 => ?_)
      refine lx_goto hC 23 dX8_bequeathers_56 (by decide) ?_
      exact lx_sub [2, 3, 1, 0] rfl (hk23 (y5, y6))
    · skip
      refine lx_iconstv (v := 1) hC dX8_bequeathers_46 rfl ?_
      refine lx_goto hC 51 dX8_bequeathers_47 (by decide) ?_
      refine lx_iadd hC dX8_bequeathers_51 ?_
      refine lx_istore_nN hC dX8_bequeathers_52 rfl (by decide) (fun y7 => ?_)
      refine lx_iincN (v := 1) hC dX8_bequeathers_53 3 rfl (by decide) rfl (fun y8 => ?_)
      refine lx_goto hC 23 dX8_bequeathers_56 (by decide) ?_
      exact lx_sub [2, 3, 1, 0] rfl (hk23 (y7, y8))
set_option maxRecDepth 100000 in
set_option maxHeartbeats 2000000 in
theorem n_X8_bequeathers_b23 (x3 : Int32) (s : Mem) (kf23 : (Int32 × Int32) → Res Int32) (hm23 : ∀ a, Mn s (kf23 a)) (w2 : Int32) (w3 : Int32) : Mn s (m_X8_bequeathers_b23 x3 s kf23 w2 w3 ) := by
  unfold m_X8_bequeathers_b23
  refine mn_if ?_ mn_none
  refine mn_if ?_ ?_
  · skip
    exact mn_some
  · skip
    refine mn_bindP (fun v4 => ?_)
    refine mn_if ?_ ?_
    · skip
      refine mn_vl (fun y5 => ?_)
      refine mn_vl (fun y6 => ?_)
      exact hm23 (y5, y6)
    · skip
      refine mn_vl (fun y7 => ?_)
      refine mn_vl (fun y8 => ?_)
      exact hm23 (y7, y8)
set_option maxRecDepth 100000 in
set_option maxHeartbeats 2000000 in
theorem n_X8_bequeathers (p0 : Int32) (s : Mem) : Mn s (m_X8_bequeathers p0 s) := by
  unfold m_X8_bequeathers
  refine mn_put (fun s1 => ?_)
  refine mn_bindP (fun v2 => ?_)
  refine mn_if ?_ ?_
  · skip
    exact mn_lp (sg := fun a => s1) (fun kf hq a => n_X8_bequeathers_b23 p0 s1 kf hq a.1 a.2) FUEL (0, 0)
  · skip
    refine mn_bind (n_X8_fails 1 s1) (fun v9 s10 => ?_)
    exact mn_some
set_option maxRecDepth 100000 in
set_option maxHeartbeats 2000000 in
theorem sat_X8_bequeathers (l : Launch) (hl : l.stackTraces = false) (p0 : Int32) (s : Mem) : Sat l yX8_bequeathers (.code yX8_bequeathers cX8_bequeathers 4 (some .int)) 32 544 (fun x => some (.int x)) [.ref 8, .int p0] s (m_X8_bequeathers p0 s) := by
  refine sat_of hl (by decide) (Nat.le_of_ble_eq_true rfl) (fun X V A adV hxl hC hE hx hr => ?_) (n_X8_bequeathers p0 s)
  subst hxl
  show LX X V A 32 544 (nC s) (nS s) _ 0 [(0, .ref 8), (1, .int p0)] [] s _
  unfold m_X8_bequeathers
  refine lx_aload_n hC dX8_bequeathers_0 rfl 0 rfl ?_
  refine lx_iconstv (v := 0) hC dX8_bequeathers_1 rfl ?_
  refine lx_putI hC ly8 rfl 0 (by decide) rfl tyX8 tyX8_ok nmX8 rfl rfl rfl inX8 wd1605 dX8_bequeathers_2 (fun s1 => ?_)
  refine lx_aload_n hC dX8_bequeathers_5 rfl 0 rfl ?_
  refine lx_iload_n hC dX8_bequeathers_6 rfl 1 rfl ?_
  refine lx_callP hC hx (sat_X8_slotOf (xl X) hl p0 s1) (run_V (as := [.int p0]) (rest := []) hC hE ly8 rfl cw_X8_slotOf ci_X8_slotOf wd1768 cs_X8_slotOf ce_X8_slotOf cd_X8_slotOf (by decide) (by decide) (Nat.le_of_ble_eq_true rfl) dX8_bequeathers_7 rfl) (fun v2 _ => ?_)
  refine lx_if_ge hC 19 dX8_bequeathers_10 (by decide) ?_ ?_
  · skip
    refine lx_iconstv (v := 0) hC dX8_bequeathers_19 rfl ?_
    refine lx_istore_n hC dX8_bequeathers_20 rfl (by decide) ?_
    refine lx_iconstv (v := 0) hC dX8_bequeathers_21 rfl ?_
    refine lx_istore_n hC dX8_bequeathers_22 rfl (by decide) ?_
    refine lx_sub [2, 3, 1, 0] rfl ?_
    exact lx_lp (lv := fun a => [(0, .ref 8), (1, .int p0), (2, .int a.1), (3, .int a.2)]) (st := fun _ => []) (sg := fun a => s1) (fun kf hq a => l_X8_bequeathers_b23 hC hE hl hx hr p0 s1 kf hq a.1 a.2) FUEL (0, 0)
  · skip
    refine lx_aload_n hC dX8_bequeathers_13 rfl 0 rfl ?_
    refine lx_iconstv (v := 1) hC dX8_bequeathers_14 rfl ?_
    refine lx_callX hC hx (sat_X8_fails (xl X) hl 1 s1) (run_V (as := [.int 1]) (rest := []) hC hE ly8 rfl cw_X8_fails ci_X8_fails wd1676 cs_X8_fails ce_X8_fails cd_X8_fails (by decide) (by decide) (Nat.le_of_ble_eq_true rfl) dX8_bequeathers_15 rfl) (fun v9 s10 _ => ?_)
    exact lx_iret hC rfl hr dX8_bequeathers_18
def m_X8_countInRows_b43 (x6 : Int32) (s : Mem) (kf43 : (Int32 × Int32) → Res Int32) (w3 : Int32) (w4 : Int32) : Res Int32 := if x6 < w4 then (some (.inl w3, s)) else (bindP (m_X8_countIn w4 s) (fun v7 => vl (w3 + v7) (fun y8 => vl (w4 + 1) (fun y9 => kf43 (y8, y9)))))
def m_X8_countInRows (p0 : Int32) (p1 : Int32) (s : Mem) : Res Int32 := vl (pI s 8 0 0) (fun s1 => bindP (m_X8_isRow p0 s1) (fun v2 => if v2 = 0 then (bindR (m_X8_fails 1 s1) (fun v3 s4 => some (.inl v3, s4))) else (bindP (m_X8_isRow p1 s1) (fun v5 => if ¬ v5 = 0 then (if p0 ≤ p1 then (lp (fun kf43 a => m_X8_countInRows_b43 p1 s1 kf43 a.1 a.2) FUEL (0, p0)) else (bindR (m_X8_fails 2 s1) (fun v10 s11 => some (.inl v10, s11)))) else (bindR (m_X8_fails 1 s1) (fun v12 s13 => some (.inl v12, s13)))))))
set_option maxRecDepth 100000 in
set_option maxHeartbeats 2000000 in
theorem l_X8_countInRows_b43 {X : Cx} {V : Vx} {A : Nat → Prop} {adV : Nat → Nat} {c0 s0 : Nat} (hC : Cok X V A yX8_countInRows.cls cX8_countInRows 5) (hE : Env0 V adV A (xs X) (xs X).heap) (hl : (xl X).stackTraces = false) (hx : ∀ x ∈ (xc X).exceptionTable.toList, False) (hr : (xh X).sig.returnType = some .int) (x6 : Int32) (s : Mem) (kf43 : (Int32 × Int32) → Res Int32) (hk43 : ∀ a, LX X V A 32 545 c0 s0 (FM X V A (fun x => some (.int x))) 43 [(0, .ref 8), (2, .int x6), (3, .int a.1), (4, .int a.2)] [] s (kf43 a)) (w3 : Int32) (w4 : Int32) : LX X V A 32 545 c0 s0 (FM X V A (fun x => some (.int x))) 43 [(0, .ref 8), (2, .int x6), (3, .int w3), (4, .int w4)] [] s (m_X8_countInRows_b43 x6 s kf43 w3 w4 ) := by
  unfold m_X8_countInRows_b43
  refine lx_iload hC dX8_countInRows_43 3 rfl ?_
  refine lx_iload_n hC dX8_countInRows_45 rfl 1 rfl ?_
  refine lx_icmp_gt hC 64 dX8_countInRows_46 (by decide) ?_ ?_
  · skip
    refine lx_iload_n hC dX8_countInRows_64 rfl 2 rfl ?_
    exact lx_iret hC rfl hr dX8_countInRows_65
  · skip
    refine lx_iload_n hC dX8_countInRows_49 rfl 2 rfl ?_
    refine lx_aload_n hC dX8_countInRows_50 rfl 0 rfl ?_
    refine lx_iload hC dX8_countInRows_51 3 rfl ?_
    refine lx_callP hC hx (sat_X8_countIn (xl X) hl w4 s) (run_V (as := [.int w4]) (rest := [.int w3]) hC hE ly8 rfl cw_X8_countIn ci_X8_countIn wd1736 cs_X8_countIn ce_X8_countIn cd_X8_countIn (by decide) (by decide) (Nat.le_of_ble_eq_true rfl) dX8_countInRows_53 rfl) (fun v7 _ => ?_)
    refine lx_iadd hC dX8_countInRows_56 ?_
    refine lx_istore_nN hC dX8_countInRows_57 rfl (by decide) (fun y8 => ?_)
    refine lx_iincN (v := 1) hC dX8_countInRows_58 3 rfl (by decide) rfl (fun y9 => ?_)
    refine lx_goto hC 43 dX8_countInRows_61 (by decide) ?_
    exact lx_sub [2, 3, 1, 0] rfl (hk43 (y8, y9))
set_option maxRecDepth 100000 in
set_option maxHeartbeats 2000000 in
theorem n_X8_countInRows_b43 (x6 : Int32) (s : Mem) (kf43 : (Int32 × Int32) → Res Int32) (hm43 : ∀ a, Mn s (kf43 a)) (w3 : Int32) (w4 : Int32) : Mn s (m_X8_countInRows_b43 x6 s kf43 w3 w4 ) := by
  unfold m_X8_countInRows_b43
  refine mn_if ?_ ?_
  · skip
    exact mn_some
  · skip
    refine mn_bindP (fun v7 => ?_)
    refine mn_vl (fun y8 => ?_)
    refine mn_vl (fun y9 => ?_)
    exact hm43 (y8, y9)
set_option maxRecDepth 100000 in
set_option maxHeartbeats 2000000 in
theorem n_X8_countInRows (p0 : Int32) (p1 : Int32) (s : Mem) : Mn s (m_X8_countInRows p0 p1 s) := by
  unfold m_X8_countInRows
  refine mn_put (fun s1 => ?_)
  refine mn_bindP (fun v2 => ?_)
  refine mn_if ?_ ?_
  · skip
    refine mn_bind (n_X8_fails 1 s1) (fun v3 s4 => ?_)
    exact mn_some
  · skip
    refine mn_bindP (fun v5 => ?_)
    refine mn_if ?_ ?_
    · skip
      refine mn_if ?_ ?_
      · skip
        exact mn_lp (sg := fun a => s1) (fun kf hq a => n_X8_countInRows_b43 p1 s1 kf hq a.1 a.2) FUEL (0, p0)
      · skip
        refine mn_bind (n_X8_fails 2 s1) (fun v10 s11 => ?_)
        exact mn_some
    · skip
      refine mn_bind (n_X8_fails 1 s1) (fun v12 s13 => ?_)
      exact mn_some
set_option maxRecDepth 100000 in
set_option maxHeartbeats 2000000 in
theorem sat_X8_countInRows (l : Launch) (hl : l.stackTraces = false) (p0 : Int32) (p1 : Int32) (s : Mem) : Sat l yX8_countInRows (.code yX8_countInRows cX8_countInRows 5 (some .int)) 32 545 (fun x => some (.int x)) [.ref 8, .int p0, .int p1] s (m_X8_countInRows p0 p1 s) := by
  refine sat_of hl (by decide) (Nat.le_of_ble_eq_true rfl) (fun X V A adV hxl hC hE hx hr => ?_) (n_X8_countInRows p0 p1 s)
  subst hxl
  show LX X V A 32 545 (nC s) (nS s) _ 0 [(0, .ref 8), (1, .int p0), (2, .int p1)] [] s _
  unfold m_X8_countInRows
  refine lx_aload_n hC dX8_countInRows_0 rfl 0 rfl ?_
  refine lx_iconstv (v := 0) hC dX8_countInRows_1 rfl ?_
  refine lx_putI hC ly8 rfl 0 (by decide) rfl tyX8 tyX8_ok nmX8 rfl rfl rfl inX8 wd1605 dX8_countInRows_2 (fun s1 => ?_)
  refine lx_aload_n hC dX8_countInRows_5 rfl 0 rfl ?_
  refine lx_iload_n hC dX8_countInRows_6 rfl 1 rfl ?_
  refine lx_callP hC hx (sat_X8_isRow (xl X) hl p0 s1) (run_V (as := [.int p0]) (rest := []) hC hE ly8 rfl cw_X8_isRow ci_X8_isRow wd1708 cs_X8_isRow ce_X8_isRow cd_X8_isRow (by decide) (by decide) (Nat.le_of_ble_eq_true rfl) dX8_countInRows_7 rfl) (fun v2 _ => ?_)
  refine lx_if_eq hC 21 dX8_countInRows_10 (by decide) ?_ ?_
  · skip
    refine lx_aload_n hC dX8_countInRows_21 rfl 0 rfl ?_
    refine lx_iconstv (v := 1) hC dX8_countInRows_22 rfl ?_
    refine lx_callX hC hx (sat_X8_fails (xl X) hl 1 s1) (run_V (as := [.int 1]) (rest := []) hC hE ly8 rfl cw_X8_fails ci_X8_fails wd1676 cs_X8_fails ce_X8_fails cd_X8_fails (by decide) (by decide) (Nat.le_of_ble_eq_true rfl) dX8_countInRows_23 rfl) (fun v3 s4 _ => ?_)
    exact lx_iret hC rfl hr dX8_countInRows_26
  · skip
    refine lx_aload_n hC dX8_countInRows_13 rfl 0 rfl ?_
    refine lx_iload_n hC dX8_countInRows_14 rfl 2 rfl ?_
    refine lx_callP hC hx (sat_X8_isRow (xl X) hl p1 s1) (run_V (as := [.int p1]) (rest := []) hC hE ly8 rfl cw_X8_isRow ci_X8_isRow wd1708 cs_X8_isRow ce_X8_isRow cd_X8_isRow (by decide) (by decide) (Nat.le_of_ble_eq_true rfl) dX8_countInRows_15 rfl) (fun v5 _ => ?_)
    refine lx_if_ne hC 27 dX8_countInRows_18 (by decide) ?_ ?_
    · skip
      refine lx_iload_n hC dX8_countInRows_27 rfl 1 rfl ?_
      refine lx_iload_n hC dX8_countInRows_28 rfl 2 rfl ?_
      refine lx_icmp_le hC 38 dX8_countInRows_29 (by decide) ?_ ?_
      · skip
        refine lx_iconstv (v := 0) hC dX8_countInRows_38 rfl ?_
        refine lx_istore_n hC dX8_countInRows_39 rfl (by decide) ?_
        refine lx_iload_n hC dX8_countInRows_40 rfl 2 rfl ?_
        refine lx_istore hC dX8_countInRows_41 (by decide) ?_
        refine lx_sub [2, 4, 1, 0] rfl ?_
        exact lx_lp (lv := fun a => [(0, .ref 8), (2, .int p1), (3, .int a.1), (4, .int a.2)]) (st := fun _ => []) (sg := fun a => s1) (fun kf hq a => l_X8_countInRows_b43 hC hE hl hx hr p1 s1 kf hq a.1 a.2) FUEL (0, p0)
      · skip
        refine lx_aload_n hC dX8_countInRows_32 rfl 0 rfl ?_
        refine lx_iconstv (v := 2) hC dX8_countInRows_33 rfl ?_
        refine lx_callX hC hx (sat_X8_fails (xl X) hl 2 s1) (run_V (as := [.int 2]) (rest := []) hC hE ly8 rfl cw_X8_fails ci_X8_fails wd1676 cs_X8_fails ce_X8_fails cd_X8_fails (by decide) (by decide) (Nat.le_of_ble_eq_true rfl) dX8_countInRows_34 rfl) (fun v10 s11 _ => ?_)
        exact lx_iret hC rfl hr dX8_countInRows_37
    · skip
      refine lx_aload_n hC dX8_countInRows_21 rfl 0 rfl ?_
      refine lx_iconstv (v := 1) hC dX8_countInRows_22 rfl ?_
      refine lx_callX hC hx (sat_X8_fails (xl X) hl 1 s1) (run_V (as := [.int 1]) (rest := []) hC hE ly8 rfl cw_X8_fails ci_X8_fails wd1676 cs_X8_fails ce_X8_fails cd_X8_fails (by decide) (by decide) (Nat.le_of_ble_eq_true rfl) dX8_countInRows_23 rfl) (fun v12 s13 _ => ?_)
      exact lx_iret hC rfl hr dX8_countInRows_26
def m_X8_countInRowsByTree (p0 : Int32) (p1 : Int32) (s : Mem) : Res Int32 := bindR (m_X8_countInRows p0 p1 s) (fun v1 s2 => some (.inl v1, s2))
set_option maxRecDepth 100000 in
set_option maxHeartbeats 2000000 in
theorem n_X8_countInRowsByTree (p0 : Int32) (p1 : Int32) (s : Mem) : Mn s (m_X8_countInRowsByTree p0 p1 s) := by
  unfold m_X8_countInRowsByTree
  refine mn_bind (n_X8_countInRows p0 p1 s) (fun v1 s2 => ?_)
  exact mn_some
set_option maxRecDepth 100000 in
set_option maxHeartbeats 2000000 in
theorem sat_X8_countInRowsByTree (l : Launch) (hl : l.stackTraces = false) (p0 : Int32) (p1 : Int32) (s : Mem) : Sat l yX8_countInRowsByTree (.code yX8_countInRowsByTree cX8_countInRowsByTree 3 (some .int)) 33 569 (fun x => some (.int x)) [.ref 8, .int p0, .int p1] s (m_X8_countInRowsByTree p0 p1 s) := by
  refine sat_of hl (by decide) (Nat.le_of_ble_eq_true rfl) (fun X V A adV hxl hC hE hx hr => ?_) (n_X8_countInRowsByTree p0 p1 s)
  subst hxl
  show LX X V A 33 569 (nC s) (nS s) _ 0 [(0, .ref 8), (1, .int p0), (2, .int p1)] [] s _
  unfold m_X8_countInRowsByTree
  refine lx_aload_n hC dX8_countInRowsByTree_0 rfl 0 rfl ?_
  refine lx_iload_n hC dX8_countInRowsByTree_1 rfl 1 rfl ?_
  refine lx_iload_n hC dX8_countInRowsByTree_2 rfl 2 rfl ?_
  refine lx_callX hC hx (sat_X8_countInRows (xl X) hl p0 p1 s) (run_V (as := [.int p0, .int p1]) (rest := []) hC hE ly8 rfl cw_X8_countInRows ci_X8_countInRows wd1988 cs_X8_countInRows ce_X8_countInRows cd_X8_countInRows (by decide) (by decide) (Nat.le_of_ble_eq_true rfl) dX8_countInRowsByTree_3 rfl) (fun v1 s2 _ => ?_)
  exact lx_iret hC rfl hr dX8_countInRowsByTree_6
def m_X8_rankOf_b8 (x2 : Int32) (s : Mem) (kf8 : (Int32 × Int32) → Option Int32) (w2 : Int32) (w3 : Int32) : Option Int32 := bindO (m_X8_is x2 1 s) (fun v3 => if v3 ≤ w3 then (some w2) else (bindO (m_X8_countIn w3 s) (fun v4 => vl (w2 + v4) (fun y5 => vl (w3 + 1) (fun y6 => kf8 (y5, y6))))))
def m_X8_rankOf (p0 : Int32) (s : Mem) : Option Int32 := bindO (m_X8_positionOf p0 s) (fun v1 => lpO (fun kf8 a => m_X8_rankOf_b8 p0 s kf8 a.1 a.2) FUEL (v1, 0))
set_option maxRecDepth 100000 in
set_option maxHeartbeats 2000000 in
theorem l_X8_rankOf_b8 {X : Cx} {V : Vx} {A : Nat → Prop} {adV : Nat → Nat} {c0 s0 : Nat} (hC : Cok X V A yX8_rankOf.cls cX8_rankOf 4) (hE : Env0 V adV A (xs X) (xs X).heap) (hl : (xl X).stackTraces = false) (hx : ∀ x ∈ (xc X).exceptionTable.toList, False) (hr : (xh X).sig.returnType = some .int) (x2 : Int32) (s : Mem) (kf8 : (Int32 × Int32) → Option Int32) (hk8 : ∀ a, LX X V A 32 545 c0 s0 (FM X V A (fun x => some (.int x))) 8 [(0, .ref 8), (1, .int x2), (2, .int a.1), (3, .int a.2)] [] s (pur s (kf8 a))) (w2 : Int32) (w3 : Int32) : LX X V A 32 545 c0 s0 (FM X V A (fun x => some (.int x))) 8 [(0, .ref 8), (1, .int x2), (2, .int w2), (3, .int w3)] [] s (pur s (m_X8_rankOf_b8 x2 s kf8 w2 w3 )) := by
  unfold m_X8_rankOf_b8
  refine lx_iload_n hC dX8_rankOf_8 rfl 3 rfl ?_
  refine lx_aload_n hC dX8_rankOf_9 rfl 0 rfl ?_
  refine lx_iload_n hC dX8_rankOf_10 rfl 1 rfl ?_
  refine lx_iconstv (v := 1) hC dX8_rankOf_11 rfl ?_
  refine lq_call hC hx (sat_X8_is (xl X) hl x2 1 s) (run_V (as := [.int x2, .int 1]) (rest := [.int w3]) hC hE ly8 rfl cw_X8_is ci_X8_is wd1740 cs_X8_is ce_X8_is cd_X8_is (by decide) (by decide) (Nat.le_of_ble_eq_true rfl) dX8_rankOf_12 rfl) (fun v3 _ => ?_)
  refine lq_icmp_ge hC 32 dX8_rankOf_15 (by decide) ?_ ?_
  · skip
    refine lx_iload_n hC dX8_rankOf_32 rfl 2 rfl ?_
    exact lx_iret hC rfl hr dX8_rankOf_33
  · skip
    refine lx_iload_n hC dX8_rankOf_18 rfl 2 rfl ?_
    refine lx_aload_n hC dX8_rankOf_19 rfl 0 rfl ?_
    refine lx_iload_n hC dX8_rankOf_20 rfl 3 rfl ?_
    refine lq_call hC hx (sat_X8_countIn (xl X) hl w3 s) (run_V (as := [.int w3]) (rest := [.int w2]) hC hE ly8 rfl cw_X8_countIn ci_X8_countIn wd1736 cs_X8_countIn ce_X8_countIn cd_X8_countIn (by decide) (by decide) (Nat.le_of_ble_eq_true rfl) dX8_rankOf_21 rfl) (fun v4 _ => ?_)
    refine lx_iadd hC dX8_rankOf_24 ?_
    refine lq_istore_nN hC dX8_rankOf_25 rfl (by decide) (fun y5 => ?_)
    refine lq_iincN (v := 1) hC dX8_rankOf_26 3 rfl (by decide) rfl (fun y6 => ?_)
    refine lx_goto hC 8 dX8_rankOf_29 (by decide) ?_
    exact lx_sub [2, 3, 1, 0] rfl (hk8 (y5, y6))
set_option maxRecDepth 100000 in
set_option maxHeartbeats 2000000 in
theorem sat_X8_rankOf (l : Launch) (hl : l.stackTraces = false) (p0 : Int32) (s : Mem) : Sat l yX8_rankOf (.code yX8_rankOf cX8_rankOf 4 (some .int)) 32 545 (fun x => some (.int x)) [.ref 8, .int p0] s (pur s (m_X8_rankOf p0 s)) := by
  refine sat_of hl (by decide) (Nat.le_of_ble_eq_true rfl) (fun X V A adV hxl hC hE hx hr => ?_) pur_mono
  subst hxl
  show LX X V A 32 545 (nC s) (nS s) _ 0 [(0, .ref 8), (1, .int p0)] [] s _
  unfold m_X8_rankOf
  refine lx_aload_n hC dX8_rankOf_0 rfl 0 rfl ?_
  refine lx_iload_n hC dX8_rankOf_1 rfl 1 rfl ?_
  refine lq_call hC hx (sat_X8_positionOf (xl X) hl p0 s) (run_V (as := [.int p0]) (rest := []) hC hE ly8 rfl cw_X8_positionOf ci_X8_positionOf wd1947 cs_X8_positionOf ce_X8_positionOf cd_X8_positionOf (by decide) (by decide) (Nat.le_of_ble_eq_true rfl) dX8_rankOf_2 rfl) (fun v1 _ => ?_)
  refine lx_istore_n hC dX8_rankOf_5 rfl (by decide) ?_
  refine lx_iconstv (v := 0) hC dX8_rankOf_6 rfl ?_
  refine lx_istore_n hC dX8_rankOf_7 rfl (by decide) ?_
  refine lx_sub [2, 3, 1, 0] rfl ?_
  exact lq_lp (lv := fun a => [(0, .ref 8), (1, .int p0), (2, .int a.1), (3, .int a.2)]) (st := fun _ => []) (fun kf hq a => l_X8_rankOf_b8 hC hE hl hx hr p0 s kf hq a.1 a.2) FUEL (v1, 0)
def m_X8_idByRank_b7 (x2 : Int32) (s : Mem) (kf7 : Int32 → Res Int32) (w2 : Int32) : Res Int32 := if ib 1 135 then if gI s 136 1.toNatClampNeg ≤ w2 then (bindR (m_X8_fails 1 s) (fun v3 s4 => some (.inl v3, s4))) else (bindP (m_X8_rankOf w2 s) (fun v5 => if ¬ v5 = x2 then (vl (w2 + 1) (fun y6 => kf7 y6)) else (bindP (m_X8_is w2 0 s) (fun v7 => some (.inl v7, s))))) else none
def m_X8_idByRank (p0 : Int32) (s : Mem) : Res Int32 := vl (pI s 8 0 0) (fun s1 => lp (fun kf7 a => m_X8_idByRank_b7 p0 s1 kf7 a) FUEL 0)
set_option maxRecDepth 100000 in
set_option maxHeartbeats 2000000 in
theorem l_X8_idByRank_b7 {X : Cx} {V : Vx} {A : Nat → Prop} {adV : Nat → Nat} {c0 s0 : Nat} (hC : Cok X V A yX8_idByRank.cls cX8_idByRank 3) (hE : Env0 V adV A (xs X) (xs X).heap) (hl : (xl X).stackTraces = false) (hx : ∀ x ∈ (xc X).exceptionTable.toList, False) (hr : (xh X).sig.returnType = some .int) (x2 : Int32) (s : Mem) (kf7 : Int32 → Res Int32) (hk7 : ∀ a, LX X V A 33 568 c0 s0 (FM X V A (fun x => some (.int x))) 7 [(0, .ref 8), (1, .int x2), (2, .int a)] [] s (kf7 a)) (w2 : Int32) : LX X V A 33 568 c0 s0 (FM X V A (fun x => some (.int x))) 7 [(0, .ref 8), (1, .int x2), (2, .int w2)] [] s (m_X8_idByRank_b7 x2 s kf7 w2 ) := by
  unfold m_X8_idByRank_b7
  refine lx_iload_n hC dX8_idByRank_7 rfl 2 rfl ?_
  refine lx_aload_n hC dX8_idByRank_8 rfl 0 rfl ?_
  refine lx_getR (q := 136) hC ly8 rfl 1 (by decide) rfl rfl inX8 wd1606 dX8_idByRank_9 ?_
  refine lx_iconstv (v := 1) hC dX8_idByRank_12 rfl ?_
  refine lx_iaload hC ly136 dX8_idByRank_13 ?_
  refine lx_icmp_ge hC 39 dX8_idByRank_14 (by decide) ?_ ?_
  · skip
    refine lx_aload_n hC dX8_idByRank_39 rfl 0 rfl ?_
    refine lx_iconstv (v := 1) hC dX8_idByRank_40 rfl ?_
    refine lx_callX hC hx (sat_X8_fails (xl X) hl 1 s) (run_V (as := [.int 1]) (rest := []) hC hE ly8 rfl cw_X8_fails ci_X8_fails wd1676 cs_X8_fails ce_X8_fails cd_X8_fails (by decide) (by decide) (Nat.le_of_ble_eq_true rfl) dX8_idByRank_41 rfl) (fun v3 s4 _ => ?_)
    exact lx_iret hC rfl hr dX8_idByRank_44
  · skip
    refine lx_aload_n hC dX8_idByRank_17 rfl 0 rfl ?_
    refine lx_iload_n hC dX8_idByRank_18 rfl 2 rfl ?_
    refine lx_callP hC hx (sat_X8_rankOf (xl X) hl w2 s) (run_V (as := [.int w2]) (rest := []) hC hE ly8 rfl cw_X8_rankOf ci_X8_rankOf wd1993 cs_X8_rankOf ce_X8_rankOf cd_X8_rankOf (by decide) (by decide) (Nat.le_of_ble_eq_true rfl) dX8_idByRank_19 rfl) (fun v5 _ => ?_)
    refine lx_iload_n hC dX8_idByRank_22 rfl 1 rfl ?_
    refine lx_icmp_ne hC 33 dX8_idByRank_23 (by decide) ?_ ?_
    · skip
      refine lx_iincN (v := 1) hC dX8_idByRank_33 2 rfl (by decide) rfl (fun y6 => ?_)
      refine lx_goto hC 7 dX8_idByRank_36 (by decide) ?_
      exact lx_sub [1, 2, 0] rfl (hk7 y6)
    · skip
      refine lx_aload_n hC dX8_idByRank_26 rfl 0 rfl ?_
      refine lx_iload_n hC dX8_idByRank_27 rfl 2 rfl ?_
      refine lx_iconstv (v := 0) hC dX8_idByRank_28 rfl ?_
      refine lx_callP hC hx (sat_X8_is (xl X) hl w2 0 s) (run_V (as := [.int w2, .int 0]) (rest := []) hC hE ly8 rfl cw_X8_is ci_X8_is wd1740 cs_X8_is ce_X8_is cd_X8_is (by decide) (by decide) (Nat.le_of_ble_eq_true rfl) dX8_idByRank_29 rfl) (fun v7 _ => ?_)
      exact lx_iret hC rfl hr dX8_idByRank_32
set_option maxRecDepth 100000 in
set_option maxHeartbeats 2000000 in
theorem n_X8_idByRank_b7 (x2 : Int32) (s : Mem) (kf7 : Int32 → Res Int32) (hm7 : ∀ a, Mn s (kf7 a)) (w2 : Int32) : Mn s (m_X8_idByRank_b7 x2 s kf7 w2 ) := by
  unfold m_X8_idByRank_b7
  refine mn_if ?_ mn_none
  refine mn_if ?_ ?_
  · skip
    refine mn_bind (n_X8_fails 1 s) (fun v3 s4 => ?_)
    exact mn_some
  · skip
    refine mn_bindP (fun v5 => ?_)
    refine mn_if ?_ ?_
    · skip
      refine mn_vl (fun y6 => ?_)
      exact hm7 y6
    · skip
      refine mn_bindP (fun v7 => ?_)
      exact mn_some
set_option maxRecDepth 100000 in
set_option maxHeartbeats 2000000 in
theorem n_X8_idByRank (p0 : Int32) (s : Mem) : Mn s (m_X8_idByRank p0 s) := by
  unfold m_X8_idByRank
  refine mn_put (fun s1 => ?_)
  exact mn_lp (sg := fun a => s1) (fun kf hq a => n_X8_idByRank_b7 p0 s1 kf hq a) FUEL 0
set_option maxRecDepth 100000 in
set_option maxHeartbeats 2000000 in
theorem sat_X8_idByRank (l : Launch) (hl : l.stackTraces = false) (p0 : Int32) (s : Mem) : Sat l yX8_idByRank (.code yX8_idByRank cX8_idByRank 3 (some .int)) 33 568 (fun x => some (.int x)) [.ref 8, .int p0] s (m_X8_idByRank p0 s) := by
  refine sat_of hl (by decide) (Nat.le_of_ble_eq_true rfl) (fun X V A adV hxl hC hE hx hr => ?_) (n_X8_idByRank p0 s)
  subst hxl
  show LX X V A 33 568 (nC s) (nS s) _ 0 [(0, .ref 8), (1, .int p0)] [] s _
  unfold m_X8_idByRank
  refine lx_aload_n hC dX8_idByRank_0 rfl 0 rfl ?_
  refine lx_iconstv (v := 0) hC dX8_idByRank_1 rfl ?_
  refine lx_putI hC ly8 rfl 0 (by decide) rfl tyX8 tyX8_ok nmX8 rfl rfl rfl inX8 wd1605 dX8_idByRank_2 (fun s1 => ?_)
  refine lx_iconstv (v := 0) hC dX8_idByRank_5 rfl ?_
  refine lx_istore_n hC dX8_idByRank_6 rfl (by decide) ?_
  refine lx_sub [1, 2, 0] rfl ?_
  exact lx_lp (lv := fun a => [(0, .ref 8), (1, .int p0), (2, .int a)]) (st := fun _ => []) (sg := fun a => s1) (fun kf hq a => l_X8_idByRank_b7 hC hE hl hx hr p0 s1 kf hq a) FUEL 0
def m_X8_idByRankByTree (p0 : Int32) (s : Mem) : Res Int32 := bindR (m_X8_idByRank p0 s) (fun v1 s2 => some (.inl v1, s2))
set_option maxRecDepth 100000 in
set_option maxHeartbeats 2000000 in
theorem n_X8_idByRankByTree (p0 : Int32) (s : Mem) : Mn s (m_X8_idByRankByTree p0 s) := by
  unfold m_X8_idByRankByTree
  refine mn_bind (n_X8_idByRank p0 s) (fun v1 s2 => ?_)
  exact mn_some
set_option maxRecDepth 100000 in
set_option maxHeartbeats 2000000 in
theorem sat_X8_idByRankByTree (l : Launch) (hl : l.stackTraces = false) (p0 : Int32) (s : Mem) : Sat l yX8_idByRankByTree (.code yX8_idByRankByTree cX8_idByRankByTree 2 (some .int)) 34 590 (fun x => some (.int x)) [.ref 8, .int p0] s (m_X8_idByRankByTree p0 s) := by
  refine sat_of hl (by decide) (Nat.le_of_ble_eq_true rfl) (fun X V A adV hxl hC hE hx hr => ?_) (n_X8_idByRankByTree p0 s)
  subst hxl
  show LX X V A 34 590 (nC s) (nS s) _ 0 [(0, .ref 8), (1, .int p0)] [] s _
  unfold m_X8_idByRankByTree
  refine lx_aload_n hC dX8_idByRankByTree_0 rfl 0 rfl ?_
  refine lx_iload_n hC dX8_idByRankByTree_1 rfl 1 rfl ?_
  refine lx_callX hC hx (sat_X8_idByRank (xl X) hl p0 s) (run_V (as := [.int p0]) (rest := []) hC hE ly8 rfl cw_X8_idByRank ci_X8_idByRank wd2001 cs_X8_idByRank ce_X8_idByRank cd_X8_idByRank (by decide) (by decide) (Nat.le_of_ble_eq_true rfl) dX8_idByRankByTree_2 rfl) (fun v1 s2 _ => ?_)
  exact lx_iret hC rfl hr dX8_idByRankByTree_5
def m_X8_rank (p0 : Int32) (s : Mem) : Res Int32 := vl (pI s 8 0 0) (fun s1 => bindP (m_X8_slotOf p0 s1) (fun v2 => if 0 ≤ v2 then (bindP (m_X8_slotOf p0 s1) (fun v3 => bindP (m_X8_rankOf v3 s1) (fun v4 => some (.inl v4, s1)))) else (bindR (m_X8_fails 1 s1) (fun v5 s6 => some (.inl v5, s6)))))
set_option maxRecDepth 100000 in
set_option maxHeartbeats 2000000 in
theorem n_X8_rank (p0 : Int32) (s : Mem) : Mn s (m_X8_rank p0 s) := by
  unfold m_X8_rank
  refine mn_put (fun s1 => ?_)
  refine mn_bindP (fun v2 => ?_)
  refine mn_if ?_ ?_
  · skip
    refine mn_bindP (fun v3 => ?_)
    refine mn_bindP (fun v4 => ?_)
    exact mn_some
  · skip
    refine mn_bind (n_X8_fails 1 s1) (fun v5 s6 => ?_)
    exact mn_some
set_option maxRecDepth 100000 in
set_option maxHeartbeats 2000000 in
theorem sat_X8_rank (l : Launch) (hl : l.stackTraces = false) (p0 : Int32) (s : Mem) : Sat l yX8_rank (.code yX8_rank cX8_rank 2 (some .int)) 33 568 (fun x => some (.int x)) [.ref 8, .int p0] s (m_X8_rank p0 s) := by
  refine sat_of hl (by decide) (Nat.le_of_ble_eq_true rfl) (fun X V A adV hxl hC hE hx hr => ?_) (n_X8_rank p0 s)
  subst hxl
  show LX X V A 33 568 (nC s) (nS s) _ 0 [(0, .ref 8), (1, .int p0)] [] s _
  unfold m_X8_rank
  refine lx_aload_n hC dX8_rank_0 rfl 0 rfl ?_
  refine lx_iconstv (v := 0) hC dX8_rank_1 rfl ?_
  refine lx_putI hC ly8 rfl 0 (by decide) rfl tyX8 tyX8_ok nmX8 rfl rfl rfl inX8 wd1605 dX8_rank_2 (fun s1 => ?_)
  refine lx_aload_n hC dX8_rank_5 rfl 0 rfl ?_
  refine lx_iload_n hC dX8_rank_6 rfl 1 rfl ?_
  refine lx_callP hC hx (sat_X8_slotOf (xl X) hl p0 s1) (run_V (as := [.int p0]) (rest := []) hC hE ly8 rfl cw_X8_slotOf ci_X8_slotOf wd1768 cs_X8_slotOf ce_X8_slotOf cd_X8_slotOf (by decide) (by decide) (Nat.le_of_ble_eq_true rfl) dX8_rank_7 rfl) (fun v2 _ => ?_)
  refine lx_if_ge hC 21 dX8_rank_10 (by decide) ?_ ?_
  · skip
    refine lx_aload_n hC dX8_rank_21 rfl 0 rfl ?_
    refine lx_aload_n hC dX8_rank_22 rfl 0 rfl ?_
    refine lx_iload_n hC dX8_rank_23 rfl 1 rfl ?_
    refine lx_callP hC hx (sat_X8_slotOf (xl X) hl p0 s1) (run_V (as := [.int p0]) (rest := [.ref 8]) hC hE ly8 rfl cw_X8_slotOf ci_X8_slotOf wd1768 cs_X8_slotOf ce_X8_slotOf cd_X8_slotOf (by decide) (by decide) (Nat.le_of_ble_eq_true rfl) dX8_rank_24 rfl) (fun v3 _ => ?_)
    refine lx_callP hC hx (sat_X8_rankOf (xl X) hl v3 s1) (run_V (as := [.int v3]) (rest := []) hC hE ly8 rfl cw_X8_rankOf ci_X8_rankOf wd1993 cs_X8_rankOf ce_X8_rankOf cd_X8_rankOf (by decide) (by decide) (Nat.le_of_ble_eq_true rfl) dX8_rank_27 rfl) (fun v4 _ => ?_)
    exact lx_iret hC rfl hr dX8_rank_30
  · skip
    refine lx_aload_n hC dX8_rank_13 rfl 0 rfl ?_
    refine lx_iconstv (v := 1) hC dX8_rank_14 rfl ?_
    refine lx_callX hC hx (sat_X8_fails (xl X) hl 1 s1) (run_V (as := [.int 1]) (rest := []) hC hE ly8 rfl cw_X8_fails ci_X8_fails wd1676 cs_X8_fails ce_X8_fails cd_X8_fails (by decide) (by decide) (Nat.le_of_ble_eq_true rfl) dX8_rank_15 rfl) (fun v5 s6 _ => ?_)
    refine lx_goto hC 30 dX8_rank_18 (by decide) ?_
    exact lx_iret hC rfl hr dX8_rank_30
def m_X8_loudest (s : Mem) : Res Int32 := vl (pI s 8 0 0) (fun s1 => bindP (m_X8_loudestIn (-1) s1) (fun v2 => if 0 ≤ v2 then (bindP (m_X8_is v2 0 s1) (fun v3 => some (.inl v3, s1))) else (bindR (m_X8_fails 1 s1) (fun v4 s5 => some (.inl v4, s5)))))
set_option maxRecDepth 100000 in
set_option maxHeartbeats 2000000 in
theorem n_X8_loudest (s : Mem) : Mn s (m_X8_loudest s) := by
  unfold m_X8_loudest
  refine mn_put (fun s1 => ?_)
  refine mn_bindP (fun v2 => ?_)
  refine mn_if ?_ ?_
  · skip
    refine mn_bindP (fun v3 => ?_)
    exact mn_some
  · skip
    refine mn_bind (n_X8_fails 1 s1) (fun v4 s5 => ?_)
    exact mn_some
set_option maxRecDepth 100000 in
set_option maxHeartbeats 2000000 in
theorem sat_X8_loudest (l : Launch) (hl : l.stackTraces = false) (s : Mem) : Sat l yX8_loudest (.code yX8_loudest cX8_loudest 2 (some .int)) 32 546 (fun x => some (.int x)) [.ref 8] s (m_X8_loudest s) := by
  refine sat_of hl (by decide) (Nat.le_of_ble_eq_true rfl) (fun X V A adV hxl hC hE hx hr => ?_) (n_X8_loudest s)
  subst hxl
  show LX X V A 32 546 (nC s) (nS s) _ 0 [(0, .ref 8)] [] s _
  unfold m_X8_loudest
  refine lx_aload_n hC dX8_loudest_0 rfl 0 rfl ?_
  refine lx_iconstv (v := 0) hC dX8_loudest_1 rfl ?_
  refine lx_putI hC ly8 rfl 0 (by decide) rfl tyX8 tyX8_ok nmX8 rfl rfl rfl inX8 wd1605 dX8_loudest_2 (fun s1 => ?_)
  refine lx_aload_n hC dX8_loudest_5 rfl 0 rfl ?_
  refine lx_iconstv (v := (-1)) hC dX8_loudest_6 rfl ?_
  refine lx_callP hC hx (sat_X8_loudestIn (xl X) hl (-1) s1) (run_V (as := [.int (-1)]) (rest := []) hC hE ly8 rfl cw_X8_loudestIn ci_X8_loudestIn wd1875 cs_X8_loudestIn ce_X8_loudestIn cd_X8_loudestIn (by decide) (by decide) (Nat.le_of_ble_eq_true rfl) dX8_loudest_7 rfl) (fun v2 _ => ?_)
  refine lx_istore_n hC dX8_loudest_10 rfl (by decide) ?_
  refine lx_iload_n hC dX8_loudest_11 rfl 0 rfl ?_
  refine lx_if_ge hC 23 dX8_loudest_12 (by decide) ?_ ?_
  · skip
    refine lx_aload_n hC dX8_loudest_23 rfl 1 rfl ?_
    refine lx_iload_n hC dX8_loudest_24 rfl 0 rfl ?_
    refine lx_iconstv (v := 0) hC dX8_loudest_25 rfl ?_
    refine lx_callP hC hx (sat_X8_is (xl X) hl v2 0 s1) (run_V (as := [.int v2, .int 0]) (rest := []) hC hE ly8 rfl cw_X8_is ci_X8_is wd1740 cs_X8_is ce_X8_is cd_X8_is (by decide) (by decide) (Nat.le_of_ble_eq_true rfl) dX8_loudest_26 rfl) (fun v3 _ => ?_)
    exact lx_iret hC rfl hr dX8_loudest_29
  · skip
    refine lx_aload_n hC dX8_loudest_15 rfl 1 rfl ?_
    refine lx_iconstv (v := 1) hC dX8_loudest_16 rfl ?_
    refine lx_callX hC hx (sat_X8_fails (xl X) hl 1 s1) (run_V (as := [.int 1]) (rest := []) hC hE ly8 rfl cw_X8_fails ci_X8_fails wd1676 cs_X8_fails ce_X8_fails cd_X8_fails (by decide) (by decide) (Nat.le_of_ble_eq_true rfl) dX8_loudest_17 rfl) (fun v4 s5 _ => ?_)
    refine lx_goto hC 29 dX8_loudest_20 (by decide) ?_
    exact lx_iret hC rfl hr dX8_loudest_29
def m_X8_quietestRow_b24 (s : Mem) (kf24 : (Int32 × Int32) → Res Int32) (w1 : Int32) (w2 : Int32) : Res Int32 := if ib 0 135 then if gI s 136 0.toNatClampNeg ≤ w2 then (some (.inl w1, s)) else (bindP (m_X8_loudnessIn w2 s) (fun v2 => bindP (m_X8_loudnessIn w1 s) (fun v3 => if v3 ≤ v2 then (vl (w2 + 1) (fun y4 => kf24 (w1, y4))) else (vl (w2 + 1) (fun y5 => kf24 (w2, y5)))))) else none
def m_X8_quietestRow (s : Mem) : Res Int32 := vl (pI s 8 0 0) (fun s1 => if ib 0 135 then if ¬ gI s1 136 0.toNatClampNeg = 0 then (lp (fun kf24 a => m_X8_quietestRow_b24 s1 kf24 a.1 a.2) FUEL (0, 1)) else (bindR (m_X8_fails 1 s1) (fun v6 s7 => some (.inl v6, s7))) else none)
set_option maxRecDepth 100000 in
set_option maxHeartbeats 2000000 in
theorem l_X8_quietestRow_b24 {X : Cx} {V : Vx} {A : Nat → Prop} {adV : Nat → Nat} {c0 s0 : Nat} (hC : Cok X V A yX8_quietestRow.cls cX8_quietestRow 3) (hE : Env0 V adV A (xs X) (xs X).heap) (hl : (xl X).stackTraces = false) (hx : ∀ x ∈ (xc X).exceptionTable.toList, False) (hr : (xh X).sig.returnType = some .int) (s : Mem) (kf24 : (Int32 × Int32) → Res Int32) (hk24 : ∀ a, LX X V A 32 545 c0 s0 (FM X V A (fun x => some (.int x))) 24 [(0, .ref 8), (1, .int a.1), (2, .int a.2)] [] s (kf24 a)) (w1 : Int32) (w2 : Int32) : LX X V A 32 545 c0 s0 (FM X V A (fun x => some (.int x))) 24 [(0, .ref 8), (1, .int w1), (2, .int w2)] [] s (m_X8_quietestRow_b24 s kf24 w1 w2 ) := by
  unfold m_X8_quietestRow_b24
  refine lx_iload_n hC dX8_quietestRow_24 rfl 2 rfl ?_
  refine lx_aload_n hC dX8_quietestRow_25 rfl 0 rfl ?_
  refine lx_getR (q := 136) hC ly8 rfl 1 (by decide) rfl rfl inX8 wd1606 dX8_quietestRow_26 ?_
  refine lx_iconstv (v := 0) hC dX8_quietestRow_29 rfl ?_
  refine lx_iaload hC ly136 dX8_quietestRow_30 ?_
  refine lx_icmp_ge hC 59 dX8_quietestRow_31 (by decide) ?_ ?_
  · skip
    refine lx_iload_n hC dX8_quietestRow_59 rfl 1 rfl ?_
    exact lx_iret hC rfl hr dX8_quietestRow_60
  · skip
    refine lx_aload_n hC dX8_quietestRow_34 rfl 0 rfl ?_
    refine lx_iload_n hC dX8_quietestRow_35 rfl 2 rfl ?_
    refine lx_callP hC hx (sat_X8_loudnessIn (xl X) hl w2 s) (run_V (as := [.int w2]) (rest := []) hC hE ly8 rfl cw_X8_loudnessIn ci_X8_loudnessIn wd1903 cs_X8_loudnessIn ce_X8_loudnessIn cd_X8_loudnessIn (by decide) (by decide) (Nat.le_of_ble_eq_true rfl) dX8_quietestRow_36 rfl) (fun v2 _ => ?_)
    refine lx_aload_n hC dX8_quietestRow_39 rfl 0 rfl ?_
    refine lx_iload_n hC dX8_quietestRow_40 rfl 1 rfl ?_
    refine lx_callP hC hx (sat_X8_loudnessIn (xl X) hl w1 s) (run_V (as := [.int w1]) (rest := [.int v2]) hC hE ly8 rfl cw_X8_loudnessIn ci_X8_loudnessIn wd1903 cs_X8_loudnessIn ce_X8_loudnessIn cd_X8_loudnessIn (by decide) (by decide) (Nat.le_of_ble_eq_true rfl) dX8_quietestRow_41 rfl) (fun v3 _ => ?_)
    refine lx_icmp_ge hC 51 dX8_quietestRow_44 (by decide) ?_ ?_
    · skip
      refine lx_iload_n hC dX8_quietestRow_51 rfl 1 rfl ?_
      refine lx_istore_n hC dX8_quietestRow_52 rfl (by decide) ?_
      refine lx_iincN (v := 1) hC dX8_quietestRow_53 2 rfl (by decide) rfl (fun y4 => ?_)
      refine lx_goto hC 24 dX8_quietestRow_56 (by decide) ?_
      exact lx_sub [2, 1, 0] rfl (hk24 (w1, y4))
    · skip
      refine lx_iload_n hC dX8_quietestRow_47 rfl 2 rfl ?_
      refine lx_goto hC 52 dX8_quietestRow_48 (by decide) ?_
      refine lx_istore_n hC dX8_quietestRow_52 rfl (by decide) ?_
      refine lx_iincN (v := 1) hC dX8_quietestRow_53 2 rfl (by decide) rfl (fun y5 => ?_)
      refine lx_goto hC 24 dX8_quietestRow_56 (by decide) ?_
      exact lx_sub [2, 1, 0] rfl (hk24 (w2, y5))
set_option maxRecDepth 100000 in
set_option maxHeartbeats 2000000 in
theorem n_X8_quietestRow_b24 (s : Mem) (kf24 : (Int32 × Int32) → Res Int32) (hm24 : ∀ a, Mn s (kf24 a)) (w1 : Int32) (w2 : Int32) : Mn s (m_X8_quietestRow_b24 s kf24 w1 w2 ) := by
  unfold m_X8_quietestRow_b24
  refine mn_if ?_ mn_none
  refine mn_if ?_ ?_
  · skip
    exact mn_some
  · skip
    refine mn_bindP (fun v2 => ?_)
    refine mn_bindP (fun v3 => ?_)
    refine mn_if ?_ ?_
    · skip
      refine mn_vl (fun y4 => ?_)
      exact hm24 (w1, y4)
    · skip
      refine mn_vl (fun y5 => ?_)
      exact hm24 (w2, y5)
set_option maxRecDepth 100000 in
set_option maxHeartbeats 2000000 in
theorem n_X8_quietestRow (s : Mem) : Mn s (m_X8_quietestRow s) := by
  unfold m_X8_quietestRow
  refine mn_put (fun s1 => ?_)
  refine mn_if ?_ mn_none
  refine mn_if ?_ ?_
  · skip
    exact mn_lp (sg := fun a => s1) (fun kf hq a => n_X8_quietestRow_b24 s1 kf hq a.1 a.2) FUEL (0, 1)
  · skip
    refine mn_bind (n_X8_fails 1 s1) (fun v6 s7 => ?_)
    exact mn_some
set_option maxRecDepth 100000 in
set_option maxHeartbeats 2000000 in
theorem sat_X8_quietestRow (l : Launch) (hl : l.stackTraces = false) (s : Mem) : Sat l yX8_quietestRow (.code yX8_quietestRow cX8_quietestRow 3 (some .int)) 32 545 (fun x => some (.int x)) [.ref 8] s (m_X8_quietestRow s) := by
  refine sat_of hl (by decide) (Nat.le_of_ble_eq_true rfl) (fun X V A adV hxl hC hE hx hr => ?_) (n_X8_quietestRow s)
  subst hxl
  show LX X V A 32 545 (nC s) (nS s) _ 0 [(0, .ref 8)] [] s _
  unfold m_X8_quietestRow
  refine lx_aload_n hC dX8_quietestRow_0 rfl 0 rfl ?_
  refine lx_iconstv (v := 0) hC dX8_quietestRow_1 rfl ?_
  refine lx_putI hC ly8 rfl 0 (by decide) rfl tyX8 tyX8_ok nmX8 rfl rfl rfl inX8 wd1605 dX8_quietestRow_2 (fun s1 => ?_)
  refine lx_aload_n hC dX8_quietestRow_5 rfl 0 rfl ?_
  refine lx_getR (q := 136) hC ly8 rfl 1 (by decide) rfl rfl inX8 wd1606 dX8_quietestRow_6 ?_
  refine lx_iconstv (v := 0) hC dX8_quietestRow_9 rfl ?_
  refine lx_iaload hC ly136 dX8_quietestRow_10 ?_
  refine lx_if_ne hC 20 dX8_quietestRow_11 (by decide) ?_ ?_
  · skip
    refine lx_iconstv (v := 0) hC dX8_quietestRow_20 rfl ?_
    refine lx_istore_n hC dX8_quietestRow_21 rfl (by decide) ?_
    refine lx_iconstv (v := 1) hC dX8_quietestRow_22 rfl ?_
    refine lx_istore_n hC dX8_quietestRow_23 rfl (by decide) ?_
    refine lx_sub [2, 1, 0] rfl ?_
    exact lx_lp (lv := fun a => [(0, .ref 8), (1, .int a.1), (2, .int a.2)]) (st := fun _ => []) (sg := fun a => s1) (fun kf hq a => l_X8_quietestRow_b24 hC hE hl hx hr s1 kf hq a.1 a.2) FUEL (0, 1)
  · skip
    refine lx_aload_n hC dX8_quietestRow_14 rfl 0 rfl ?_
    refine lx_iconstv (v := 1) hC dX8_quietestRow_15 rfl ?_
    refine lx_callX hC hx (sat_X8_fails (xl X) hl 1 s1) (run_V (as := [.int 1]) (rest := []) hC hE ly8 rfl cw_X8_fails ci_X8_fails wd1676 cs_X8_fails ce_X8_fails cd_X8_fails (by decide) (by decide) (Nat.le_of_ble_eq_true rfl) dX8_quietestRow_16 rfl) (fun v6 s7 _ => ?_)
    exact lx_iret hC rfl hr dX8_quietestRow_19
def m_X8_isNamed (p0 : Int32) (s : Mem) : Res Int32 := vl (pI s 8 0 0) (fun s1 => bindP (m_X8_isBox p0 s1) (fun v2 => if ¬ v2 = 0 then (if ib ((7 + p0) - 97) 135 then if gI s1 136 ((7 + p0) - 97).toNatClampNeg ≤ 0 then (some (.inl 0, s1)) else (some (.inl 1, s1)) else none) else (bindR (m_X8_fails 1 s1) (fun v3 s4 => if v3 ≤ 0 then (some (.inl 0, s4)) else (some (.inl 1, s4))))))
set_option maxRecDepth 100000 in
set_option maxHeartbeats 2000000 in
theorem n_X8_isNamed (p0 : Int32) (s : Mem) : Mn s (m_X8_isNamed p0 s) := by
  unfold m_X8_isNamed
  refine mn_put (fun s1 => ?_)
  refine mn_bindP (fun v2 => ?_)
  refine mn_if ?_ ?_
  · skip
    refine mn_if ?_ mn_none
    refine mn_if ?_ ?_
    · skip
      exact mn_some
    · skip
      exact mn_some
  · skip
    refine mn_bind (n_X8_fails 1 s1) (fun v3 s4 => ?_)
    refine mn_if ?_ ?_
    · skip
      exact mn_some
    · skip
      exact mn_some
set_option maxRecDepth 100000 in
set_option maxHeartbeats 2000000 in
theorem sat_X8_isNamed (l : Launch) (hl : l.stackTraces = false) (p0 : Int32) (s : Mem) : Sat l yX8_isNamed (.code yX8_isNamed cX8_isNamed 2 (some .boolean)) 32 542 (fun x => some (.int x)) [.ref 8, .int p0] s (m_X8_isNamed p0 s) := by
  refine sat_of hl (by decide) (Nat.le_of_ble_eq_true rfl) (fun X V A adV hxl hC hE hx hr => ?_) (n_X8_isNamed p0 s)
  subst hxl
  show LX X V A 32 542 (nC s) (nS s) _ 0 [(0, .ref 8), (1, .int p0)] [] s _
  unfold m_X8_isNamed
  refine lx_aload_n hC dX8_isNamed_0 rfl 0 rfl ?_
  refine lx_iconstv (v := 0) hC dX8_isNamed_1 rfl ?_
  refine lx_putI hC ly8 rfl 0 (by decide) rfl tyX8 tyX8_ok nmX8 rfl rfl rfl inX8 wd1605 dX8_isNamed_2 (fun s1 => ?_)
  refine lx_iload_n hC dX8_isNamed_5 rfl 1 rfl ?_
  refine lx_callP hC hx (sat_X8_isBox (xl X) hl p0 s1) (run_S (as := [.int p0]) (rest := []) hC hE cw_X8_isBox ci_X8_isBox wd1848 cs_X8_isBox cd_X8_isBox (by decide) (by decide) (Nat.le_of_ble_eq_true rfl) dX8_isNamed_6 rfl) (fun v2 _ => ?_)
  refine lx_if_ne hC 26 dX8_isNamed_9 (by decide) ?_ ?_
  · skip
    refine lx_aload_n hC dX8_isNamed_26 rfl 0 rfl ?_
    refine lx_getR (q := 136) hC ly8 rfl 1 (by decide) rfl rfl inX8 wd1606 dX8_isNamed_27 ?_
    refine lx_bipush (v := 7) hC dX8_isNamed_30 (by decide) ?_
    refine lx_iload_n hC dX8_isNamed_32 rfl 1 rfl ?_
    refine lx_iadd hC dX8_isNamed_33 ?_
    refine lx_bipush (v := 97) hC dX8_isNamed_34 (by decide) ?_
    refine lx_isub hC dX8_isNamed_36 ?_
    refine lx_iaload hC ly136 dX8_isNamed_37 ?_
    refine lx_if_le hC 45 dX8_isNamed_38 (by decide) ?_ ?_
    · skip
      refine lx_iconstv (v := 0) hC dX8_isNamed_45 rfl ?_
      exact lx_zret hC rfl hr rfl dX8_isNamed_46
    · skip
      refine lx_iconstv (v := 1) hC dX8_isNamed_41 rfl ?_
      refine lx_goto hC 46 dX8_isNamed_42 (by decide) ?_
      exact lx_zret hC rfl hr rfl dX8_isNamed_46
  · skip
    refine lx_aload_n hC dX8_isNamed_12 rfl 0 rfl ?_
    refine lx_iconstv (v := 1) hC dX8_isNamed_13 rfl ?_
    refine lx_callX hC hx (sat_X8_fails (xl X) hl 1 s1) (run_V (as := [.int 1]) (rest := []) hC hE ly8 rfl cw_X8_fails ci_X8_fails wd1676 cs_X8_fails ce_X8_fails cd_X8_fails (by decide) (by decide) (Nat.le_of_ble_eq_true rfl) dX8_isNamed_14 rfl) (fun v3 s4 _ => ?_)
    refine lx_if_le hC 24 dX8_isNamed_17 (by decide) ?_ ?_
    · skip
      refine lx_iconstv (v := 0) hC dX8_isNamed_24 rfl ?_
      exact lx_zret hC rfl hr rfl dX8_isNamed_25
    · skip
      refine lx_iconstv (v := 1) hC dX8_isNamed_20 rfl ?_
      refine lx_goto hC 25 dX8_isNamed_21 (by decide) ?_
      exact lx_zret hC rfl hr rfl dX8_isNamed_25
def m_X8_namedRow (p0 : Int32) (s : Mem) : Res Int32 := vl (pI s 8 0 0) (fun s1 => bindP (m_X8_isBox p0 s1) (fun v2 => if ¬ v2 = 0 then (if ib ((7 + p0) - 97) 135 then vl (gI s1 136 ((7 + p0) - 97).toNatClampNeg) (fun y3 => if ¬ y3 = 0 then (some (.inl (y3 - 1), s1)) else (bindR (m_X8_fails 2 s1) (fun v4 s5 => some (.inl v4, s5)))) else none) else (bindR (m_X8_fails 1 s1) (fun v6 s7 => some (.inl v6, s7)))))
set_option maxRecDepth 100000 in
set_option maxHeartbeats 2000000 in
theorem n_X8_namedRow (p0 : Int32) (s : Mem) : Mn s (m_X8_namedRow p0 s) := by
  unfold m_X8_namedRow
  refine mn_put (fun s1 => ?_)
  refine mn_bindP (fun v2 => ?_)
  refine mn_if ?_ ?_
  · skip
    refine mn_if ?_ mn_none
    refine mn_vl (fun y3 => ?_)
    refine mn_if ?_ ?_
    · skip
      exact mn_some
    · skip
      refine mn_bind (n_X8_fails 2 s1) (fun v4 s5 => ?_)
      exact mn_some
  · skip
    refine mn_bind (n_X8_fails 1 s1) (fun v6 s7 => ?_)
    exact mn_some
set_option maxRecDepth 100000 in
set_option maxHeartbeats 2000000 in
theorem sat_X8_namedRow (l : Launch) (hl : l.stackTraces = false) (p0 : Int32) (s : Mem) : Sat l yX8_namedRow (.code yX8_namedRow cX8_namedRow 3 (some .int)) 32 542 (fun x => some (.int x)) [.ref 8, .int p0] s (m_X8_namedRow p0 s) := by
  refine sat_of hl (by decide) (Nat.le_of_ble_eq_true rfl) (fun X V A adV hxl hC hE hx hr => ?_) (n_X8_namedRow p0 s)
  subst hxl
  show LX X V A 32 542 (nC s) (nS s) _ 0 [(0, .ref 8), (1, .int p0)] [] s _
  unfold m_X8_namedRow
  refine lx_aload_n hC dX8_namedRow_0 rfl 0 rfl ?_
  refine lx_iconstv (v := 0) hC dX8_namedRow_1 rfl ?_
  refine lx_putI hC ly8 rfl 0 (by decide) rfl tyX8 tyX8_ok nmX8 rfl rfl rfl inX8 wd1605 dX8_namedRow_2 (fun s1 => ?_)
  refine lx_iload_n hC dX8_namedRow_5 rfl 1 rfl ?_
  refine lx_callP hC hx (sat_X8_isBox (xl X) hl p0 s1) (run_S (as := [.int p0]) (rest := []) hC hE cw_X8_isBox ci_X8_isBox wd1848 cs_X8_isBox cd_X8_isBox (by decide) (by decide) (Nat.le_of_ble_eq_true rfl) dX8_namedRow_6 rfl) (fun v2 _ => ?_)
  refine lx_if_ne hC 18 dX8_namedRow_9 (by decide) ?_ ?_
  · skip
    refine lx_aload_n hC dX8_namedRow_18 rfl 0 rfl ?_
    refine lx_getR (q := 136) hC ly8 rfl 1 (by decide) rfl rfl inX8 wd1606 dX8_namedRow_19 ?_
    refine lx_bipush (v := 7) hC dX8_namedRow_22 (by decide) ?_
    refine lx_iload_n hC dX8_namedRow_24 rfl 1 rfl ?_
    refine lx_iadd hC dX8_namedRow_25 ?_
    refine lx_bipush (v := 97) hC dX8_namedRow_26 (by decide) ?_
    refine lx_isub hC dX8_namedRow_28 ?_
    refine lx_iaload hC ly136 dX8_namedRow_29 ?_
    refine lx_istore_nN hC dX8_namedRow_30 rfl (by decide) (fun y3 => ?_)
    refine lx_iload_n hC dX8_namedRow_31 rfl 0 rfl ?_
    refine lx_if_ne hC 43 dX8_namedRow_32 (by decide) ?_ ?_
    · skip
      refine lx_iload_n hC dX8_namedRow_43 rfl 0 rfl ?_
      refine lx_iconstv (v := 1) hC dX8_namedRow_44 rfl ?_
      refine lx_isub hC dX8_namedRow_45 ?_
      exact lx_iret hC rfl hr dX8_namedRow_46
    · skip
      refine lx_aload_n hC dX8_namedRow_35 rfl 1 rfl ?_
      refine lx_iconstv (v := 2) hC dX8_namedRow_36 rfl ?_
      refine lx_callX hC hx (sat_X8_fails (xl X) hl 2 s1) (run_V (as := [.int 2]) (rest := []) hC hE ly8 rfl cw_X8_fails ci_X8_fails wd1676 cs_X8_fails ce_X8_fails cd_X8_fails (by decide) (by decide) (Nat.le_of_ble_eq_true rfl) dX8_namedRow_37 rfl) (fun v4 s5 _ => ?_)
      refine lx_goto hC 46 dX8_namedRow_40 (by decide) ?_
      exact lx_iret hC rfl hr dX8_namedRow_46
  · skip
    refine lx_aload_n hC dX8_namedRow_12 rfl 0 rfl ?_
    refine lx_iconstv (v := 1) hC dX8_namedRow_13 rfl ?_
    refine lx_callX hC hx (sat_X8_fails (xl X) hl 1 s1) (run_V (as := [.int 1]) (rest := []) hC hE ly8 rfl cw_X8_fails ci_X8_fails wd1676 cs_X8_fails ce_X8_fails cd_X8_fails (by decide) (by decide) (Nat.le_of_ble_eq_true rfl) dX8_namedRow_14 rfl) (fun v6 s7 _ => ?_)
    exact lx_iret hC rfl hr dX8_namedRow_17
def m_X8_boxCount_b23 (x3 : Int32) (s : Mem) (kf23 : (Int32 × Int32) → Res Int32) (w2 : Int32) (w3 : Int32) : Res Int32 := if 8 ≤ w3 then (some (.inl w2, s)) else (if ib (7 + w3) 135 then if ¬ gI s 136 (7 + w3).toNatClampNeg = x3 + 1 then (vl (w2 + 0) (fun y4 => vl (w3 + 1) (fun y5 => kf23 (y4, y5)))) else (vl (w2 + 1) (fun y6 => vl (w3 + 1) (fun y7 => kf23 (y6, y7)))) else none)
def m_X8_boxCount (p0 : Int32) (s : Mem) : Res Int32 := vl (pI s 8 0 0) (fun s1 => bindP (m_X8_isRow p0 s1) (fun v2 => if ¬ v2 = 0 then (lp (fun kf23 a => m_X8_boxCount_b23 p0 s1 kf23 a.1 a.2) FUEL (0, 0)) else (bindR (m_X8_fails 1 s1) (fun v8 s9 => some (.inl v8, s9)))))
set_option maxRecDepth 100000 in
set_option maxHeartbeats 2000000 in
theorem l_X8_boxCount_b23 {X : Cx} {V : Vx} {A : Nat → Prop} {adV : Nat → Nat} {c0 s0 : Nat} (hC : Cok X V A yX8_boxCount.cls cX8_boxCount 4) (hE : Env0 V adV A (xs X) (xs X).heap) (hl : (xl X).stackTraces = false) (hx : ∀ x ∈ (xc X).exceptionTable.toList, False) (hr : (xh X).sig.returnType = some .int) (x3 : Int32) (s : Mem) (kf23 : (Int32 × Int32) → Res Int32) (hk23 : ∀ a, LX X V A 32 543 c0 s0 (FM X V A (fun x => some (.int x))) 23 [(0, .ref 8), (1, .int x3), (2, .int a.1), (3, .int a.2)] [] s (kf23 a)) (w2 : Int32) (w3 : Int32) : LX X V A 32 543 c0 s0 (FM X V A (fun x => some (.int x))) 23 [(0, .ref 8), (1, .int x3), (2, .int w2), (3, .int w3)] [] s (m_X8_boxCount_b23 x3 s kf23 w2 w3 ) := by
  unfold m_X8_boxCount_b23
  refine lx_iload_n hC dX8_boxCount_23 rfl 3 rfl ?_
  refine lx_bipush (v := 8) hC dX8_boxCount_24 (by decide) ?_
  refine lx_icmp_ge hC 58 dX8_boxCount_26 (by decide) ?_ ?_
  · skip
    refine lx_iload_n hC dX8_boxCount_58 rfl 2 rfl ?_
    exact lx_iret hC rfl hr dX8_boxCount_59
  · skip
    refine lx_iload_n hC dX8_boxCount_29 rfl 2 rfl ?_
    refine lx_aload_n hC dX8_boxCount_30 rfl 0 rfl ?_
    refine lx_getR (q := 136) hC ly8 rfl 1 (by decide) rfl rfl inX8 wd1606 dX8_boxCount_31 ?_
    refine lx_bipush (v := 7) hC dX8_boxCount_34 (by decide) ?_
    refine lx_iload_n hC dX8_boxCount_36 rfl 3 rfl ?_
    refine lx_iadd hC dX8_boxCount_37 ?_
    refine lx_iaload hC ly136 dX8_boxCount_38 ?_
    refine lx_iload_n hC dX8_boxCount_39 rfl 1 rfl ?_
    refine lx_iconstv (v := 1) hC dX8_boxCount_40 rfl ?_
    refine lx_iadd hC dX8_boxCount_41 ?_
    refine lx_icmp_ne hC 49 dX8_boxCount_42 (by decide) ?_ ?_
    · skip
      refine lx_iconstv (v := 0) hC dX8_boxCount_49 rfl ?_
      refine lx_iadd hC dX8_boxCount_50 ?_
      refine lx_istore_nN hC dX8_boxCount_51 rfl (by decide) (fun y4 => ?_)
      refine lx_iincN (v := 1) hC dX8_boxCount_52 3 rfl (by decide) rfl (fun y5 => ?_)
      refine lx_goto hC 23 dX8_boxCount_55 (by decide) ?_
      exact lx_sub [2, 3, 1, 0] rfl (hk23 (y4, y5))
    · skip
      refine lx_iconstv (v := 1) hC dX8_boxCount_45 rfl ?_
      refine lx_goto hC 50 dX8_boxCount_46 (by decide) ?_
      refine lx_iadd hC dX8_boxCount_50 ?_
      refine lx_istore_nN hC dX8_boxCount_51 rfl (by decide) (fun y6 => ?_)
      refine lx_iincN (v := 1) hC dX8_boxCount_52 3 rfl (by decide) rfl (fun y7 => ?_)
      refine lx_goto hC 23 dX8_boxCount_55 (by decide) ?_
      exact lx_sub [2, 3, 1, 0] rfl (hk23 (y6, y7))
set_option maxRecDepth 100000 in
set_option maxHeartbeats 2000000 in
theorem n_X8_boxCount_b23 (x3 : Int32) (s : Mem) (kf23 : (Int32 × Int32) → Res Int32) (hm23 : ∀ a, Mn s (kf23 a)) (w2 : Int32) (w3 : Int32) : Mn s (m_X8_boxCount_b23 x3 s kf23 w2 w3 ) := by
  unfold m_X8_boxCount_b23
  refine mn_if ?_ ?_
  · skip
    exact mn_some
  · skip
    refine mn_if ?_ mn_none
    refine mn_if ?_ ?_
    · skip
      refine mn_vl (fun y4 => ?_)
      refine mn_vl (fun y5 => ?_)
      exact hm23 (y4, y5)
    · skip
      refine mn_vl (fun y6 => ?_)
      refine mn_vl (fun y7 => ?_)
      exact hm23 (y6, y7)
set_option maxRecDepth 100000 in
set_option maxHeartbeats 2000000 in
theorem n_X8_boxCount (p0 : Int32) (s : Mem) : Mn s (m_X8_boxCount p0 s) := by
  unfold m_X8_boxCount
  refine mn_put (fun s1 => ?_)
  refine mn_bindP (fun v2 => ?_)
  refine mn_if ?_ ?_
  · skip
    exact mn_lp (sg := fun a => s1) (fun kf hq a => n_X8_boxCount_b23 p0 s1 kf hq a.1 a.2) FUEL (0, 0)
  · skip
    refine mn_bind (n_X8_fails 1 s1) (fun v8 s9 => ?_)
    exact mn_some
set_option maxRecDepth 100000 in
set_option maxHeartbeats 2000000 in
theorem sat_X8_boxCount (l : Launch) (hl : l.stackTraces = false) (p0 : Int32) (s : Mem) : Sat l yX8_boxCount (.code yX8_boxCount cX8_boxCount 4 (some .int)) 32 543 (fun x => some (.int x)) [.ref 8, .int p0] s (m_X8_boxCount p0 s) := by
  refine sat_of hl (by decide) (Nat.le_of_ble_eq_true rfl) (fun X V A adV hxl hC hE hx hr => ?_) (n_X8_boxCount p0 s)
  subst hxl
  show LX X V A 32 543 (nC s) (nS s) _ 0 [(0, .ref 8), (1, .int p0)] [] s _
  unfold m_X8_boxCount
  refine lx_aload_n hC dX8_boxCount_0 rfl 0 rfl ?_
  refine lx_iconstv (v := 0) hC dX8_boxCount_1 rfl ?_
  refine lx_putI hC ly8 rfl 0 (by decide) rfl tyX8 tyX8_ok nmX8 rfl rfl rfl inX8 wd1605 dX8_boxCount_2 (fun s1 => ?_)
  refine lx_aload_n hC dX8_boxCount_5 rfl 0 rfl ?_
  refine lx_iload_n hC dX8_boxCount_6 rfl 1 rfl ?_
  refine lx_callP hC hx (sat_X8_isRow (xl X) hl p0 s1) (run_V (as := [.int p0]) (rest := []) hC hE ly8 rfl cw_X8_isRow ci_X8_isRow wd1708 cs_X8_isRow ce_X8_isRow cd_X8_isRow (by decide) (by decide) (Nat.le_of_ble_eq_true rfl) dX8_boxCount_7 rfl) (fun v2 _ => ?_)
  refine lx_if_ne hC 19 dX8_boxCount_10 (by decide) ?_ ?_
  · skip
    refine lx_iconstv (v := 0) hC dX8_boxCount_19 rfl ?_
    refine lx_istore_n hC dX8_boxCount_20 rfl (by decide) ?_
    refine lx_iconstv (v := 0) hC dX8_boxCount_21 rfl ?_
    refine lx_istore_n hC dX8_boxCount_22 rfl (by decide) ?_
    refine lx_sub [2, 3, 1, 0] rfl ?_
    exact lx_lp (lv := fun a => [(0, .ref 8), (1, .int p0), (2, .int a.1), (3, .int a.2)]) (st := fun _ => []) (sg := fun a => s1) (fun kf hq a => l_X8_boxCount_b23 hC hE hl hx hr p0 s1 kf hq a.1 a.2) FUEL (0, 0)
  · skip
    refine lx_aload_n hC dX8_boxCount_13 rfl 0 rfl ?_
    refine lx_iconstv (v := 1) hC dX8_boxCount_14 rfl ?_
    refine lx_callX hC hx (sat_X8_fails (xl X) hl 1 s1) (run_V (as := [.int 1]) (rest := []) hC hE ly8 rfl cw_X8_fails ci_X8_fails wd1676 cs_X8_fails ce_X8_fails cd_X8_fails (by decide) (by decide) (Nat.le_of_ble_eq_true rfl) dX8_boxCount_15 rfl) (fun v8 s9 _ => ?_)
    exact lx_iret hC rfl hr dX8_boxCount_18
def m_X8_moveCount (s : Mem) : Res Int32 := vl (pI s 8 0 0) (fun s1 => if ib 3 135 then some (.inl (gI s1 136 3.toNatClampNeg), s1) else none)
set_option maxRecDepth 100000 in
set_option maxHeartbeats 2000000 in
theorem n_X8_moveCount (s : Mem) : Mn s (m_X8_moveCount s) := by
  unfold m_X8_moveCount
  refine mn_put (fun s1 => ?_)
  refine mn_if ?_ mn_none
  exact mn_some
set_option maxRecDepth 100000 in
set_option maxHeartbeats 2000000 in
theorem sat_X8_moveCount (l : Launch) (hl : l.stackTraces = false) (s : Mem) : Sat l yX8_moveCount (.code yX8_moveCount cX8_moveCount 1 (some .int)) 30 500 (fun x => some (.int x)) [.ref 8] s (m_X8_moveCount s) := by
  refine sat_of hl (by decide) (Nat.le_of_ble_eq_true rfl) (fun X V A adV hxl hC hE hx hr => ?_) (n_X8_moveCount s)
  subst hxl
  show LX X V A 30 500 (nC s) (nS s) _ 0 [(0, .ref 8)] [] s _
  unfold m_X8_moveCount
  refine lx_aload_n hC dX8_moveCount_0 rfl 0 rfl ?_
  refine lx_iconstv (v := 0) hC dX8_moveCount_1 rfl ?_
  refine lx_putI hC ly8 rfl 0 (by decide) rfl tyX8 tyX8_ok nmX8 rfl rfl rfl inX8 wd1605 dX8_moveCount_2 (fun s1 => ?_)
  refine lx_aload_n hC dX8_moveCount_5 rfl 0 rfl ?_
  refine lx_getR (q := 136) hC ly8 rfl 1 (by decide) rfl rfl inX8 wd1606 dX8_moveCount_6 ?_
  refine lx_iconstv (v := 3) hC dX8_moveCount_9 rfl ?_
  refine lx_iaload hC ly136 dX8_moveCount_10 ?_
  exact lx_iret hC rfl hr dX8_moveCount_11
def m_X8_removeCount (s : Mem) : Res Int32 := vl (pI s 8 0 0) (fun s1 => if ib 4 135 then some (.inl (gI s1 136 4.toNatClampNeg), s1) else none)
set_option maxRecDepth 100000 in
set_option maxHeartbeats 2000000 in
theorem n_X8_removeCount (s : Mem) : Mn s (m_X8_removeCount s) := by
  unfold m_X8_removeCount
  refine mn_put (fun s1 => ?_)
  refine mn_if ?_ mn_none
  exact mn_some
set_option maxRecDepth 100000 in
set_option maxHeartbeats 2000000 in
theorem sat_X8_removeCount (l : Launch) (hl : l.stackTraces = false) (s : Mem) : Sat l yX8_removeCount (.code yX8_removeCount cX8_removeCount 1 (some .int)) 30 500 (fun x => some (.int x)) [.ref 8] s (m_X8_removeCount s) := by
  refine sat_of hl (by decide) (Nat.le_of_ble_eq_true rfl) (fun X V A adV hxl hC hE hx hr => ?_) (n_X8_removeCount s)
  subst hxl
  show LX X V A 30 500 (nC s) (nS s) _ 0 [(0, .ref 8)] [] s _
  unfold m_X8_removeCount
  refine lx_aload_n hC dX8_removeCount_0 rfl 0 rfl ?_
  refine lx_iconstv (v := 0) hC dX8_removeCount_1 rfl ?_
  refine lx_putI hC ly8 rfl 0 (by decide) rfl tyX8 tyX8_ok nmX8 rfl rfl rfl inX8 wd1605 dX8_removeCount_2 (fun s1 => ?_)
  refine lx_aload_n hC dX8_removeCount_5 rfl 0 rfl ?_
  refine lx_getR (q := 136) hC ly8 rfl 1 (by decide) rfl rfl inX8 wd1606 dX8_removeCount_6 ?_
  refine lx_iconstv (v := 4) hC dX8_removeCount_9 rfl ?_
  refine lx_iaload hC ly136 dX8_removeCount_10 ?_
  exact lx_iret hC rfl hr dX8_removeCount_11
def m_X8_addedLoudness (s : Mem) : Res Int64 := vl (pI s 8 0 0) (fun s1 => if ib 5 135 then some (.inl ((gI s1 136 5.toNatClampNeg).toInt64), s1) else none)
set_option maxRecDepth 100000 in
set_option maxHeartbeats 2000000 in
theorem n_X8_addedLoudness (s : Mem) : Mn s (m_X8_addedLoudness s) := by
  unfold m_X8_addedLoudness
  refine mn_put (fun s1 => ?_)
  refine mn_if ?_ mn_none
  exact mn_some
set_option maxRecDepth 100000 in
set_option maxHeartbeats 2000000 in
theorem sat_X8_addedLoudness (l : Launch) (hl : l.stackTraces = false) (s : Mem) : Sat l yX8_addedLoudness (.code yX8_addedLoudness cX8_addedLoudness 1 (some .long)) 30 500 (fun x => some (.long x)) [.ref 8] s (m_X8_addedLoudness s) := by
  refine sat_of hl (by decide) (Nat.le_of_ble_eq_true rfl) (fun X V A adV hxl hC hE hx hr => ?_) (n_X8_addedLoudness s)
  subst hxl
  show LX X V A 30 500 (nC s) (nS s) _ 0 [(0, .ref 8)] [] s _
  unfold m_X8_addedLoudness
  refine lx_aload_n hC dX8_addedLoudness_0 rfl 0 rfl ?_
  refine lx_iconstv (v := 0) hC dX8_addedLoudness_1 rfl ?_
  refine lx_putI hC ly8 rfl 0 (by decide) rfl tyX8 tyX8_ok nmX8 rfl rfl rfl inX8 wd1605 dX8_addedLoudness_2 (fun s1 => ?_)
  refine lx_aload_n hC dX8_addedLoudness_5 rfl 0 rfl ?_
  refine lx_getR (q := 136) hC ly8 rfl 1 (by decide) rfl rfl inX8 wd1606 dX8_addedLoudness_6 ?_
  refine lx_iconstv (v := 5) hC dX8_addedLoudness_9 rfl ?_
  refine lx_iaload hC ly136 dX8_addedLoudness_10 ?_
  refine lx_i2l hC dX8_addedLoudness_11 ?_
  exact lx_lret hC rfl hr dX8_addedLoudness_12
def m_X8_lostLoudness (s : Mem) : Res Int64 := vl (pI s 8 0 0) (fun s1 => if ib 6 135 then some (.inl ((gI s1 136 6.toNatClampNeg).toInt64), s1) else none)
set_option maxRecDepth 100000 in
set_option maxHeartbeats 2000000 in
theorem n_X8_lostLoudness (s : Mem) : Mn s (m_X8_lostLoudness s) := by
  unfold m_X8_lostLoudness
  refine mn_put (fun s1 => ?_)
  refine mn_if ?_ mn_none
  exact mn_some
set_option maxRecDepth 100000 in
set_option maxHeartbeats 2000000 in
theorem sat_X8_lostLoudness (l : Launch) (hl : l.stackTraces = false) (s : Mem) : Sat l yX8_lostLoudness (.code yX8_lostLoudness cX8_lostLoudness 1 (some .long)) 30 500 (fun x => some (.long x)) [.ref 8] s (m_X8_lostLoudness s) := by
  refine sat_of hl (by decide) (Nat.le_of_ble_eq_true rfl) (fun X V A adV hxl hC hE hx hr => ?_) (n_X8_lostLoudness s)
  subst hxl
  show LX X V A 30 500 (nC s) (nS s) _ 0 [(0, .ref 8)] [] s _
  unfold m_X8_lostLoudness
  refine lx_aload_n hC dX8_lostLoudness_0 rfl 0 rfl ?_
  refine lx_iconstv (v := 0) hC dX8_lostLoudness_1 rfl ?_
  refine lx_putI hC ly8 rfl 0 (by decide) rfl tyX8 tyX8_ok nmX8 rfl rfl rfl inX8 wd1605 dX8_lostLoudness_2 (fun s1 => ?_)
  refine lx_aload_n hC dX8_lostLoudness_5 rfl 0 rfl ?_
  refine lx_getR (q := 136) hC ly8 rfl 1 (by decide) rfl rfl inX8 wd1606 dX8_lostLoudness_6 ?_
  refine lx_bipush (v := 6) hC dX8_lostLoudness_9 (by decide) ?_
  refine lx_iaload hC ly136 dX8_lostLoudness_11 ?_
  refine lx_i2l hC dX8_lostLoudness_12 ?_
  exact lx_lret hC rfl hr dX8_lostLoudness_13
def m_X8_activeSum_b4 (s : Mem) (kf4 : (Int32 × Int32) → Option Int32) (w1 : Int32) (w2 : Int32) : Option Int32 := if ib 1 135 then if gI s 136 1.toNatClampNeg ≤ w2 then (some w1) else (bindO (m_X8_is w2 2 s) (fun v1 => vl (w1 + v1) (fun y2 => vl (w2 + 1) (fun y3 => kf4 (y2, y3))))) else none
def m_X8_activeSum (s : Mem) : Option Int32 := lpO (fun kf4 a => m_X8_activeSum_b4 s kf4 a.1 a.2) FUEL (0, 0)
set_option maxRecDepth 100000 in
set_option maxHeartbeats 2000000 in
theorem l_X8_activeSum_b4 {X : Cx} {V : Vx} {A : Nat → Prop} {adV : Nat → Nat} {c0 s0 : Nat} (hC : Cok X V A yX8_activeSum.cls cX8_activeSum 3) (hE : Env0 V adV A (xs X) (xs X).heap) (hl : (xl X).stackTraces = false) (hx : ∀ x ∈ (xc X).exceptionTable.toList, False) (hr : (xh X).sig.returnType = some .int) (s : Mem) (kf4 : (Int32 × Int32) → Option Int32) (hk4 : ∀ a, LX X V A 31 522 c0 s0 (FM X V A (fun x => some (.int x))) 4 [(0, .ref 8), (1, .int a.1), (2, .int a.2)] [] s (pur s (kf4 a))) (w1 : Int32) (w2 : Int32) : LX X V A 31 522 c0 s0 (FM X V A (fun x => some (.int x))) 4 [(0, .ref 8), (1, .int w1), (2, .int w2)] [] s (pur s (m_X8_activeSum_b4 s kf4 w1 w2 )) := by
  unfold m_X8_activeSum_b4
  refine lx_iload_n hC dX8_activeSum_4 rfl 2 rfl ?_
  refine lx_aload_n hC dX8_activeSum_5 rfl 0 rfl ?_
  refine lx_getR (q := 136) hC ly8 rfl 1 (by decide) rfl rfl inX8 wd1606 dX8_activeSum_6 ?_
  refine lx_iconstv (v := 1) hC dX8_activeSum_9 rfl ?_
  refine lq_iaload hC ly136 dX8_activeSum_10 ?_
  refine lq_icmp_ge hC 29 dX8_activeSum_11 (by decide) ?_ ?_
  · skip
    refine lx_iload_n hC dX8_activeSum_29 rfl 1 rfl ?_
    exact lx_iret hC rfl hr dX8_activeSum_30
  · skip
    refine lx_iload_n hC dX8_activeSum_14 rfl 1 rfl ?_
    refine lx_aload_n hC dX8_activeSum_15 rfl 0 rfl ?_
    refine lx_iload_n hC dX8_activeSum_16 rfl 2 rfl ?_
    refine lx_iconstv (v := 2) hC dX8_activeSum_17 rfl ?_
    refine lq_call hC hx (sat_X8_is (xl X) hl w2 2 s) (run_V (as := [.int w2, .int 2]) (rest := [.int w1]) hC hE ly8 rfl cw_X8_is ci_X8_is wd1740 cs_X8_is ce_X8_is cd_X8_is (by decide) (by decide) (Nat.le_of_ble_eq_true rfl) dX8_activeSum_18 rfl) (fun v1 _ => ?_)
    refine lx_iadd hC dX8_activeSum_21 ?_
    refine lq_istore_nN hC dX8_activeSum_22 rfl (by decide) (fun y2 => ?_)
    refine lq_iincN (v := 1) hC dX8_activeSum_23 2 rfl (by decide) rfl (fun y3 => ?_)
    refine lx_goto hC 4 dX8_activeSum_26 (by decide) ?_
    exact lx_sub [2, 1, 0] rfl (hk4 (y2, y3))
set_option maxRecDepth 100000 in
set_option maxHeartbeats 2000000 in
theorem sat_X8_activeSum (l : Launch) (hl : l.stackTraces = false) (s : Mem) : Sat l yX8_activeSum (.code yX8_activeSum cX8_activeSum 3 (some .int)) 31 522 (fun x => some (.int x)) [.ref 8] s (pur s (m_X8_activeSum s)) := by
  refine sat_of hl (by decide) (Nat.le_of_ble_eq_true rfl) (fun X V A adV hxl hC hE hx hr => ?_) pur_mono
  subst hxl
  show LX X V A 31 522 (nC s) (nS s) _ 0 [(0, .ref 8)] [] s _
  unfold m_X8_activeSum
  refine lx_iconstv (v := 0) hC dX8_activeSum_0 rfl ?_
  refine lx_istore_n hC dX8_activeSum_1 rfl (by decide) ?_
  refine lx_iconstv (v := 0) hC dX8_activeSum_2 rfl ?_
  refine lx_istore_n hC dX8_activeSum_3 rfl (by decide) ?_
  refine lx_sub [2, 1, 0] rfl ?_
  exact lq_lp (lv := fun a => [(0, .ref 8), (1, .int a.1), (2, .int a.2)]) (st := fun _ => []) (fun kf hq a => l_X8_activeSum_b4 hC hE hl hx hr s kf hq a.1 a.2) FUEL (0, 0)
def m_X8_activeLoudness (s : Mem) : Res Int64 := vl (pI s 8 0 0) (fun s1 => bindP (m_X8_activeSum s1) (fun v2 => some (.inl v2.toInt64, s1)))
set_option maxRecDepth 100000 in
set_option maxHeartbeats 2000000 in
theorem n_X8_activeLoudness (s : Mem) : Mn s (m_X8_activeLoudness s) := by
  unfold m_X8_activeLoudness
  refine mn_put (fun s1 => ?_)
  refine mn_bindP (fun v2 => ?_)
  exact mn_some
set_option maxRecDepth 100000 in
set_option maxHeartbeats 2000000 in
theorem sat_X8_activeLoudness (l : Launch) (hl : l.stackTraces = false) (s : Mem) : Sat l yX8_activeLoudness (.code yX8_activeLoudness cX8_activeLoudness 1 (some .long)) 32 544 (fun x => some (.long x)) [.ref 8] s (m_X8_activeLoudness s) := by
  refine sat_of hl (by decide) (Nat.le_of_ble_eq_true rfl) (fun X V A adV hxl hC hE hx hr => ?_) (n_X8_activeLoudness s)
  subst hxl
  show LX X V A 32 544 (nC s) (nS s) _ 0 [(0, .ref 8)] [] s _
  unfold m_X8_activeLoudness
  refine lx_aload_n hC dX8_activeLoudness_0 rfl 0 rfl ?_
  refine lx_iconstv (v := 0) hC dX8_activeLoudness_1 rfl ?_
  refine lx_putI hC ly8 rfl 0 (by decide) rfl tyX8 tyX8_ok nmX8 rfl rfl rfl inX8 wd1605 dX8_activeLoudness_2 (fun s1 => ?_)
  refine lx_aload_n hC dX8_activeLoudness_5 rfl 0 rfl ?_
  refine lx_callP hC hx (sat_X8_activeSum (xl X) hl s1) (run_V (as := []) (rest := []) hC hE ly8 rfl cw_X8_activeSum ci_X8_activeSum wd2046 cs_X8_activeSum ce_X8_activeSum cd_X8_activeSum (by decide) (by decide) (Nat.le_of_ble_eq_true rfl) dX8_activeLoudness_6 rfl) (fun v2 _ => ?_)
  refine lx_i2l hC dX8_activeLoudness_9 ?_
  exact lx_lret hC rfl hr dX8_activeLoudness_10
def m_X8_meanOccupancy (s : Mem) : Res UInt64 := vl (pI s 8 0 0) (fun s1 => if ib 0 135 then if ¬ gI s1 136 0.toNatClampNeg = 0 then (if ib 1 135 then if ib 0 135 then if vf_n64 (FP.ddiv (FP.i2d (gI s1 136 1.toNatClampNeg)) (FP.i2d (gI s1 136 0.toNatClampNeg))) then some (.inl (FP.ddiv (FP.i2d (gI s1 136 1.toNatClampNeg)) (FP.i2d (gI s1 136 0.toNatClampNeg))), s1) else none else none else none) else (bindR (m_X8_fails 1 s1) (fun v3 s4 => some (.inl (FP.i2d v3), s4))) else none)
set_option maxRecDepth 100000 in
set_option maxHeartbeats 2000000 in
theorem n_X8_meanOccupancy (s : Mem) : Mn s (m_X8_meanOccupancy s) := by
  unfold m_X8_meanOccupancy
  refine mn_put (fun s1 => ?_)
  refine mn_if ?_ mn_none
  refine mn_if ?_ ?_
  · skip
    refine mn_if ?_ mn_none
    refine mn_if ?_ mn_none
    refine mn_if ?_ mn_none
    exact mn_some
  · skip
    refine mn_bind (n_X8_fails 1 s1) (fun v3 s4 => ?_)
    exact mn_some
set_option maxRecDepth 100000 in
set_option maxHeartbeats 2000000 in
theorem sat_X8_meanOccupancy (l : Launch) (hl : l.stackTraces = false) (s : Mem) : Sat l yX8_meanOccupancy (.code yX8_meanOccupancy cX8_meanOccupancy 1 (some .double)) 31 521 (fun x => some (.double x)) [.ref 8] s (m_X8_meanOccupancy s) := by
  refine sat_of hl (by decide) (Nat.le_of_ble_eq_true rfl) (fun X V A adV hxl hC hE hx hr => ?_) (n_X8_meanOccupancy s)
  subst hxl
  show LX X V A 31 521 (nC s) (nS s) _ 0 [(0, .ref 8)] [] s _
  unfold m_X8_meanOccupancy
  refine lx_aload_n hC dX8_meanOccupancy_0 rfl 0 rfl ?_
  refine lx_iconstv (v := 0) hC dX8_meanOccupancy_1 rfl ?_
  refine lx_putI hC ly8 rfl 0 (by decide) rfl tyX8 tyX8_ok nmX8 rfl rfl rfl inX8 wd1605 dX8_meanOccupancy_2 (fun s1 => ?_)
  refine lx_aload_n hC dX8_meanOccupancy_5 rfl 0 rfl ?_
  refine lx_getR (q := 136) hC ly8 rfl 1 (by decide) rfl rfl inX8 wd1606 dX8_meanOccupancy_6 ?_
  refine lx_iconstv (v := 0) hC dX8_meanOccupancy_9 rfl ?_
  refine lx_iaload hC ly136 dX8_meanOccupancy_10 ?_
  refine lx_if_ne hC 23 dX8_meanOccupancy_11 (by decide) ?_ ?_
  · skip
    refine lx_aload_n hC dX8_meanOccupancy_23 rfl 0 rfl ?_
    refine lx_getR (q := 136) hC ly8 rfl 1 (by decide) rfl rfl inX8 wd1606 dX8_meanOccupancy_24 ?_
    refine lx_iconstv (v := 1) hC dX8_meanOccupancy_27 rfl ?_
    refine lx_iaload hC ly136 dX8_meanOccupancy_28 ?_
    refine lx_i2d hC dX8_meanOccupancy_29 ?_
    refine lx_aload_n hC dX8_meanOccupancy_30 rfl 0 rfl ?_
    refine lx_getR (q := 136) hC ly8 rfl 1 (by decide) rfl rfl inX8 wd1606 dX8_meanOccupancy_31 ?_
    refine lx_iconstv (v := 0) hC dX8_meanOccupancy_34 rfl ?_
    refine lx_iaload hC ly136 dX8_meanOccupancy_35 ?_
    refine lx_i2d hC dX8_meanOccupancy_36 ?_
    refine lx_if fun h2 => lx_ddiv hC dX8_meanOccupancy_37 h2 ?_
    exact lx_dret hC rfl hr dX8_meanOccupancy_38
  · skip
    refine lx_aload_n hC dX8_meanOccupancy_14 rfl 0 rfl ?_
    refine lx_iconstv (v := 1) hC dX8_meanOccupancy_15 rfl ?_
    refine lx_callX hC hx (sat_X8_fails (xl X) hl 1 s1) (run_V (as := [.int 1]) (rest := []) hC hE ly8 rfl cw_X8_fails ci_X8_fails wd1676 cs_X8_fails ce_X8_fails cd_X8_fails (by decide) (by decide) (Nat.le_of_ble_eq_true rfl) dX8_meanOccupancy_16 rfl) (fun v3 s4 _ => ?_)
    refine lx_i2d hC dX8_meanOccupancy_19 ?_
    refine lx_goto hC 38 dX8_meanOccupancy_20 (by decide) ?_
    exact lx_dret hC rfl hr dX8_meanOccupancy_38
def m_X8_realShare_b25 (s : Mem) (kf25 : (Int32 × Int32) → Res UInt32) (w1 : Int32) (w2 : Int32) : Res UInt32 := if ib 0 135 then if gI s 136 0.toNatClampNeg ≤ w2 then (if ib 1 135 then if vf_n32 (FP.fdiv (FP.i2f (gI s 136 1.toNatClampNeg)) (FP.i2f w1)) then some (.inl (FP.fdiv (FP.i2f (gI s 136 1.toNatClampNeg)) (FP.i2f w1)), s) else none else none) else (bindP (m_X8_of w2 0 s) (fun v3 => vl (w1 + v3) (fun y4 => vl (w2 + 1) (fun y5 => kf25 (y4, y5))))) else none
def m_X8_realShare (s : Mem) : Res UInt32 := vl (pI s 8 0 0) (fun s1 => if ib 0 135 then if ¬ gI s1 136 0.toNatClampNeg = 0 then (lp (fun kf25 a => m_X8_realShare_b25 s1 kf25 a.1 a.2) FUEL (0, 0)) else (bindR (m_X8_fails 1 s1) (fun v6 s7 => some (.inl (FP.i2f v6), s7))) else none)
set_option maxRecDepth 100000 in
set_option maxHeartbeats 2000000 in
theorem l_X8_realShare_b25 {X : Cx} {V : Vx} {A : Nat → Prop} {adV : Nat → Nat} {c0 s0 : Nat} (hC : Cok X V A yX8_realShare.cls cX8_realShare 3) (hE : Env0 V adV A (xs X) (xs X).heap) (hl : (xl X).stackTraces = false) (hx : ∀ x ∈ (xc X).exceptionTable.toList, False) (hr : (xh X).sig.returnType = some .float) (s : Mem) (kf25 : (Int32 × Int32) → Res UInt32) (hk25 : ∀ a, LX X V A 31 522 c0 s0 (FM X V A (fun x => some (.float x))) 25 [(0, .ref 8), (1, .int a.1), (2, .int a.2)] [] s (kf25 a)) (w1 : Int32) (w2 : Int32) : LX X V A 31 522 c0 s0 (FM X V A (fun x => some (.float x))) 25 [(0, .ref 8), (1, .int w1), (2, .int w2)] [] s (m_X8_realShare_b25 s kf25 w1 w2 ) := by
  unfold m_X8_realShare_b25
  refine lx_iload_n hC dX8_realShare_25 rfl 2 rfl ?_
  refine lx_aload_n hC dX8_realShare_26 rfl 0 rfl ?_
  refine lx_getR (q := 136) hC ly8 rfl 1 (by decide) rfl rfl inX8 wd1606 dX8_realShare_27 ?_
  refine lx_iconstv (v := 0) hC dX8_realShare_30 rfl ?_
  refine lx_iaload hC ly136 dX8_realShare_31 ?_
  refine lx_icmp_ge hC 50 dX8_realShare_32 (by decide) ?_ ?_
  · skip
    refine lx_aload_n hC dX8_realShare_50 rfl 0 rfl ?_
    refine lx_getR (q := 136) hC ly8 rfl 1 (by decide) rfl rfl inX8 wd1606 dX8_realShare_51 ?_
    refine lx_iconstv (v := 1) hC dX8_realShare_54 rfl ?_
    refine lx_iaload hC ly136 dX8_realShare_55 ?_
    refine lx_i2f hC dX8_realShare_56 ?_
    refine lx_iload_n hC dX8_realShare_57 rfl 1 rfl ?_
    refine lx_i2f hC dX8_realShare_58 ?_
    refine lx_if fun h2 => lx_fdiv hC dX8_realShare_59 h2 ?_
    exact lx_fret hC rfl hr dX8_realShare_60
  · skip
    refine lx_iload_n hC dX8_realShare_35 rfl 1 rfl ?_
    refine lx_aload_n hC dX8_realShare_36 rfl 0 rfl ?_
    refine lx_iload_n hC dX8_realShare_37 rfl 2 rfl ?_
    refine lx_iconstv (v := 0) hC dX8_realShare_38 rfl ?_
    refine lx_callP hC hx (sat_X8_of (xl X) hl w2 0 s) (run_V (as := [.int w2, .int 0]) (rest := [.int w1]) hC hE ly8 rfl cw_X8_of ci_X8_of wd1716 cs_X8_of ce_X8_of cd_X8_of (by decide) (by decide) (Nat.le_of_ble_eq_true rfl) dX8_realShare_39 rfl) (fun v3 _ => ?_)
    refine lx_iadd hC dX8_realShare_42 ?_
    refine lx_istore_nN hC dX8_realShare_43 rfl (by decide) (fun y4 => ?_)
    refine lx_iincN (v := 1) hC dX8_realShare_44 2 rfl (by decide) rfl (fun y5 => ?_)
    refine lx_goto hC 25 dX8_realShare_47 (by decide) ?_
    exact lx_sub [2, 1, 0] rfl (hk25 (y4, y5))
set_option maxRecDepth 100000 in
set_option maxHeartbeats 2000000 in
theorem n_X8_realShare_b25 (s : Mem) (kf25 : (Int32 × Int32) → Res UInt32) (hm25 : ∀ a, Mn s (kf25 a)) (w1 : Int32) (w2 : Int32) : Mn s (m_X8_realShare_b25 s kf25 w1 w2 ) := by
  unfold m_X8_realShare_b25
  refine mn_if ?_ mn_none
  refine mn_if ?_ ?_
  · skip
    refine mn_if ?_ mn_none
    refine mn_if ?_ mn_none
    exact mn_some
  · skip
    refine mn_bindP (fun v3 => ?_)
    refine mn_vl (fun y4 => ?_)
    refine mn_vl (fun y5 => ?_)
    exact hm25 (y4, y5)
set_option maxRecDepth 100000 in
set_option maxHeartbeats 2000000 in
theorem n_X8_realShare (s : Mem) : Mn s (m_X8_realShare s) := by
  unfold m_X8_realShare
  refine mn_put (fun s1 => ?_)
  refine mn_if ?_ mn_none
  refine mn_if ?_ ?_
  · skip
    exact mn_lp (sg := fun a => s1) (fun kf hq a => n_X8_realShare_b25 s1 kf hq a.1 a.2) FUEL (0, 0)
  · skip
    refine mn_bind (n_X8_fails 1 s1) (fun v6 s7 => ?_)
    exact mn_some
set_option maxRecDepth 100000 in
set_option maxHeartbeats 2000000 in
theorem sat_X8_realShare (l : Launch) (hl : l.stackTraces = false) (s : Mem) : Sat l yX8_realShare (.code yX8_realShare cX8_realShare 3 (some .float)) 31 522 (fun x => some (.float x)) [.ref 8] s (m_X8_realShare s) := by
  refine sat_of hl (by decide) (Nat.le_of_ble_eq_true rfl) (fun X V A adV hxl hC hE hx hr => ?_) (n_X8_realShare s)
  subst hxl
  show LX X V A 31 522 (nC s) (nS s) _ 0 [(0, .ref 8)] [] s _
  unfold m_X8_realShare
  refine lx_aload_n hC dX8_realShare_0 rfl 0 rfl ?_
  refine lx_iconstv (v := 0) hC dX8_realShare_1 rfl ?_
  refine lx_putI hC ly8 rfl 0 (by decide) rfl tyX8 tyX8_ok nmX8 rfl rfl rfl inX8 wd1605 dX8_realShare_2 (fun s1 => ?_)
  refine lx_aload_n hC dX8_realShare_5 rfl 0 rfl ?_
  refine lx_getR (q := 136) hC ly8 rfl 1 (by decide) rfl rfl inX8 wd1606 dX8_realShare_6 ?_
  refine lx_iconstv (v := 0) hC dX8_realShare_9 rfl ?_
  refine lx_iaload hC ly136 dX8_realShare_10 ?_
  refine lx_if_ne hC 21 dX8_realShare_11 (by decide) ?_ ?_
  · skip
    refine lx_iconstv (v := 0) hC dX8_realShare_21 rfl ?_
    refine lx_istore_n hC dX8_realShare_22 rfl (by decide) ?_
    refine lx_iconstv (v := 0) hC dX8_realShare_23 rfl ?_
    refine lx_istore_n hC dX8_realShare_24 rfl (by decide) ?_
    refine lx_sub [2, 1, 0] rfl ?_
    exact lx_lp (lv := fun a => [(0, .ref 8), (1, .int a.1), (2, .int a.2)]) (st := fun _ => []) (sg := fun a => s1) (fun kf hq a => l_X8_realShare_b25 hC hE hl hx hr s1 kf hq a.1 a.2) FUEL (0, 0)
  · skip
    refine lx_aload_n hC dX8_realShare_14 rfl 0 rfl ?_
    refine lx_iconstv (v := 1) hC dX8_realShare_15 rfl ?_
    refine lx_callX hC hx (sat_X8_fails (xl X) hl 1 s1) (run_V (as := [.int 1]) (rest := []) hC hE ly8 rfl cw_X8_fails ci_X8_fails wd1676 cs_X8_fails ce_X8_fails cd_X8_fails (by decide) (by decide) (Nat.le_of_ble_eq_true rfl) dX8_realShare_16 rfl) (fun v6 s7 _ => ?_)
    refine lx_i2f hC dX8_realShare_19 ?_
    exact lx_fret hC rfl hr dX8_realShare_20
