def m_X8_isConsistent_b7 (s : Mem) (kf7 : Int32 → Res Int32) (w1 : Int32) : Res Int32 := if ib 0 135 then if gI s 136 0.toNatClampNeg ≤ w1 then (if ib 5 135 then bindP (m_X8_activeSum s) (fun v2 => if ib 6 135 then if ¬ gI s 136 5.toNatClampNeg = v2 + (gI s 136 6.toNatClampNeg) then (some (.inl 0, s)) else (some (.inl 1, s)) else none) else none) else (bindP (m_X8_roomIn w1 s) (fun v3 => if 0 ≤ v3 then (vl (w1 + 1) (fun y4 => kf7 y4)) else (some (.inl 0, s)))) else none
def m_X8_isConsistent (s : Mem) : Res Int32 := vl (pI s 8 0 0) (fun s1 => lp (fun kf7 a => m_X8_isConsistent_b7 s1 kf7 a) FUEL 0)
set_option maxRecDepth 100000 in
set_option maxHeartbeats 2000000 in
theorem l_X8_isConsistent_b7 {X : Cx} {V : Vx} {A : Nat → Prop} {adV : Nat → Nat} {c0 s0 : Nat} (hC : Cok X V A yX8_isConsistent.cls cX8_isConsistent 2) (hE : Env0 V adV A (xs X) (xs X).heap) (hl : (xl X).stackTraces = false) (hx : ∀ x ∈ (xc X).exceptionTable.toList, False) (hr : (xh X).sig.returnType = some .boolean) (s : Mem) (kf7 : Int32 → Res Int32) (hk7 : ∀ a, LX X V A 33 566 c0 s0 (FM X V A (fun x => some (.int x))) 7 [(0, .ref 8), (1, .int a)] [] s (kf7 a)) (w1 : Int32) : LX X V A 33 566 c0 s0 (FM X V A (fun x => some (.int x))) 7 [(0, .ref 8), (1, .int w1)] [] s (m_X8_isConsistent_b7 s kf7 w1 ) := by
  unfold m_X8_isConsistent_b7
  refine lx_iload_n hC dX8_isConsistent_7 rfl 1 rfl ?_
  refine lx_aload_n hC dX8_isConsistent_8 rfl 0 rfl ?_
  refine lx_getR (q := 136) hC ly8 rfl 1 (by decide) rfl rfl inX8 wd1606 dX8_isConsistent_9 ?_
  refine lx_iconstv (v := 0) hC dX8_isConsistent_12 rfl ?_
  refine lx_iaload hC ly136 dX8_isConsistent_13 ?_
  refine lx_icmp_ge hC 33 dX8_isConsistent_14 (by decide) ?_ ?_
  · skip
    refine lx_aload_n hC dX8_isConsistent_33 rfl 0 rfl ?_
    refine lx_getR (q := 136) hC ly8 rfl 1 (by decide) rfl rfl inX8 wd1606 dX8_isConsistent_34 ?_
    refine lx_iconstv (v := 5) hC dX8_isConsistent_37 rfl ?_
    refine lx_iaload hC ly136 dX8_isConsistent_38 ?_
    refine lx_aload_n hC dX8_isConsistent_39 rfl 0 rfl ?_
    refine lx_callP hC hx (sat_X8_activeSum (xl X) hl s) (run_V (as := []) (rest := [.int (gI s 136 5.toNatClampNeg)]) hC hE ly8 rfl cw_X8_activeSum ci_X8_activeSum wd2046 cs_X8_activeSum ce_X8_activeSum cd_X8_activeSum (by decide) (by decide) (Nat.le_of_ble_eq_true rfl) dX8_isConsistent_40 rfl) (fun v2 _ => ?_)
    refine lx_aload_n hC dX8_isConsistent_43 rfl 0 rfl ?_
    refine lx_getR (q := 136) hC ly8 rfl 1 (by decide) rfl rfl inX8 wd1606 dX8_isConsistent_44 ?_
    refine lx_bipush (v := 6) hC dX8_isConsistent_47 (by decide) ?_
    refine lx_iaload hC ly136 dX8_isConsistent_49 ?_
    refine lx_iadd hC dX8_isConsistent_50 ?_
    refine lx_icmp_ne hC 58 dX8_isConsistent_51 (by decide) ?_ ?_
    · skip
      refine lx_iconstv (v := 0) hC dX8_isConsistent_58 rfl ?_
      exact lx_zret hC rfl hr rfl dX8_isConsistent_59
    · skip
      refine lx_iconstv (v := 1) hC dX8_isConsistent_54 rfl ?_
      refine lx_goto hC 59 dX8_isConsistent_55 (by decide) ?_
      exact lx_zret hC rfl hr rfl dX8_isConsistent_59
  · skip
    refine lx_aload_n hC dX8_isConsistent_17 rfl 0 rfl ?_
    refine lx_iload_n hC dX8_isConsistent_18 rfl 1 rfl ?_
    refine lx_callP hC hx (sat_X8_roomIn (xl X) hl w1 s) (run_V (as := [.int w1]) (rest := []) hC hE ly8 rfl cw_X8_roomIn ci_X8_roomIn wd1732 cs_X8_roomIn ce_X8_roomIn cd_X8_roomIn (by decide) (by decide) (Nat.le_of_ble_eq_true rfl) dX8_isConsistent_19 rfl) (fun v3 _ => ?_)
    refine lx_if_ge hC 27 dX8_isConsistent_22 (by decide) ?_ ?_
    · skip
      refine lx_iincN (v := 1) hC dX8_isConsistent_27 1 rfl (by decide) rfl (fun y4 => ?_)
      refine lx_goto hC 7 dX8_isConsistent_30 (by decide) ?_
      exact lx_sub [1, 0] rfl (hk7 y4)
    · skip
      refine lx_iconstv (v := 0) hC dX8_isConsistent_25 rfl ?_
      exact lx_zret hC rfl hr rfl dX8_isConsistent_26
set_option maxRecDepth 100000 in
set_option maxHeartbeats 2000000 in
theorem n_X8_isConsistent_b7 (s : Mem) (kf7 : Int32 → Res Int32) (hm7 : ∀ a, Mn s (kf7 a)) (w1 : Int32) : Mn s (m_X8_isConsistent_b7 s kf7 w1 ) := by
  unfold m_X8_isConsistent_b7
  refine mn_if ?_ mn_none
  refine mn_if ?_ ?_
  · skip
    refine mn_if ?_ mn_none
    refine mn_bindP (fun v2 => ?_)
    refine mn_if ?_ mn_none
    refine mn_if ?_ ?_
    · skip
      exact mn_some
    · skip
      exact mn_some
  · skip
    refine mn_bindP (fun v3 => ?_)
    refine mn_if ?_ ?_
    · skip
      refine mn_vl (fun y4 => ?_)
      exact hm7 y4
    · skip
      exact mn_some
set_option maxRecDepth 100000 in
set_option maxHeartbeats 2000000 in
theorem n_X8_isConsistent (s : Mem) : Mn s (m_X8_isConsistent s) := by
  unfold m_X8_isConsistent
  refine mn_put (fun s1 => ?_)
  exact mn_lp (sg := fun a => s1) (fun kf hq a => n_X8_isConsistent_b7 s1 kf hq a) FUEL 0
set_option maxRecDepth 100000 in
set_option maxHeartbeats 2000000 in
theorem sat_X8_isConsistent (l : Launch) (hl : l.stackTraces = false) (s : Mem) : Sat l yX8_isConsistent (.code yX8_isConsistent cX8_isConsistent 2 (some .boolean)) 33 566 (fun x => some (.int x)) [.ref 8] s (m_X8_isConsistent s) := by
  refine sat_of hl (by decide) (Nat.le_of_ble_eq_true rfl) (fun X V A adV hxl hC hE hx hr => ?_) (n_X8_isConsistent s)
  subst hxl
  show LX X V A 33 566 (nC s) (nS s) _ 0 [(0, .ref 8)] [] s _
  unfold m_X8_isConsistent
  refine lx_aload_n hC dX8_isConsistent_0 rfl 0 rfl ?_
  refine lx_iconstv (v := 0) hC dX8_isConsistent_1 rfl ?_
  refine lx_putI hC ly8 rfl 0 (by decide) rfl tyX8 tyX8_ok nmX8 rfl rfl rfl inX8 wd1605 dX8_isConsistent_2 (fun s1 => ?_)
  refine lx_iconstv (v := 0) hC dX8_isConsistent_5 rfl ?_
  refine lx_istore_n hC dX8_isConsistent_6 rfl (by decide) ?_
  refine lx_sub [1, 0] rfl ?_
  exact lx_lp (lv := fun a => [(0, .ref 8), (1, .int a)]) (st := fun _ => []) (sg := fun a => s1) (fun kf hq a => l_X8_isConsistent_b7 hC hE hl hx hr s1 kf hq a) FUEL 0
def m_X8_writes (p0 : Int32) (s : Mem) : Res Unit := if ib (gI s 8 9) 360 then vl (pI s 584 (gI s 8 9).toNatClampNeg (vp_nar .char ((p0.toUInt32 % 65536).toInt32))) (fun s1 => vl (pI s1 8 9 ((gI s1 8 9) + 1)) (fun s2 => some (.inl (), s2))) else none
set_option maxRecDepth 100000 in
set_option maxHeartbeats 2000000 in
theorem n_X8_writes (p0 : Int32) (s : Mem) : Mn s (m_X8_writes p0 s) := by
  unfold m_X8_writes
  refine mn_if ?_ mn_none
  refine mn_put (fun s1 => ?_)
  refine mn_put (fun s2 => ?_)
  exact mn_some
set_option maxRecDepth 100000 in
set_option maxHeartbeats 2000000 in
theorem sat_X8_writes (l : Launch) (hl : l.stackTraces = false) (p0 : Int32) (s : Mem) : Sat l yX8_writes (.code yX8_writes cX8_writes 2 (none)) 30 500 (fun _ => none) [.ref 8, .int p0] s (m_X8_writes p0 s) := by
  refine sat_of hl (by decide) (Nat.le_of_ble_eq_true rfl) (fun X V A adV hxl hC hE hx hr => ?_) (n_X8_writes p0 s)
  subst hxl
  show LX X V A 30 500 (nC s) (nS s) _ 0 [(0, .ref 8), (1, .int p0)] [] s _
  unfold m_X8_writes
  refine lx_aload_n hC dX8_writes_0 rfl 0 rfl ?_
  refine lx_getR (q := 584) hC ly8 rfl 8 (by decide) rfl rfl inX8 wd1613 dX8_writes_1 ?_
  refine lx_aload_n hC dX8_writes_4 rfl 0 rfl ?_
  refine lx_getI hC ly8 rfl 9 (by decide) rfl inX8 wd1614 dX8_writes_5 ?_
  refine lx_iload_n hC dX8_writes_8 rfl 1 rfl ?_
  refine lx_i2c hC dX8_writes_9 ?_
  refine lx_castore hC ly584 dX8_writes_10 (fun s1 => ?_)
  refine lx_aload_n hC dX8_writes_11 rfl 0 rfl ?_
  refine lx_dup_ref hC dX8_writes_12 ?_
  refine lx_getI hC ly8 rfl 9 (by decide) rfl inX8 wd1614 dX8_writes_13 ?_
  refine lx_iconstv (v := 1) hC dX8_writes_16 rfl ?_
  refine lx_iadd hC dX8_writes_17 ?_
  refine lx_putI hC ly8 rfl 9 (by decide) rfl tyX8 tyX8_ok nmX8 rfl rfl rfl inX8 wd1614 dX8_writes_18 (fun s2 => ?_)
  exact lx_vret hC rfl hr dX8_writes_21
def m_X8_writesNumber_b20 (x1 : Int32) (s : Mem) (kf2 : Int32 → Res Unit) (kf20 : (Int32 × Mem) → Res Unit) (w3 : Int32) : Res Unit := if w3 ≤ 0 then (some (.inl (), s)) else (if ¬ w3 = 0 then bindR (m_X8_writes (48 + ((x1 / w3) - (x1 / w3) / 10 * 10)) s) (fun v4 s5 => vl (w3 / 10) (fun y6 => kf20 (y6, s5))) else none)
def m_X8_writesNumber_b2 (x1 : Int32) (s : Mem) (kf2 : Int32 → Res Unit) (w2 : Int32) : Res Unit := if ¬ w2 = 0 then if x1 / w2 ≤ 9 then (lp (fun kf20 a => m_X8_writesNumber_b20 x1 a.2 kf2 kf20 a.1) FUEL (w2, s)) else (vl (w2 * 10) (fun y7 => kf2 y7)) else none
def m_X8_writesNumber (p0 : Int32) (s : Mem) : Res Unit := lp (fun kf2 a => m_X8_writesNumber_b2 p0 s kf2 a) FUEL 1
set_option maxRecDepth 100000 in
set_option maxHeartbeats 2000000 in
theorem l_X8_writesNumber_b20 {X : Cx} {V : Vx} {A : Nat → Prop} {adV : Nat → Nat} {c0 s0 : Nat} (hC : Cok X V A yX8_writesNumber.cls cX8_writesNumber 4) (hE : Env0 V adV A (xs X) (xs X).heap) (hl : (xl X).stackTraces = false) (hx : ∀ x ∈ (xc X).exceptionTable.toList, False) (hr : (xh X).sig.returnType = none) (x1 : Int32) (s : Mem) (kf2 : Int32 → Res Unit) (hk2 : ∀ a, LX X V A 31 521 c0 s0 (FM X V A (fun _ => none)) 2 [(0, .ref 8), (1, .int x1), (2, .int a)] [] s (kf2 a)) (kf20 : (Int32 × Mem) → Res Unit) (hk20 : ∀ a, LX X V A 31 521 c0 s0 (FM X V A (fun _ => none)) 20 [(0, .ref 8), (1, .int x1), (3, .int a.1)] [] a.2 (kf20 a)) (w3 : Int32) : LX X V A 31 521 c0 s0 (FM X V A (fun _ => none)) 20 [(0, .ref 8), (1, .int x1), (3, .int w3)] [] s (m_X8_writesNumber_b20 x1 s kf2 kf20 w3 ) := by
  unfold m_X8_writesNumber_b20
  refine lx_iload_n hC dX8_writesNumber_20 rfl 2 rfl ?_
  refine lx_if_le hC 45 dX8_writesNumber_21 (by decide) ?_ ?_
  · skip
    exact lx_vret hC rfl hr dX8_writesNumber_45
  · skip
    refine lx_aload_n hC dX8_writesNumber_24 rfl 0 rfl ?_
    refine lx_bipush (v := 48) hC dX8_writesNumber_25 (by decide) ?_
    refine lx_iload_n hC dX8_writesNumber_27 rfl 1 rfl ?_
    refine lx_iload_n hC dX8_writesNumber_28 rfl 2 rfl ?_
    refine lx_if fun h3 => lx_idiv hC dX8_writesNumber_29 h3 ?_
    refine lx_bipush (v := 10) hC dX8_writesNumber_30 (by decide) ?_
    refine lx_irem hC dX8_writesNumber_32 (by decide) ?_
    refine lx_iadd hC dX8_writesNumber_33 ?_
    refine lx_callX hC hx (sat_X8_writes (xl X) hl (48 + ((x1 / w3) - (x1 / w3) / 10 * 10)) s) (run_V (as := [.int (48 + ((x1 / w3) - (x1 / w3) / 10 * 10))]) (rest := []) hC hE ly8 rfl cw_X8_writes ci_X8_writes wd2070 cs_X8_writes ce_X8_writes cd_X8_writes (by decide) (by decide) (Nat.le_of_ble_eq_true rfl) dX8_writesNumber_34 rfl) (fun v4 s5 _ => ?_)
    refine lx_iload_n hC dX8_writesNumber_37 rfl 2 rfl ?_
    refine lx_bipush (v := 10) hC dX8_writesNumber_38 (by decide) ?_
    refine lx_idiv hC dX8_writesNumber_40 (by decide) ?_
    refine lx_istore_nN hC dX8_writesNumber_41 rfl (by decide) (fun y6 => ?_)
    refine lx_goto hC 20 dX8_writesNumber_42 (by decide) ?_
    exact lx_sub [1, 2, 0] rfl (hk20 (y6, s5))
set_option maxRecDepth 100000 in
set_option maxHeartbeats 2000000 in
theorem n_X8_writesNumber_b20 (x1 : Int32) (s : Mem) (kf2 : Int32 → Res Unit) (hm2 : ∀ a, Mn s (kf2 a)) (kf20 : (Int32 × Mem) → Res Unit) (hm20 : ∀ a, Mn a.2 (kf20 a)) (w3 : Int32) : Mn s (m_X8_writesNumber_b20 x1 s kf2 kf20 w3 ) := by
  unfold m_X8_writesNumber_b20
  refine mn_if ?_ ?_
  · skip
    exact mn_some
  · skip
    refine mn_if ?_ mn_none
    refine mn_bind (n_X8_writes (48 + ((x1 / w3) - (x1 / w3) / 10 * 10)) s) (fun v4 s5 => ?_)
    refine mn_vl (fun y6 => ?_)
    exact hm20 (y6, s5)
set_option maxRecDepth 100000 in
set_option maxHeartbeats 2000000 in
theorem l_X8_writesNumber_b2 {X : Cx} {V : Vx} {A : Nat → Prop} {adV : Nat → Nat} {c0 s0 : Nat} (hC : Cok X V A yX8_writesNumber.cls cX8_writesNumber 4) (hE : Env0 V adV A (xs X) (xs X).heap) (hl : (xl X).stackTraces = false) (hx : ∀ x ∈ (xc X).exceptionTable.toList, False) (hr : (xh X).sig.returnType = none) (x1 : Int32) (s : Mem) (kf2 : Int32 → Res Unit) (hk2 : ∀ a, LX X V A 31 521 c0 s0 (FM X V A (fun _ => none)) 2 [(0, .ref 8), (1, .int x1), (2, .int a)] [] s (kf2 a)) (w2 : Int32) : LX X V A 31 521 c0 s0 (FM X V A (fun _ => none)) 2 [(0, .ref 8), (1, .int x1), (2, .int w2)] [] s (m_X8_writesNumber_b2 x1 s kf2 w2 ) := by
  unfold m_X8_writesNumber_b2
  refine lx_iload_n hC dX8_writesNumber_2 rfl 1 rfl ?_
  refine lx_iload_n hC dX8_writesNumber_3 rfl 2 rfl ?_
  refine lx_if fun h2 => lx_idiv hC dX8_writesNumber_4 h2 ?_
  refine lx_bipush (v := 9) hC dX8_writesNumber_5 (by decide) ?_
  refine lx_icmp_le hC 18 dX8_writesNumber_7 (by decide) ?_ ?_
  · skip
    refine lx_iload_n hC dX8_writesNumber_18 rfl 2 rfl ?_
    refine lx_istore_n hC dX8_writesNumber_19 rfl (by decide) ?_
    refine lx_sub [1, 2, 0] rfl ?_
    exact lx_lp (lv := fun a => [(0, .ref 8), (1, .int x1), (3, .int a.1)]) (st := fun _ => []) (sg := fun a => a.2) (fun kf hq a => l_X8_writesNumber_b20 hC hE hl hx hr x1 a.2 kf2 hk2 kf hq a.1) FUEL (w2, s)
  · skip
    refine lx_iload_n hC dX8_writesNumber_10 rfl 2 rfl ?_
    refine lx_bipush (v := 10) hC dX8_writesNumber_11 (by decide) ?_
    refine lx_imul hC dX8_writesNumber_13 ?_
    refine lx_istore_nN hC dX8_writesNumber_14 rfl (by decide) (fun y7 => ?_)
    refine lx_goto hC 2 dX8_writesNumber_15 (by decide) ?_
    exact lx_sub [1, 2, 0] rfl (hk2 y7)
set_option maxRecDepth 100000 in
set_option maxHeartbeats 2000000 in
theorem n_X8_writesNumber_b2 (x1 : Int32) (s : Mem) (kf2 : Int32 → Res Unit) (hm2 : ∀ a, Mn s (kf2 a)) (w2 : Int32) : Mn s (m_X8_writesNumber_b2 x1 s kf2 w2 ) := by
  unfold m_X8_writesNumber_b2
  refine mn_if ?_ mn_none
  refine mn_if ?_ ?_
  · skip
    exact mn_lp (sg := fun a => a.2) (fun kf hq a => n_X8_writesNumber_b20 x1 a.2 kf2 hm2 kf hq a.1) FUEL (w2, s)
  · skip
    refine mn_vl (fun y7 => ?_)
    exact hm2 y7
set_option maxRecDepth 100000 in
set_option maxHeartbeats 2000000 in
theorem n_X8_writesNumber (p0 : Int32) (s : Mem) : Mn s (m_X8_writesNumber p0 s) := by
  unfold m_X8_writesNumber
  exact mn_lp (sg := fun a => s) (fun kf hq a => n_X8_writesNumber_b2 p0 s kf hq a) FUEL 1
set_option maxRecDepth 100000 in
set_option maxHeartbeats 2000000 in
theorem sat_X8_writesNumber (l : Launch) (hl : l.stackTraces = false) (p0 : Int32) (s : Mem) : Sat l yX8_writesNumber (.code yX8_writesNumber cX8_writesNumber 4 (none)) 31 521 (fun _ => none) [.ref 8, .int p0] s (m_X8_writesNumber p0 s) := by
  refine sat_of hl (by decide) (Nat.le_of_ble_eq_true rfl) (fun X V A adV hxl hC hE hx hr => ?_) (n_X8_writesNumber p0 s)
  subst hxl
  show LX X V A 31 521 (nC s) (nS s) _ 0 [(0, .ref 8), (1, .int p0)] [] s _
  unfold m_X8_writesNumber
  refine lx_iconstv (v := 1) hC dX8_writesNumber_0 rfl ?_
  refine lx_istore_n hC dX8_writesNumber_1 rfl (by decide) ?_
  refine lx_sub [1, 2, 0] rfl ?_
  exact lx_lp (lv := fun a => [(0, .ref 8), (1, .int p0), (2, .int a)]) (st := fun _ => []) (sg := fun a => s) (fun kf hq a => l_X8_writesNumber_b2 hC hE hl hx hr p0 s kf hq a) FUEL 1
def m_X8_writesEcho (p0 : Int32) (s : Mem) : Res Unit := bindR (m_X8_writes 32 s) (fun v1 s2 => bindP (m_X8_is p0 0 s2) (fun v3 => bindR (m_X8_writesNumber v3 s2) (fun v4 s5 => bindR (m_X8_writes 58 s5) (fun v6 s7 => bindP (m_X8_is p0 2 s7) (fun v8 => bindR (m_X8_writesNumber v8 s7) (fun v9 s10 => some (.inl (), s10)))))))
set_option maxRecDepth 100000 in
set_option maxHeartbeats 2000000 in
theorem n_X8_writesEcho (p0 : Int32) (s : Mem) : Mn s (m_X8_writesEcho p0 s) := by
  unfold m_X8_writesEcho
  refine mn_bind (n_X8_writes 32 s) (fun v1 s2 => ?_)
  refine mn_bindP (fun v3 => ?_)
  refine mn_bind (n_X8_writesNumber v3 s2) (fun v4 s5 => ?_)
  refine mn_bind (n_X8_writes 58 s5) (fun v6 s7 => ?_)
  refine mn_bindP (fun v8 => ?_)
  refine mn_bind (n_X8_writesNumber v8 s7) (fun v9 s10 => ?_)
  exact mn_some
set_option maxRecDepth 100000 in
set_option maxHeartbeats 2000000 in
theorem sat_X8_writesEcho (l : Launch) (hl : l.stackTraces = false) (p0 : Int32) (s : Mem) : Sat l yX8_writesEcho (.code yX8_writesEcho cX8_writesEcho 2 (none)) 32 544 (fun _ => none) [.ref 8, .int p0] s (m_X8_writesEcho p0 s) := by
  refine sat_of hl (by decide) (Nat.le_of_ble_eq_true rfl) (fun X V A adV hxl hC hE hx hr => ?_) (n_X8_writesEcho p0 s)
  subst hxl
  show LX X V A 32 544 (nC s) (nS s) _ 0 [(0, .ref 8), (1, .int p0)] [] s _
  unfold m_X8_writesEcho
  refine lx_aload_n hC dX8_writesEcho_0 rfl 0 rfl ?_
  refine lx_bipush (v := 32) hC dX8_writesEcho_1 (by decide) ?_
  refine lx_callX hC hx (sat_X8_writes (xl X) hl 32 s) (run_V (as := [.int 32]) (rest := []) hC hE ly8 rfl cw_X8_writes ci_X8_writes wd2070 cs_X8_writes ce_X8_writes cd_X8_writes (by decide) (by decide) (Nat.le_of_ble_eq_true rfl) dX8_writesEcho_3 rfl) (fun v1 s2 _ => ?_)
  refine lx_aload_n hC dX8_writesEcho_6 rfl 0 rfl ?_
  refine lx_aload_n hC dX8_writesEcho_7 rfl 0 rfl ?_
  refine lx_iload_n hC dX8_writesEcho_8 rfl 1 rfl ?_
  refine lx_iconstv (v := 0) hC dX8_writesEcho_9 rfl ?_
  refine lx_callP hC hx (sat_X8_is (xl X) hl p0 0 s2) (run_V (as := [.int p0, .int 0]) (rest := [.ref 8]) hC hE ly8 rfl cw_X8_is ci_X8_is wd1740 cs_X8_is ce_X8_is cd_X8_is (by decide) (by decide) (Nat.le_of_ble_eq_true rfl) dX8_writesEcho_10 rfl) (fun v3 _ => ?_)
  refine lx_callX hC hx (sat_X8_writesNumber (xl X) hl v3 s2) (run_V (as := [.int v3]) (rest := []) hC hE ly8 rfl cw_X8_writesNumber ci_X8_writesNumber wd2066 cs_X8_writesNumber ce_X8_writesNumber cd_X8_writesNumber (by decide) (by decide) (Nat.le_of_ble_eq_true rfl) dX8_writesEcho_13 rfl) (fun v4 s5 _ => ?_)
  refine lx_aload_n hC dX8_writesEcho_16 rfl 0 rfl ?_
  refine lx_bipush (v := 58) hC dX8_writesEcho_17 (by decide) ?_
  refine lx_callX hC hx (sat_X8_writes (xl X) hl 58 s5) (run_V (as := [.int 58]) (rest := []) hC hE ly8 rfl cw_X8_writes ci_X8_writes wd2070 cs_X8_writes ce_X8_writes cd_X8_writes (by decide) (by decide) (Nat.le_of_ble_eq_true rfl) dX8_writesEcho_19 rfl) (fun v6 s7 _ => ?_)
  refine lx_aload_n hC dX8_writesEcho_22 rfl 0 rfl ?_
  refine lx_aload_n hC dX8_writesEcho_23 rfl 0 rfl ?_
  refine lx_iload_n hC dX8_writesEcho_24 rfl 1 rfl ?_
  refine lx_iconstv (v := 2) hC dX8_writesEcho_25 rfl ?_
  refine lx_callP hC hx (sat_X8_is (xl X) hl p0 2 s7) (run_V (as := [.int p0, .int 2]) (rest := [.ref 8]) hC hE ly8 rfl cw_X8_is ci_X8_is wd1740 cs_X8_is ce_X8_is cd_X8_is (by decide) (by decide) (Nat.le_of_ble_eq_true rfl) dX8_writesEcho_26 rfl) (fun v8 _ => ?_)
  refine lx_callX hC hx (sat_X8_writesNumber (xl X) hl v8 s7) (run_V (as := [.int v8]) (rest := []) hC hE ly8 rfl cw_X8_writesNumber ci_X8_writesNumber wd2066 cs_X8_writesNumber ce_X8_writesNumber cd_X8_writesNumber (by decide) (by decide) (Nat.le_of_ble_eq_true rfl) dX8_writesEcho_29 rfl) (fun v9 s10 _ => ?_)
  exact lx_vret hC rfl hr dX8_writesEcho_32
def m_X8_formatRow_b107 (x21 : Int32) (s : Mem) (kf107 : (Int32 × Mem) → Res Int32) (w2 : Int32) : Res Int32 := if ib 1 135 then if gI s 136 1.toNatClampNeg ≤ w2 then (some (.inl (gI s 8 9), s)) else (bindP (m_X8_is w2 1 s) (fun v22 => if ¬ v22 = x21 then (vl (w2 + 1) (fun y23 => kf107 (y23, s))) else (bindR (m_X8_writesEcho w2 s) (fun v24 s25 => vl (w2 + 1) (fun y26 => kf107 (y26, s25)))))) else none
def m_X8_formatRow_j85 (x17 : Int32) (s : Mem) : Res Int32 := bindR (m_X8_writes 93 s) (fun v18 s19 => bindP (m_X8_isLockedRow x17 s19) (fun v20 => if v20 = 0 then (lp (fun kf107 a => m_X8_formatRow_b107 x17 a.2 kf107 a.1) FUEL (0, s19)) else (bindR (m_X8_writes 33 s19) (fun v27 s28 => lp (fun kf107 a => m_X8_formatRow_b107 x17 a.2 kf107 a.1) FUEL (0, s28)))))
def m_X8_formatRow (p0 : Int32) (s : Mem) : Res Int32 := vl (pI s 8 0 0) (fun s1 => bindP (m_X8_isRow p0 s1) (fun v2 => if ¬ v2 = 0 then (vl (pI s1 8 9 0) (fun s3 => bindR (m_X8_writesNumber p0 s3) (fun v4 s5 => bindR (m_X8_writes 91 s5) (fun v6 s7 => bindP (m_X8_countIn p0 s7) (fun v8 => bindR (m_X8_writesNumber v8 s7) (fun v9 s10 => bindR (m_X8_writes 47 s10) (fun v11 s12 => bindP (m_X8_of p0 0 s12) (fun v13 => bindR (m_X8_writesNumber v13 s12) (fun v14 s15 => bindP (m_X8_of p0 1 s15) (fun v16 => if v16 ≤ 0 then (m_X8_formatRow_j85 p0 s15 ) else (bindR (m_X8_writes 43 s15) (fun v36 s37 => bindP (m_X8_of p0 1 s37) (fun v38 => bindR (m_X8_writesNumber v38 s37) (fun v39 s40 => m_X8_formatRow_j85 p0 s40 )))))))))))))) else (bindR (m_X8_fails 1 s1) (fun v42 s43 => some (.inl v42, s43)))))
set_option maxRecDepth 100000 in
set_option maxHeartbeats 2000000 in
theorem l_X8_formatRow_b107 {X : Cx} {V : Vx} {A : Nat → Prop} {adV : Nat → Nat} {c0 s0 : Nat} (hC : Cok X V A yX8_formatRow.cls cX8_formatRow 3) (hE : Env0 V adV A (xs X) (xs X).heap) (hl : (xl X).stackTraces = false) (hx : ∀ x ∈ (xc X).exceptionTable.toList, False) (hr : (xh X).sig.returnType = some .int) (x21 : Int32) (s : Mem) (kf107 : (Int32 × Mem) → Res Int32) (hk107 : ∀ a, LX X V A 33 565 c0 s0 (FM X V A (fun x => some (.int x))) 107 [(0, .ref 8), (1, .int x21), (2, .int a.1)] [] a.2 (kf107 a)) (w2 : Int32) : LX X V A 33 565 c0 s0 (FM X V A (fun x => some (.int x))) 107 [(0, .ref 8), (1, .int x21), (2, .int w2)] [] s (m_X8_formatRow_b107 x21 s kf107 w2 ) := by
  unfold m_X8_formatRow_b107
  refine lx_iload_n hC dX8_formatRow_107 rfl 2 rfl ?_
  refine lx_aload_n hC dX8_formatRow_108 rfl 0 rfl ?_
  refine lx_getR (q := 136) hC ly8 rfl 1 (by decide) rfl rfl inX8 wd1606 dX8_formatRow_109 ?_
  refine lx_iconstv (v := 1) hC dX8_formatRow_112 rfl ?_
  refine lx_iaload hC ly136 dX8_formatRow_113 ?_
  refine lx_icmp_ge hC 138 dX8_formatRow_114 (by decide) ?_ ?_
  · skip
    refine lx_aload_n hC dX8_formatRow_138 rfl 0 rfl ?_
    refine lx_getI hC ly8 rfl 9 (by decide) rfl inX8 wd1614 dX8_formatRow_139 ?_
    exact lx_iret hC rfl hr dX8_formatRow_142
  · skip
    refine lx_aload_n hC dX8_formatRow_117 rfl 0 rfl ?_
    refine lx_iload_n hC dX8_formatRow_118 rfl 2 rfl ?_
    refine lx_iconstv (v := 1) hC dX8_formatRow_119 rfl ?_
    refine lx_callP hC hx (sat_X8_is (xl X) hl w2 1 s) (run_V (as := [.int w2, .int 1]) (rest := []) hC hE ly8 rfl cw_X8_is ci_X8_is wd1740 cs_X8_is ce_X8_is cd_X8_is (by decide) (by decide) (Nat.le_of_ble_eq_true rfl) dX8_formatRow_120 rfl) (fun v22 _ => ?_)
    refine lx_iload_n hC dX8_formatRow_123 rfl 1 rfl ?_
    refine lx_icmp_ne hC 132 dX8_formatRow_124 (by decide) ?_ ?_
    · skip
      refine lx_iincN (v := 1) hC dX8_formatRow_132 2 rfl (by decide) rfl (fun y23 => ?_)
      refine lx_goto hC 107 dX8_formatRow_135 (by decide) ?_
      exact lx_sub [1, 2, 0] rfl (hk107 (y23, s))
    · skip
      refine lx_aload_n hC dX8_formatRow_127 rfl 0 rfl ?_
      refine lx_iload_n hC dX8_formatRow_128 rfl 2 rfl ?_
      refine lx_callX hC hx (sat_X8_writesEcho (xl X) hl w2 s) (run_V (as := [.int w2]) (rest := []) hC hE ly8 rfl cw_X8_writesEcho ci_X8_writesEcho wd2074 cs_X8_writesEcho ce_X8_writesEcho cd_X8_writesEcho (by decide) (by decide) (Nat.le_of_ble_eq_true rfl) dX8_formatRow_129 rfl) (fun v24 s25 _ => ?_)
      refine lx_iincN (v := 1) hC dX8_formatRow_132 2 rfl (by decide) rfl (fun y26 => ?_)
      refine lx_goto hC 107 dX8_formatRow_135 (by decide) ?_
      exact lx_sub [1, 2, 0] rfl (hk107 (y26, s25))
set_option maxRecDepth 100000 in
set_option maxHeartbeats 2000000 in
theorem n_X8_formatRow_b107 (x21 : Int32) (s : Mem) (kf107 : (Int32 × Mem) → Res Int32) (hm107 : ∀ a, Mn a.2 (kf107 a)) (w2 : Int32) : Mn s (m_X8_formatRow_b107 x21 s kf107 w2 ) := by
  unfold m_X8_formatRow_b107
  refine mn_if ?_ mn_none
  refine mn_if ?_ ?_
  · skip
    exact mn_some
  · skip
    refine mn_bindP (fun v22 => ?_)
    refine mn_if ?_ ?_
    · skip
      refine mn_vl (fun y23 => ?_)
      exact hm107 (y23, s)
    · skip
      refine mn_bind (n_X8_writesEcho w2 s) (fun v24 s25 => ?_)
      refine mn_vl (fun y26 => ?_)
      exact hm107 (y26, s25)
set_option maxRecDepth 100000 in
set_option maxHeartbeats 2000000 in
theorem l_X8_formatRow_j85 {X : Cx} {V : Vx} {A : Nat → Prop} {adV : Nat → Nat} {c0 s0 : Nat} (hC : Cok X V A yX8_formatRow.cls cX8_formatRow 3) (hE : Env0 V adV A (xs X) (xs X).heap) (hl : (xl X).stackTraces = false) (hx : ∀ x ∈ (xc X).exceptionTable.toList, False) (hr : (xh X).sig.returnType = some .int) (x17 : Int32) (s : Mem) : LX X V A 33 565 c0 s0 (FM X V A (fun x => some (.int x))) 85 [(0, .ref 8), (1, .int x17)] [] s (m_X8_formatRow_j85 x17 s ) := by
  unfold m_X8_formatRow_j85
  refine lx_aload_n hC dX8_formatRow_85 rfl 0 rfl ?_
  refine lx_bipush (v := 93) hC dX8_formatRow_86 (by decide) ?_
  refine lx_callX hC hx (sat_X8_writes (xl X) hl 93 s) (run_V (as := [.int 93]) (rest := []) hC hE ly8 rfl cw_X8_writes ci_X8_writes wd2070 cs_X8_writes ce_X8_writes cd_X8_writes (by decide) (by decide) (Nat.le_of_ble_eq_true rfl) dX8_formatRow_88 rfl) (fun v18 s19 _ => ?_)
  refine lx_aload_n hC dX8_formatRow_91 rfl 0 rfl ?_
  refine lx_iload_n hC dX8_formatRow_92 rfl 1 rfl ?_
  refine lx_callP hC hx (sat_X8_isLockedRow (xl X) hl x17 s19) (run_V (as := [.int x17]) (rest := []) hC hE ly8 rfl cw_X8_isLockedRow ci_X8_isLockedRow wd1712 cs_X8_isLockedRow ce_X8_isLockedRow cd_X8_isLockedRow (by decide) (by decide) (Nat.le_of_ble_eq_true rfl) dX8_formatRow_93 rfl) (fun v20 _ => ?_)
  refine lx_if_eq hC 105 dX8_formatRow_96 (by decide) ?_ ?_
  · skip
    refine lx_iconstv (v := 0) hC dX8_formatRow_105 rfl ?_
    refine lx_istore_n hC dX8_formatRow_106 rfl (by decide) ?_
    refine lx_sub [1, 2, 0] rfl ?_
    exact lx_lp (lv := fun a => [(0, .ref 8), (1, .int x17), (2, .int a.1)]) (st := fun _ => []) (sg := fun a => a.2) (fun kf hq a => l_X8_formatRow_b107 hC hE hl hx hr x17 a.2 kf hq a.1) FUEL (0, s19)
  · skip
    refine lx_aload_n hC dX8_formatRow_99 rfl 0 rfl ?_
    refine lx_bipush (v := 33) hC dX8_formatRow_100 (by decide) ?_
    refine lx_callX hC hx (sat_X8_writes (xl X) hl 33 s19) (run_V (as := [.int 33]) (rest := []) hC hE ly8 rfl cw_X8_writes ci_X8_writes wd2070 cs_X8_writes ce_X8_writes cd_X8_writes (by decide) (by decide) (Nat.le_of_ble_eq_true rfl) dX8_formatRow_102 rfl) (fun v27 s28 _ => ?_)
    refine lx_iconstv (v := 0) hC dX8_formatRow_105 rfl ?_
    refine lx_istore_n hC dX8_formatRow_106 rfl (by decide) ?_
    refine lx_sub [1, 2, 0] rfl ?_
    exact lx_lp (lv := fun a => [(0, .ref 8), (1, .int x17), (2, .int a.1)]) (st := fun _ => []) (sg := fun a => a.2) (fun kf hq a => l_X8_formatRow_b107 hC hE hl hx hr x17 a.2 kf hq a.1) FUEL (0, s28)
set_option maxRecDepth 100000 in
set_option maxHeartbeats 2000000 in
theorem n_X8_formatRow_j85 (x17 : Int32) (s : Mem) : Mn s (m_X8_formatRow_j85 x17 s ) := by
  unfold m_X8_formatRow_j85
  refine mn_bind (n_X8_writes 93 s) (fun v18 s19 => ?_)
  refine mn_bindP (fun v20 => ?_)
  refine mn_if ?_ ?_
  · skip
    exact mn_lp (sg := fun a => a.2) (fun kf hq a => n_X8_formatRow_b107 x17 a.2 kf hq a.1) FUEL (0, s19)
  · skip
    refine mn_bind (n_X8_writes 33 s19) (fun v27 s28 => ?_)
    exact mn_lp (sg := fun a => a.2) (fun kf hq a => n_X8_formatRow_b107 x17 a.2 kf hq a.1) FUEL (0, s28)
set_option maxRecDepth 100000 in
set_option maxHeartbeats 2000000 in
theorem n_X8_formatRow (p0 : Int32) (s : Mem) : Mn s (m_X8_formatRow p0 s) := by
  unfold m_X8_formatRow
  refine mn_put (fun s1 => ?_)
  refine mn_bindP (fun v2 => ?_)
  refine mn_if ?_ ?_
  · skip
    refine mn_put (fun s3 => ?_)
    refine mn_bind (n_X8_writesNumber p0 s3) (fun v4 s5 => ?_)
    refine mn_bind (n_X8_writes 91 s5) (fun v6 s7 => ?_)
    refine mn_bindP (fun v8 => ?_)
    refine mn_bind (n_X8_writesNumber v8 s7) (fun v9 s10 => ?_)
    refine mn_bind (n_X8_writes 47 s10) (fun v11 s12 => ?_)
    refine mn_bindP (fun v13 => ?_)
    refine mn_bind (n_X8_writesNumber v13 s12) (fun v14 s15 => ?_)
    refine mn_bindP (fun v16 => ?_)
    refine mn_if ?_ ?_
    · skip
      exact n_X8_formatRow_j85 p0 s15 
    · skip
      refine mn_bind (n_X8_writes 43 s15) (fun v36 s37 => ?_)
      refine mn_bindP (fun v38 => ?_)
      refine mn_bind (n_X8_writesNumber v38 s37) (fun v39 s40 => ?_)
      exact n_X8_formatRow_j85 p0 s40 
  · skip
    refine mn_bind (n_X8_fails 1 s1) (fun v42 s43 => ?_)
    exact mn_some
set_option maxRecDepth 100000 in
set_option maxHeartbeats 2000000 in
theorem sat_X8_formatRow (l : Launch) (hl : l.stackTraces = false) (p0 : Int32) (s : Mem) : Sat l yX8_formatRow (.code yX8_formatRow cX8_formatRow 3 (some .int)) 33 565 (fun x => some (.int x)) [.ref 8, .int p0] s (m_X8_formatRow p0 s) := by
  refine sat_of hl (by decide) (Nat.le_of_ble_eq_true rfl) (fun X V A adV hxl hC hE hx hr => ?_) (n_X8_formatRow p0 s)
  subst hxl
  show LX X V A 33 565 (nC s) (nS s) _ 0 [(0, .ref 8), (1, .int p0)] [] s _
  unfold m_X8_formatRow
  refine lx_aload_n hC dX8_formatRow_0 rfl 0 rfl ?_
  refine lx_iconstv (v := 0) hC dX8_formatRow_1 rfl ?_
  refine lx_putI hC ly8 rfl 0 (by decide) rfl tyX8 tyX8_ok nmX8 rfl rfl rfl inX8 wd1605 dX8_formatRow_2 (fun s1 => ?_)
  refine lx_aload_n hC dX8_formatRow_5 rfl 0 rfl ?_
  refine lx_iload_n hC dX8_formatRow_6 rfl 1 rfl ?_
  refine lx_callP hC hx (sat_X8_isRow (xl X) hl p0 s1) (run_V (as := [.int p0]) (rest := []) hC hE ly8 rfl cw_X8_isRow ci_X8_isRow wd1708 cs_X8_isRow ce_X8_isRow cd_X8_isRow (by decide) (by decide) (Nat.le_of_ble_eq_true rfl) dX8_formatRow_7 rfl) (fun v2 _ => ?_)
  refine lx_if_ne hC 19 dX8_formatRow_10 (by decide) ?_ ?_
  · skip
    refine lx_aload_n hC dX8_formatRow_19 rfl 0 rfl ?_
    refine lx_iconstv (v := 0) hC dX8_formatRow_20 rfl ?_
    refine lx_putI hC ly8 rfl 9 (by decide) rfl tyX8 tyX8_ok nmX8 rfl rfl rfl inX8 wd1614 dX8_formatRow_21 (fun s3 => ?_)
    refine lx_aload_n hC dX8_formatRow_24 rfl 0 rfl ?_
    refine lx_iload_n hC dX8_formatRow_25 rfl 1 rfl ?_
    refine lx_callX hC hx (sat_X8_writesNumber (xl X) hl p0 s3) (run_V (as := [.int p0]) (rest := []) hC hE ly8 rfl cw_X8_writesNumber ci_X8_writesNumber wd2066 cs_X8_writesNumber ce_X8_writesNumber cd_X8_writesNumber (by decide) (by decide) (Nat.le_of_ble_eq_true rfl) dX8_formatRow_26 rfl) (fun v4 s5 _ => ?_)
    refine lx_aload_n hC dX8_formatRow_29 rfl 0 rfl ?_
    refine lx_bipush (v := 91) hC dX8_formatRow_30 (by decide) ?_
    refine lx_callX hC hx (sat_X8_writes (xl X) hl 91 s5) (run_V (as := [.int 91]) (rest := []) hC hE ly8 rfl cw_X8_writes ci_X8_writes wd2070 cs_X8_writes ce_X8_writes cd_X8_writes (by decide) (by decide) (Nat.le_of_ble_eq_true rfl) dX8_formatRow_32 rfl) (fun v6 s7 _ => ?_)
    refine lx_aload_n hC dX8_formatRow_35 rfl 0 rfl ?_
    refine lx_aload_n hC dX8_formatRow_36 rfl 0 rfl ?_
    refine lx_iload_n hC dX8_formatRow_37 rfl 1 rfl ?_
    refine lx_callP hC hx (sat_X8_countIn (xl X) hl p0 s7) (run_V (as := [.int p0]) (rest := [.ref 8]) hC hE ly8 rfl cw_X8_countIn ci_X8_countIn wd1736 cs_X8_countIn ce_X8_countIn cd_X8_countIn (by decide) (by decide) (Nat.le_of_ble_eq_true rfl) dX8_formatRow_38 rfl) (fun v8 _ => ?_)
    refine lx_callX hC hx (sat_X8_writesNumber (xl X) hl v8 s7) (run_V (as := [.int v8]) (rest := []) hC hE ly8 rfl cw_X8_writesNumber ci_X8_writesNumber wd2066 cs_X8_writesNumber ce_X8_writesNumber cd_X8_writesNumber (by decide) (by decide) (Nat.le_of_ble_eq_true rfl) dX8_formatRow_41 rfl) (fun v9 s10 _ => ?_)
    refine lx_aload_n hC dX8_formatRow_44 rfl 0 rfl ?_
    refine lx_bipush (v := 47) hC dX8_formatRow_45 (by decide) ?_
    refine lx_callX hC hx (sat_X8_writes (xl X) hl 47 s10) (run_V (as := [.int 47]) (rest := []) hC hE ly8 rfl cw_X8_writes ci_X8_writes wd2070 cs_X8_writes ce_X8_writes cd_X8_writes (by decide) (by decide) (Nat.le_of_ble_eq_true rfl) dX8_formatRow_47 rfl) (fun v11 s12 _ => ?_)
    refine lx_aload_n hC dX8_formatRow_50 rfl 0 rfl ?_
    refine lx_aload_n hC dX8_formatRow_51 rfl 0 rfl ?_
    refine lx_iload_n hC dX8_formatRow_52 rfl 1 rfl ?_
    refine lx_iconstv (v := 0) hC dX8_formatRow_53 rfl ?_
    refine lx_callP hC hx (sat_X8_of (xl X) hl p0 0 s12) (run_V (as := [.int p0, .int 0]) (rest := [.ref 8]) hC hE ly8 rfl cw_X8_of ci_X8_of wd1716 cs_X8_of ce_X8_of cd_X8_of (by decide) (by decide) (Nat.le_of_ble_eq_true rfl) dX8_formatRow_54 rfl) (fun v13 _ => ?_)
    refine lx_callX hC hx (sat_X8_writesNumber (xl X) hl v13 s12) (run_V (as := [.int v13]) (rest := []) hC hE ly8 rfl cw_X8_writesNumber ci_X8_writesNumber wd2066 cs_X8_writesNumber ce_X8_writesNumber cd_X8_writesNumber (by decide) (by decide) (Nat.le_of_ble_eq_true rfl) dX8_formatRow_57 rfl) (fun v14 s15 _ => ?_)
    refine lx_aload_n hC dX8_formatRow_60 rfl 0 rfl ?_
    refine lx_iload_n hC dX8_formatRow_61 rfl 1 rfl ?_
    refine lx_iconstv (v := 1) hC dX8_formatRow_62 rfl ?_
    refine lx_callP hC hx (sat_X8_of (xl X) hl p0 1 s15) (run_V (as := [.int p0, .int 1]) (rest := []) hC hE ly8 rfl cw_X8_of ci_X8_of wd1716 cs_X8_of ce_X8_of cd_X8_of (by decide) (by decide) (Nat.le_of_ble_eq_true rfl) dX8_formatRow_63 rfl) (fun v16 _ => ?_)
    refine lx_if_le hC 85 dX8_formatRow_66 (by decide) ?_ ?_
    · skip
      exact lx_sub [0, 1] rfl (l_X8_formatRow_j85 hC hE hl hx hr p0 s15 )
    · skip
      refine lx_aload_n hC dX8_formatRow_69 rfl 0 rfl ?_
      refine lx_bipush (v := 43) hC dX8_formatRow_70 (by decide) ?_
      refine lx_callX hC hx (sat_X8_writes (xl X) hl 43 s15) (run_V (as := [.int 43]) (rest := []) hC hE ly8 rfl cw_X8_writes ci_X8_writes wd2070 cs_X8_writes ce_X8_writes cd_X8_writes (by decide) (by decide) (Nat.le_of_ble_eq_true rfl) dX8_formatRow_72 rfl) (fun v36 s37 _ => ?_)
      refine lx_aload_n hC dX8_formatRow_75 rfl 0 rfl ?_
      refine lx_aload_n hC dX8_formatRow_76 rfl 0 rfl ?_
      refine lx_iload_n hC dX8_formatRow_77 rfl 1 rfl ?_
      refine lx_iconstv (v := 1) hC dX8_formatRow_78 rfl ?_
      refine lx_callP hC hx (sat_X8_of (xl X) hl p0 1 s37) (run_V (as := [.int p0, .int 1]) (rest := [.ref 8]) hC hE ly8 rfl cw_X8_of ci_X8_of wd1716 cs_X8_of ce_X8_of cd_X8_of (by decide) (by decide) (Nat.le_of_ble_eq_true rfl) dX8_formatRow_79 rfl) (fun v38 _ => ?_)
      refine lx_callX hC hx (sat_X8_writesNumber (xl X) hl v38 s37) (run_V (as := [.int v38]) (rest := []) hC hE ly8 rfl cw_X8_writesNumber ci_X8_writesNumber wd2066 cs_X8_writesNumber ce_X8_writesNumber cd_X8_writesNumber (by decide) (by decide) (Nat.le_of_ble_eq_true rfl) dX8_formatRow_82 rfl) (fun v39 s40 _ => ?_)
      exact lx_sub [0, 1] rfl (l_X8_formatRow_j85 hC hE hl hx hr p0 s40 )
  · skip
    refine lx_aload_n hC dX8_formatRow_13 rfl 0 rfl ?_
    refine lx_iconstv (v := 1) hC dX8_formatRow_14 rfl ?_
    refine lx_callX hC hx (sat_X8_fails (xl X) hl 1 s1) (run_V (as := [.int 1]) (rest := []) hC hE ly8 rfl cw_X8_fails ci_X8_fails wd1676 cs_X8_fails ce_X8_fails cd_X8_fails (by decide) (by decide) (Nat.le_of_ble_eq_true rfl) dX8_formatRow_15 rfl) (fun v42 s43 _ => ?_)
    exact lx_iret hC rfl hr dX8_formatRow_18
def m_X8_formatEcho (p0 : Int32) (s : Mem) : Res Int32 := vl (pI s 8 0 0) (fun s1 => bindP (m_X8_slotOf p0 s1) (fun v2 => if 0 ≤ v2 then (vl (pI s1 8 9 0) (fun s3 => bindR (m_X8_writes 35 s3) (fun v4 s5 => bindR (m_X8_writesNumber p0 s5) (fun v6 s7 => bindR (m_X8_writes 64 s7) (fun v8 s9 => bindP (m_X8_is v2 1 s9) (fun v10 => bindR (m_X8_writesNumber v10 s9) (fun v11 s12 => bindR (m_X8_writes 61 s12) (fun v13 s14 => bindP (m_X8_is v2 2 s14) (fun v15 => bindR (m_X8_writesNumber v15 s14) (fun v16 s17 => bindP (m_X8_is v2 3 s17) (fun v18 => if v18 ≤ 0 then (some (.inl (gI s17 8 9), s17)) else (bindR (m_X8_writes 62 s17) (fun v19 s20 => bindP (m_X8_is v2 3 s20) (fun v21 => bindR (m_X8_writesNumber (v21 - 1) s20) (fun v22 s23 => some (.inl (gI s23 8 9), s23)))))))))))))))) else (bindR (m_X8_fails 1 s1) (fun v24 s25 => some (.inl v24, s25)))))
set_option maxRecDepth 100000 in
set_option maxHeartbeats 2000000 in
theorem n_X8_formatEcho (p0 : Int32) (s : Mem) : Mn s (m_X8_formatEcho p0 s) := by
  unfold m_X8_formatEcho
  refine mn_put (fun s1 => ?_)
  refine mn_bindP (fun v2 => ?_)
  refine mn_if ?_ ?_
  · skip
    refine mn_put (fun s3 => ?_)
    refine mn_bind (n_X8_writes 35 s3) (fun v4 s5 => ?_)
    refine mn_bind (n_X8_writesNumber p0 s5) (fun v6 s7 => ?_)
    refine mn_bind (n_X8_writes 64 s7) (fun v8 s9 => ?_)
    refine mn_bindP (fun v10 => ?_)
    refine mn_bind (n_X8_writesNumber v10 s9) (fun v11 s12 => ?_)
    refine mn_bind (n_X8_writes 61 s12) (fun v13 s14 => ?_)
    refine mn_bindP (fun v15 => ?_)
    refine mn_bind (n_X8_writesNumber v15 s14) (fun v16 s17 => ?_)
    refine mn_bindP (fun v18 => ?_)
    refine mn_if ?_ ?_
    · skip
      exact mn_some
    · skip
      refine mn_bind (n_X8_writes 62 s17) (fun v19 s20 => ?_)
      refine mn_bindP (fun v21 => ?_)
      refine mn_bind (n_X8_writesNumber (v21 - 1) s20) (fun v22 s23 => ?_)
      exact mn_some
  · skip
    refine mn_bind (n_X8_fails 1 s1) (fun v24 s25 => ?_)
    exact mn_some
set_option maxRecDepth 100000 in
set_option maxHeartbeats 2000000 in
theorem sat_X8_formatEcho (l : Launch) (hl : l.stackTraces = false) (p0 : Int32) (s : Mem) : Sat l yX8_formatEcho (.code yX8_formatEcho cX8_formatEcho 3 (some .int)) 32 544 (fun x => some (.int x)) [.ref 8, .int p0] s (m_X8_formatEcho p0 s) := by
  refine sat_of hl (by decide) (Nat.le_of_ble_eq_true rfl) (fun X V A adV hxl hC hE hx hr => ?_) (n_X8_formatEcho p0 s)
  subst hxl
  show LX X V A 32 544 (nC s) (nS s) _ 0 [(0, .ref 8), (1, .int p0)] [] s _
  unfold m_X8_formatEcho
  refine lx_aload_n hC dX8_formatEcho_0 rfl 0 rfl ?_
  refine lx_iconstv (v := 0) hC dX8_formatEcho_1 rfl ?_
  refine lx_putI hC ly8 rfl 0 (by decide) rfl tyX8 tyX8_ok nmX8 rfl rfl rfl inX8 wd1605 dX8_formatEcho_2 (fun s1 => ?_)
  refine lx_aload_n hC dX8_formatEcho_5 rfl 0 rfl ?_
  refine lx_iload_n hC dX8_formatEcho_6 rfl 1 rfl ?_
  refine lx_callP hC hx (sat_X8_slotOf (xl X) hl p0 s1) (run_V (as := [.int p0]) (rest := []) hC hE ly8 rfl cw_X8_slotOf ci_X8_slotOf wd1768 cs_X8_slotOf ce_X8_slotOf cd_X8_slotOf (by decide) (by decide) (Nat.le_of_ble_eq_true rfl) dX8_formatEcho_7 rfl) (fun v2 _ => ?_)
  refine lx_istore_n hC dX8_formatEcho_10 rfl (by decide) ?_
  refine lx_iload_n hC dX8_formatEcho_11 rfl 0 rfl ?_
  refine lx_if_ge hC 21 dX8_formatEcho_12 (by decide) ?_ ?_
  · skip
    refine lx_aload_n hC dX8_formatEcho_21 rfl 1 rfl ?_
    refine lx_iconstv (v := 0) hC dX8_formatEcho_22 rfl ?_
    refine lx_putI hC ly8 rfl 9 (by decide) rfl tyX8 tyX8_ok nmX8 rfl rfl rfl inX8 wd1614 dX8_formatEcho_23 (fun s3 => ?_)
    refine lx_aload_n hC dX8_formatEcho_26 rfl 1 rfl ?_
    refine lx_bipush (v := 35) hC dX8_formatEcho_27 (by decide) ?_
    refine lx_callX hC hx (sat_X8_writes (xl X) hl 35 s3) (run_V (as := [.int 35]) (rest := []) hC hE ly8 rfl cw_X8_writes ci_X8_writes wd2070 cs_X8_writes ce_X8_writes cd_X8_writes (by decide) (by decide) (Nat.le_of_ble_eq_true rfl) dX8_formatEcho_29 rfl) (fun v4 s5 _ => ?_)
    refine lx_aload_n hC dX8_formatEcho_32 rfl 1 rfl ?_
    refine lx_iload_n hC dX8_formatEcho_33 rfl 2 rfl ?_
    refine lx_callX hC hx (sat_X8_writesNumber (xl X) hl p0 s5) (run_V (as := [.int p0]) (rest := []) hC hE ly8 rfl cw_X8_writesNumber ci_X8_writesNumber wd2066 cs_X8_writesNumber ce_X8_writesNumber cd_X8_writesNumber (by decide) (by decide) (Nat.le_of_ble_eq_true rfl) dX8_formatEcho_34 rfl) (fun v6 s7 _ => ?_)
    refine lx_aload_n hC dX8_formatEcho_37 rfl 1 rfl ?_
    refine lx_bipush (v := 64) hC dX8_formatEcho_38 (by decide) ?_
    refine lx_callX hC hx (sat_X8_writes (xl X) hl 64 s7) (run_V (as := [.int 64]) (rest := []) hC hE ly8 rfl cw_X8_writes ci_X8_writes wd2070 cs_X8_writes ce_X8_writes cd_X8_writes (by decide) (by decide) (Nat.le_of_ble_eq_true rfl) dX8_formatEcho_40 rfl) (fun v8 s9 _ => ?_)
    refine lx_aload_n hC dX8_formatEcho_43 rfl 1 rfl ?_
    refine lx_aload_n hC dX8_formatEcho_44 rfl 1 rfl ?_
    refine lx_iload_n hC dX8_formatEcho_45 rfl 0 rfl ?_
    refine lx_iconstv (v := 1) hC dX8_formatEcho_46 rfl ?_
    refine lx_callP hC hx (sat_X8_is (xl X) hl v2 1 s9) (run_V (as := [.int v2, .int 1]) (rest := [.ref 8]) hC hE ly8 rfl cw_X8_is ci_X8_is wd1740 cs_X8_is ce_X8_is cd_X8_is (by decide) (by decide) (Nat.le_of_ble_eq_true rfl) dX8_formatEcho_47 rfl) (fun v10 _ => ?_)
    refine lx_callX hC hx (sat_X8_writesNumber (xl X) hl v10 s9) (run_V (as := [.int v10]) (rest := []) hC hE ly8 rfl cw_X8_writesNumber ci_X8_writesNumber wd2066 cs_X8_writesNumber ce_X8_writesNumber cd_X8_writesNumber (by decide) (by decide) (Nat.le_of_ble_eq_true rfl) dX8_formatEcho_50 rfl) (fun v11 s12 _ => ?_)
    refine lx_aload_n hC dX8_formatEcho_53 rfl 1 rfl ?_
    refine lx_bipush (v := 61) hC dX8_formatEcho_54 (by decide) ?_
    refine lx_callX hC hx (sat_X8_writes (xl X) hl 61 s12) (run_V (as := [.int 61]) (rest := []) hC hE ly8 rfl cw_X8_writes ci_X8_writes wd2070 cs_X8_writes ce_X8_writes cd_X8_writes (by decide) (by decide) (Nat.le_of_ble_eq_true rfl) dX8_formatEcho_56 rfl) (fun v13 s14 _ => ?_)
    refine lx_aload_n hC dX8_formatEcho_59 rfl 1 rfl ?_
    refine lx_aload_n hC dX8_formatEcho_60 rfl 1 rfl ?_
    refine lx_iload_n hC dX8_formatEcho_61 rfl 0 rfl ?_
    refine lx_iconstv (v := 2) hC dX8_formatEcho_62 rfl ?_
    refine lx_callP hC hx (sat_X8_is (xl X) hl v2 2 s14) (run_V (as := [.int v2, .int 2]) (rest := [.ref 8]) hC hE ly8 rfl cw_X8_is ci_X8_is wd1740 cs_X8_is ce_X8_is cd_X8_is (by decide) (by decide) (Nat.le_of_ble_eq_true rfl) dX8_formatEcho_63 rfl) (fun v15 _ => ?_)
    refine lx_callX hC hx (sat_X8_writesNumber (xl X) hl v15 s14) (run_V (as := [.int v15]) (rest := []) hC hE ly8 rfl cw_X8_writesNumber ci_X8_writesNumber wd2066 cs_X8_writesNumber ce_X8_writesNumber cd_X8_writesNumber (by decide) (by decide) (Nat.le_of_ble_eq_true rfl) dX8_formatEcho_66 rfl) (fun v16 s17 _ => ?_)
    refine lx_aload_n hC dX8_formatEcho_69 rfl 1 rfl ?_
    refine lx_iload_n hC dX8_formatEcho_70 rfl 0 rfl ?_
    refine lx_iconstv (v := 3) hC dX8_formatEcho_71 rfl ?_
    refine lx_callP hC hx (sat_X8_is (xl X) hl v2 3 s17) (run_V (as := [.int v2, .int 3]) (rest := []) hC hE ly8 rfl cw_X8_is ci_X8_is wd1740 cs_X8_is ce_X8_is cd_X8_is (by decide) (by decide) (Nat.le_of_ble_eq_true rfl) dX8_formatEcho_72 rfl) (fun v18 _ => ?_)
    refine lx_if_le hC 96 dX8_formatEcho_75 (by decide) ?_ ?_
    · skip
      refine lx_aload_n hC dX8_formatEcho_96 rfl 1 rfl ?_
      refine lx_getI hC ly8 rfl 9 (by decide) rfl inX8 wd1614 dX8_formatEcho_97 ?_
      exact lx_iret hC rfl hr dX8_formatEcho_100
    · skip
      refine lx_aload_n hC dX8_formatEcho_78 rfl 1 rfl ?_
      refine lx_bipush (v := 62) hC dX8_formatEcho_79 (by decide) ?_
      refine lx_callX hC hx (sat_X8_writes (xl X) hl 62 s17) (run_V (as := [.int 62]) (rest := []) hC hE ly8 rfl cw_X8_writes ci_X8_writes wd2070 cs_X8_writes ce_X8_writes cd_X8_writes (by decide) (by decide) (Nat.le_of_ble_eq_true rfl) dX8_formatEcho_81 rfl) (fun v19 s20 _ => ?_)
      refine lx_aload_n hC dX8_formatEcho_84 rfl 1 rfl ?_
      refine lx_aload_n hC dX8_formatEcho_85 rfl 1 rfl ?_
      refine lx_iload_n hC dX8_formatEcho_86 rfl 0 rfl ?_
      refine lx_iconstv (v := 3) hC dX8_formatEcho_87 rfl ?_
      refine lx_callP hC hx (sat_X8_is (xl X) hl v2 3 s20) (run_V (as := [.int v2, .int 3]) (rest := [.ref 8]) hC hE ly8 rfl cw_X8_is ci_X8_is wd1740 cs_X8_is ce_X8_is cd_X8_is (by decide) (by decide) (Nat.le_of_ble_eq_true rfl) dX8_formatEcho_88 rfl) (fun v21 _ => ?_)
      refine lx_iconstv (v := 1) hC dX8_formatEcho_91 rfl ?_
      refine lx_isub hC dX8_formatEcho_92 ?_
      refine lx_callX hC hx (sat_X8_writesNumber (xl X) hl (v21 - 1) s20) (run_V (as := [.int (v21 - 1)]) (rest := []) hC hE ly8 rfl cw_X8_writesNumber ci_X8_writesNumber wd2066 cs_X8_writesNumber ce_X8_writesNumber cd_X8_writesNumber (by decide) (by decide) (Nat.le_of_ble_eq_true rfl) dX8_formatEcho_93 rfl) (fun v22 s23 _ => ?_)
      refine lx_aload_n hC dX8_formatEcho_96 rfl 1 rfl ?_
      refine lx_getI hC ly8 rfl 9 (by decide) rfl inX8 wd1614 dX8_formatEcho_97 ?_
      exact lx_iret hC rfl hr dX8_formatEcho_100
  · skip
    refine lx_aload_n hC dX8_formatEcho_15 rfl 1 rfl ?_
    refine lx_iconstv (v := 1) hC dX8_formatEcho_16 rfl ?_
    refine lx_callX hC hx (sat_X8_fails (xl X) hl 1 s1) (run_V (as := [.int 1]) (rest := []) hC hE ly8 rfl cw_X8_fails ci_X8_fails wd1676 cs_X8_fails ce_X8_fails cd_X8_fails (by decide) (by decide) (Nat.le_of_ble_eq_true rfl) dX8_formatEcho_17 rfl) (fun v24 s25 _ => ?_)
    exact lx_iret hC rfl hr dX8_formatEcho_20
def m_X8_lineChar (p0 : Int32) (s : Mem) : Res Int32 := vl (pI s 8 0 0) (fun s1 => bindP (m_X8_isBetween p0 0 ((gI s1 8 9) - 1) s1) (fun v2 => if v2 = 0 then (bindR (m_X8_fails 1 s1) (fun v3 s4 => if vp_nar .char ((v3.toUInt32 % 65536).toInt32) = (v3.toUInt32 % 65536).toInt32 then some (.inl ((v3.toUInt32 % 65536).toInt32), s4) else none)) else (if ib p0 360 then if vp_nar .char (gI s1 584 p0.toNatClampNeg) = gI s1 584 p0.toNatClampNeg then some (.inl (gI s1 584 p0.toNatClampNeg), s1) else none else none)))
set_option maxRecDepth 100000 in
set_option maxHeartbeats 2000000 in
theorem n_X8_lineChar (p0 : Int32) (s : Mem) : Mn s (m_X8_lineChar p0 s) := by
  unfold m_X8_lineChar
  refine mn_put (fun s1 => ?_)
  refine mn_bindP (fun v2 => ?_)
  refine mn_if ?_ ?_
  · skip
    refine mn_bind (n_X8_fails 1 s1) (fun v3 s4 => ?_)
    exact mn_if mn_some mn_none
  · skip
    refine mn_if ?_ mn_none
    exact mn_if mn_some mn_none
set_option maxRecDepth 100000 in
set_option maxHeartbeats 2000000 in
theorem sat_X8_lineChar (l : Launch) (hl : l.stackTraces = false) (p0 : Int32) (s : Mem) : Sat l yX8_lineChar (.code yX8_lineChar cX8_lineChar 2 (some .char)) 31 522 (fun x => some (.int x)) [.ref 8, .int p0] s (m_X8_lineChar p0 s) := by
  refine sat_of hl (by decide) (Nat.le_of_ble_eq_true rfl) (fun X V A adV hxl hC hE hx hr => ?_) (n_X8_lineChar p0 s)
  subst hxl
  show LX X V A 31 522 (nC s) (nS s) _ 0 [(0, .ref 8), (1, .int p0)] [] s _
  unfold m_X8_lineChar
  refine lx_aload_n hC dX8_lineChar_0 rfl 0 rfl ?_
  refine lx_iconstv (v := 0) hC dX8_lineChar_1 rfl ?_
  refine lx_putI hC ly8 rfl 0 (by decide) rfl tyX8 tyX8_ok nmX8 rfl rfl rfl inX8 wd1605 dX8_lineChar_2 (fun s1 => ?_)
  refine lx_iload_n hC dX8_lineChar_5 rfl 1 rfl ?_
  refine lx_iconstv (v := 0) hC dX8_lineChar_6 rfl ?_
  refine lx_aload_n hC dX8_lineChar_7 rfl 0 rfl ?_
  refine lx_getI hC ly8 rfl 9 (by decide) rfl inX8 wd1614 dX8_lineChar_8 ?_
  refine lx_iconstv (v := 1) hC dX8_lineChar_11 rfl ?_
  refine lx_isub hC dX8_lineChar_12 ?_
  refine lx_callP hC hx (sat_X8_isBetween (xl X) hl p0 0 ((gI s1 8 9) - 1) s1) (run_S (as := [.int p0, .int 0, .int ((gI s1 8 9) - 1)]) (rest := []) hC hE cw_X8_isBetween ci_X8_isBetween wd1673 cs_X8_isBetween cd_X8_isBetween (by decide) (by decide) (Nat.le_of_ble_eq_true rfl) dX8_lineChar_13 rfl) (fun v2 _ => ?_)
  refine lx_if_eq hC 26 dX8_lineChar_16 (by decide) ?_ ?_
  · skip
    refine lx_aload_n hC dX8_lineChar_26 rfl 0 rfl ?_
    refine lx_iconstv (v := 1) hC dX8_lineChar_27 rfl ?_
    refine lx_callX hC hx (sat_X8_fails (xl X) hl 1 s1) (run_V (as := [.int 1]) (rest := []) hC hE ly8 rfl cw_X8_fails ci_X8_fails wd1676 cs_X8_fails ce_X8_fails cd_X8_fails (by decide) (by decide) (Nat.le_of_ble_eq_true rfl) dX8_lineChar_28 rfl) (fun v3 s4 _ => ?_)
    refine lx_i2c hC dX8_lineChar_31 ?_
    exact lx_zretn hC rfl hr (by simp) dX8_lineChar_32
  · skip
    refine lx_aload_n hC dX8_lineChar_19 rfl 0 rfl ?_
    refine lx_getR (q := 584) hC ly8 rfl 8 (by decide) rfl rfl inX8 wd1613 dX8_lineChar_20 ?_
    refine lx_iload_n hC dX8_lineChar_23 rfl 1 rfl ?_
    refine lx_caload hC ly584 dX8_lineChar_24 ?_
    exact lx_zretn hC rfl hr (by simp) dX8_lineChar_25
def m_X8_append (p0 : Int32) (s : Mem) : Res Int32 := vl (pI s 8 0 0) (fun s1 => bindP (m_X8_isBetween p0 32 126 s1) (fun v2 => if ¬ v2 = 0 then (if ¬ gI s1 8 11 = 60 then (if ib (gI s1 8 11) 60 then vl (pI s1 712 (gI s1 8 11).toNatClampNeg (vp_nar .char p0)) (fun s3 => vl (pI s3 8 11 ((gI s3 8 11) + 1)) (fun s4 => some (.inl (gI s4 8 11), s4))) else none) else (bindR (m_X8_fails 2 s1) (fun v5 s6 => some (.inl v5, s6)))) else (bindR (m_X8_fails 1 s1) (fun v7 s8 => some (.inl v7, s8)))))
set_option maxRecDepth 100000 in
set_option maxHeartbeats 2000000 in
theorem n_X8_append (p0 : Int32) (s : Mem) : Mn s (m_X8_append p0 s) := by
  unfold m_X8_append
  refine mn_put (fun s1 => ?_)
  refine mn_bindP (fun v2 => ?_)
  refine mn_if ?_ ?_
  · skip
    refine mn_if ?_ ?_
    · skip
      refine mn_if ?_ mn_none
      refine mn_put (fun s3 => ?_)
      refine mn_put (fun s4 => ?_)
      exact mn_some
    · skip
      refine mn_bind (n_X8_fails 2 s1) (fun v5 s6 => ?_)
      exact mn_some
  · skip
    refine mn_bind (n_X8_fails 1 s1) (fun v7 s8 => ?_)
    exact mn_some
set_option maxRecDepth 100000 in
set_option maxHeartbeats 2000000 in
theorem sat_X8_append (l : Launch) (hl : l.stackTraces = false) (p0 : Int32) (s : Mem) : Sat l yX8_append (.code yX8_append cX8_append 2 (some .int)) 31 522 (fun x => some (.int x)) [.ref 8, .int p0] s (m_X8_append p0 s) := by
  refine sat_of hl (by decide) (Nat.le_of_ble_eq_true rfl) (fun X V A adV hxl hC hE hx hr => ?_) (n_X8_append p0 s)
  subst hxl
  show LX X V A 31 522 (nC s) (nS s) _ 0 [(0, .ref 8), (1, .int p0)] [] s _
  unfold m_X8_append
  refine lx_aload_n hC dX8_append_0 rfl 0 rfl ?_
  refine lx_iconstv (v := 0) hC dX8_append_1 rfl ?_
  refine lx_putI hC ly8 rfl 0 (by decide) rfl tyX8 tyX8_ok nmX8 rfl rfl rfl inX8 wd1605 dX8_append_2 (fun s1 => ?_)
  refine lx_iload_n hC dX8_append_5 rfl 1 rfl ?_
  refine lx_bipush (v := 32) hC dX8_append_6 (by decide) ?_
  refine lx_bipush (v := 126) hC dX8_append_8 (by decide) ?_
  refine lx_callP hC hx (sat_X8_isBetween (xl X) hl p0 32 126 s1) (run_S (as := [.int p0, .int 32, .int 126]) (rest := []) hC hE cw_X8_isBetween ci_X8_isBetween wd1673 cs_X8_isBetween cd_X8_isBetween (by decide) (by decide) (Nat.le_of_ble_eq_true rfl) dX8_append_10 rfl) (fun v2 _ => ?_)
  refine lx_if_ne hC 22 dX8_append_13 (by decide) ?_ ?_
  · skip
    refine lx_aload_n hC dX8_append_22 rfl 0 rfl ?_
    refine lx_getI hC ly8 rfl 11 (by decide) rfl inX8 wd1616 dX8_append_23 ?_
    refine lx_bipush (v := 60) hC dX8_append_26 (by decide) ?_
    refine lx_icmp_ne hC 37 dX8_append_28 (by decide) ?_ ?_
    · skip
      refine lx_aload_n hC dX8_append_37 rfl 0 rfl ?_
      refine lx_getR (q := 712) hC ly8 rfl 10 (by decide) rfl rfl inX8 wd1615 dX8_append_38 ?_
      refine lx_aload_n hC dX8_append_41 rfl 0 rfl ?_
      refine lx_getI hC ly8 rfl 11 (by decide) rfl inX8 wd1616 dX8_append_42 ?_
      refine lx_iload_n hC dX8_append_45 rfl 1 rfl ?_
      refine lx_castore hC ly712 dX8_append_46 (fun s3 => ?_)
      refine lx_aload_n hC dX8_append_47 rfl 0 rfl ?_
      refine lx_dup_ref hC dX8_append_48 ?_
      refine lx_getI hC ly8 rfl 11 (by decide) rfl inX8 wd1616 dX8_append_49 ?_
      refine lx_iconstv (v := 1) hC dX8_append_52 rfl ?_
      refine lx_iadd hC dX8_append_53 ?_
      refine lx_putI hC ly8 rfl 11 (by decide) rfl tyX8 tyX8_ok nmX8 rfl rfl rfl inX8 wd1616 dX8_append_54 (fun s4 => ?_)
      refine lx_aload_n hC dX8_append_57 rfl 0 rfl ?_
      refine lx_getI hC ly8 rfl 11 (by decide) rfl inX8 wd1616 dX8_append_58 ?_
      exact lx_iret hC rfl hr dX8_append_61
    · skip
      refine lx_aload_n hC dX8_append_31 rfl 0 rfl ?_
      refine lx_iconstv (v := 2) hC dX8_append_32 rfl ?_
      refine lx_callX hC hx (sat_X8_fails (xl X) hl 2 s1) (run_V (as := [.int 2]) (rest := []) hC hE ly8 rfl cw_X8_fails ci_X8_fails wd1676 cs_X8_fails ce_X8_fails cd_X8_fails (by decide) (by decide) (Nat.le_of_ble_eq_true rfl) dX8_append_33 rfl) (fun v5 s6 _ => ?_)
      exact lx_iret hC rfl hr dX8_append_36
  · skip
    refine lx_aload_n hC dX8_append_16 rfl 0 rfl ?_
    refine lx_iconstv (v := 1) hC dX8_append_17 rfl ?_
    refine lx_callX hC hx (sat_X8_fails (xl X) hl 1 s1) (run_V (as := [.int 1]) (rest := []) hC hE ly8 rfl cw_X8_fails ci_X8_fails wd1676 cs_X8_fails ce_X8_fails cd_X8_fails (by decide) (by decide) (Nat.le_of_ble_eq_true rfl) dX8_append_18 rfl) (fun v7 s8 _ => ?_)
    exact lx_iret hC rfl hr dX8_append_21
def m_X8_nextChar (s : Mem) : Option Int32 := if gI s 8 11 ≤ gI s 8 12 then (some (-1)) else (if ib (gI s 8 12) 60 then some (gI s 712 (gI s 8 12).toNatClampNeg) else none)
set_option maxRecDepth 100000 in
set_option maxHeartbeats 2000000 in
theorem sat_X8_nextChar (l : Launch) (hl : l.stackTraces = false) (s : Mem) : Sat l yX8_nextChar (.code yX8_nextChar cX8_nextChar 1 (some .int)) 30 500 (fun x => some (.int x)) [.ref 8] s (pur s (m_X8_nextChar s)) := by
  refine sat_of hl (by decide) (Nat.le_of_ble_eq_true rfl) (fun X V A adV hxl hC hE hx hr => ?_) pur_mono
  subst hxl
  show LX X V A 30 500 (nC s) (nS s) _ 0 [(0, .ref 8)] [] s _
  unfold m_X8_nextChar
  refine lx_aload_n hC dX8_nextChar_0 rfl 0 rfl ?_
  refine lx_getI hC ly8 rfl 12 (by decide) rfl inX8 wd1617 dX8_nextChar_1 ?_
  refine lx_aload_n hC dX8_nextChar_4 rfl 0 rfl ?_
  refine lx_getI hC ly8 rfl 11 (by decide) rfl inX8 wd1616 dX8_nextChar_5 ?_
  refine lq_icmp_ge hC 23 dX8_nextChar_8 (by decide) ?_ ?_
  · skip
    refine lx_iconstv (v := (-1)) hC dX8_nextChar_23 rfl ?_
    exact lx_iret hC rfl hr dX8_nextChar_24
  · skip
    refine lx_aload_n hC dX8_nextChar_11 rfl 0 rfl ?_
    refine lx_getR (q := 712) hC ly8 rfl 10 (by decide) rfl rfl inX8 wd1615 dX8_nextChar_12 ?_
    refine lx_aload_n hC dX8_nextChar_15 rfl 0 rfl ?_
    refine lx_getI hC ly8 rfl 12 (by decide) rfl inX8 wd1617 dX8_nextChar_16 ?_
    refine lq_caload hC ly712 dX8_nextChar_19 ?_
    refine lx_goto hC 24 dX8_nextChar_20 (by decide) ?_
    exact lx_iret hC rfl hr dX8_nextChar_24
def m_X8_reads (p0 : Int32) (s : Mem) : Res Int32 := bindP (m_X8_nextChar s) (fun v1 => if v1 = p0 then (vl (pI s 8 12 ((gI s 8 12) + 1)) (fun s2 => some (.inl 1, s2))) else (some (.inl 0, s)))
set_option maxRecDepth 100000 in
set_option maxHeartbeats 2000000 in
theorem n_X8_reads (p0 : Int32) (s : Mem) : Mn s (m_X8_reads p0 s) := by
  unfold m_X8_reads
  refine mn_bindP (fun v1 => ?_)
  refine mn_if ?_ ?_
  · skip
    refine mn_put (fun s2 => ?_)
    exact mn_some
  · skip
    exact mn_some
set_option maxRecDepth 100000 in
set_option maxHeartbeats 2000000 in
theorem sat_X8_reads (l : Launch) (hl : l.stackTraces = false) (p0 : Int32) (s : Mem) : Sat l yX8_reads (.code yX8_reads cX8_reads 2 (some .boolean)) 31 520 (fun x => some (.int x)) [.ref 8, .int p0] s (m_X8_reads p0 s) := by
  refine sat_of hl (by decide) (Nat.le_of_ble_eq_true rfl) (fun X V A adV hxl hC hE hx hr => ?_) (n_X8_reads p0 s)
  subst hxl
  show LX X V A 31 520 (nC s) (nS s) _ 0 [(0, .ref 8), (1, .int p0)] [] s _
  unfold m_X8_reads
  refine lx_aload_n hC dX8_reads_0 rfl 0 rfl ?_
  refine lx_callP hC hx (sat_X8_nextChar (xl X) hl s) (run_V (as := []) (rest := []) hC hE ly8 rfl cw_X8_nextChar ci_X8_nextChar wd2102 cs_X8_nextChar ce_X8_nextChar cd_X8_nextChar (by decide) (by decide) (Nat.le_of_ble_eq_true rfl) dX8_reads_1 rfl) (fun v1 _ => ?_)
  refine lx_iload_n hC dX8_reads_4 rfl 1 rfl ?_
  refine lx_icmp_eq hC 10 dX8_reads_5 (by decide) ?_ ?_
  · skip
    refine lx_aload_n hC dX8_reads_10 rfl 0 rfl ?_
    refine lx_dup_ref hC dX8_reads_11 ?_
    refine lx_getI hC ly8 rfl 12 (by decide) rfl inX8 wd1617 dX8_reads_12 ?_
    refine lx_iconstv (v := 1) hC dX8_reads_15 rfl ?_
    refine lx_iadd hC dX8_reads_16 ?_
    refine lx_putI hC ly8 rfl 12 (by decide) rfl tyX8 tyX8_ok nmX8 rfl rfl rfl inX8 wd1617 dX8_reads_17 (fun s2 => ?_)
    refine lx_iconstv (v := 1) hC dX8_reads_20 rfl ?_
    exact lx_zret hC rfl hr rfl dX8_reads_21
  · skip
    refine lx_iconstv (v := 0) hC dX8_reads_8 rfl ?_
    exact lx_zret hC rfl hr rfl dX8_reads_9
def m_X8_isDigitNext (s : Mem) : Option Int32 := bindO (m_X8_nextChar s) (fun v1 => bindO (m_X8_isBetween v1 48 57 s) (fun v2 => if vp_nar .boolean v2 = v2 then some v2 else none))
set_option maxRecDepth 100000 in
set_option maxHeartbeats 2000000 in
theorem sat_X8_isDigitNext (l : Launch) (hl : l.stackTraces = false) (s : Mem) : Sat l yX8_isDigitNext (.code yX8_isDigitNext cX8_isDigitNext 1 (some .boolean)) 31 522 (fun x => some (.int x)) [.ref 8] s (pur s (m_X8_isDigitNext s)) := by
  refine sat_of hl (by decide) (Nat.le_of_ble_eq_true rfl) (fun X V A adV hxl hC hE hx hr => ?_) pur_mono
  subst hxl
  show LX X V A 31 522 (nC s) (nS s) _ 0 [(0, .ref 8)] [] s _
  unfold m_X8_isDigitNext
  refine lx_aload_n hC dX8_isDigitNext_0 rfl 0 rfl ?_
  refine lq_call hC hx (sat_X8_nextChar (xl X) hl s) (run_V (as := []) (rest := []) hC hE ly8 rfl cw_X8_nextChar ci_X8_nextChar wd2102 cs_X8_nextChar ce_X8_nextChar cd_X8_nextChar (by decide) (by decide) (Nat.le_of_ble_eq_true rfl) dX8_isDigitNext_1 rfl) (fun v1 _ => ?_)
  refine lx_bipush (v := 48) hC dX8_isDigitNext_4 (by decide) ?_
  refine lx_bipush (v := 57) hC dX8_isDigitNext_6 (by decide) ?_
  refine lq_call hC hx (sat_X8_isBetween (xl X) hl v1 48 57 s) (run_S (as := [.int v1, .int 48, .int 57]) (rest := []) hC hE cw_X8_isBetween ci_X8_isBetween wd1673 cs_X8_isBetween cd_X8_isBetween (by decide) (by decide) (Nat.le_of_ble_eq_true rfl) dX8_isDigitNext_8 rfl) (fun v2 _ => ?_)
  exact lq_zretn hC rfl hr (by simp) dX8_isDigitNext_11
def m_X8_readsDigit (p0 : Int32) (s : Mem) : Res Int32 := bindP (m_X8_isDigitNext s) (fun v1 => if ¬ v1 = 0 then (bindP (m_X8_nextChar s) (fun v2 => if ib p0 2 then vl (pI s 1032 p0.toNatClampNeg (v2 - 48)) (fun s3 => vl (pI s3 8 12 ((gI s3 8 12) + 1)) (fun s4 => some (.inl 1, s4))) else none)) else (some (.inl 0, s)))
set_option maxRecDepth 100000 in
set_option maxHeartbeats 2000000 in
theorem n_X8_readsDigit (p0 : Int32) (s : Mem) : Mn s (m_X8_readsDigit p0 s) := by
  unfold m_X8_readsDigit
  refine mn_bindP (fun v1 => ?_)
  refine mn_if ?_ ?_
  · skip
    refine mn_bindP (fun v2 => ?_)
    refine mn_if ?_ mn_none
    refine mn_put (fun s3 => ?_)
    refine mn_put (fun s4 => ?_)
    exact mn_some
  · skip
    exact mn_some
set_option maxRecDepth 100000 in
set_option maxHeartbeats 2000000 in
theorem sat_X8_readsDigit (l : Launch) (hl : l.stackTraces = false) (p0 : Int32) (s : Mem) : Sat l yX8_readsDigit (.code yX8_readsDigit cX8_readsDigit 2 (some .boolean)) 32 542 (fun x => some (.int x)) [.ref 8, .int p0] s (m_X8_readsDigit p0 s) := by
  refine sat_of hl (by decide) (Nat.le_of_ble_eq_true rfl) (fun X V A adV hxl hC hE hx hr => ?_) (n_X8_readsDigit p0 s)
  subst hxl
  show LX X V A 32 542 (nC s) (nS s) _ 0 [(0, .ref 8), (1, .int p0)] [] s _
  unfold m_X8_readsDigit
  refine lx_aload_n hC dX8_readsDigit_0 rfl 0 rfl ?_
  refine lx_callP hC hx (sat_X8_isDigitNext (xl X) hl s) (run_V (as := []) (rest := []) hC hE ly8 rfl cw_X8_isDigitNext ci_X8_isDigitNext wd2122 cs_X8_isDigitNext ce_X8_isDigitNext cd_X8_isDigitNext (by decide) (by decide) (Nat.le_of_ble_eq_true rfl) dX8_readsDigit_1 rfl) (fun v1 _ => ?_)
  refine lx_if_ne hC 9 dX8_readsDigit_4 (by decide) ?_ ?_
  · skip
    refine lx_aload_n hC dX8_readsDigit_9 rfl 0 rfl ?_
    refine lx_getR (q := 1032) hC ly8 rfl 15 (by decide) rfl rfl inX8 wd1620 dX8_readsDigit_10 ?_
    refine lx_iload_n hC dX8_readsDigit_13 rfl 1 rfl ?_
    refine lx_aload_n hC dX8_readsDigit_14 rfl 0 rfl ?_
    refine lx_callP hC hx (sat_X8_nextChar (xl X) hl s) (run_V (as := []) (rest := [.int p0, .ref 1032]) hC hE ly8 rfl cw_X8_nextChar ci_X8_nextChar wd2102 cs_X8_nextChar ce_X8_nextChar cd_X8_nextChar (by decide) (by decide) (Nat.le_of_ble_eq_true rfl) dX8_readsDigit_15 rfl) (fun v2 _ => ?_)
    refine lx_bipush (v := 48) hC dX8_readsDigit_18 (by decide) ?_
    refine lx_isub hC dX8_readsDigit_20 ?_
    refine lx_iastore hC ly1032 dX8_readsDigit_21 (fun s3 => ?_)
    refine lx_aload_n hC dX8_readsDigit_22 rfl 0 rfl ?_
    refine lx_dup_ref hC dX8_readsDigit_23 ?_
    refine lx_getI hC ly8 rfl 12 (by decide) rfl inX8 wd1617 dX8_readsDigit_24 ?_
    refine lx_iconstv (v := 1) hC dX8_readsDigit_27 rfl ?_
    refine lx_iadd hC dX8_readsDigit_28 ?_
    refine lx_putI hC ly8 rfl 12 (by decide) rfl tyX8 tyX8_ok nmX8 rfl rfl rfl inX8 wd1617 dX8_readsDigit_29 (fun s4 => ?_)
    refine lx_iconstv (v := 1) hC dX8_readsDigit_32 rfl ?_
    exact lx_zret hC rfl hr rfl dX8_readsDigit_33
  · skip
    refine lx_iconstv (v := 0) hC dX8_readsDigit_7 rfl ?_
    exact lx_zret hC rfl hr rfl dX8_readsDigit_8
def m_X8_readsNumber_b12 (x3 : Int32) (s : Mem) (kf12 : (Int32 × Mem) → Res Int32) (w2 : Int32) : Res Int32 := if 2 ≤ w2 then (some (.inl 1, s)) else (bindP (m_X8_isDigitNext s) (fun v4 => if v4 = 0 then (some (.inl 1, s)) else (if ib x3 2 then bindP (m_X8_nextChar s) (fun v5 => if ib x3 2 then vl (pI s 1032 x3.toNatClampNeg (((10 * (gI s 1032 x3.toNatClampNeg)) + v5) - 48)) (fun s6 => vl (pI s6 8 12 ((gI s6 8 12) + 1)) (fun s7 => vl (w2 + 1) (fun y8 => kf12 (y8, s7)))) else none) else none)))
def m_X8_readsNumber (p0 : Int32) (s : Mem) : Res Int32 := bindR (m_X8_readsDigit p0 s) (fun v1 s2 => if ¬ v1 = 0 then (lp (fun kf12 a => m_X8_readsNumber_b12 p0 a.2 kf12 a.1) FUEL (0, s2)) else (some (.inl 0, s2)))
set_option maxRecDepth 100000 in
set_option maxHeartbeats 2000000 in
theorem l_X8_readsNumber_b12 {X : Cx} {V : Vx} {A : Nat → Prop} {adV : Nat → Nat} {c0 s0 : Nat} (hC : Cok X V A yX8_readsNumber.cls cX8_readsNumber 3) (hE : Env0 V adV A (xs X) (xs X).heap) (hl : (xl X).stackTraces = false) (hx : ∀ x ∈ (xc X).exceptionTable.toList, False) (hr : (xh X).sig.returnType = some .boolean) (x3 : Int32) (s : Mem) (kf12 : (Int32 × Mem) → Res Int32) (hk12 : ∀ a, LX X V A 33 563 c0 s0 (FM X V A (fun x => some (.int x))) 12 [(0, .ref 8), (1, .int x3), (2, .int a.1)] [] a.2 (kf12 a)) (w2 : Int32) : LX X V A 33 563 c0 s0 (FM X V A (fun x => some (.int x))) 12 [(0, .ref 8), (1, .int x3), (2, .int w2)] [] s (m_X8_readsNumber_b12 x3 s kf12 w2 ) := by
  unfold m_X8_readsNumber_b12
  refine lx_iload_n hC dX8_readsNumber_12 rfl 2 rfl ?_
  refine lx_iconstv (v := 2) hC dX8_readsNumber_13 rfl ?_
  refine lx_icmp_ge hC 63 dX8_readsNumber_14 (by decide) ?_ ?_
  · skip
    refine lx_iconstv (v := 1) hC dX8_readsNumber_63 rfl ?_
    exact lx_zret hC rfl hr rfl dX8_readsNumber_64
  · skip
    refine lx_aload_n hC dX8_readsNumber_17 rfl 0 rfl ?_
    refine lx_callP hC hx (sat_X8_isDigitNext (xl X) hl s) (run_V (as := []) (rest := []) hC hE ly8 rfl cw_X8_isDigitNext ci_X8_isDigitNext wd2122 cs_X8_isDigitNext ce_X8_isDigitNext cd_X8_isDigitNext (by decide) (by decide) (Nat.le_of_ble_eq_true rfl) dX8_readsNumber_18 rfl) (fun v4 _ => ?_)
    refine lx_if_eq hC 63 dX8_readsNumber_21 (by decide) ?_ ?_
    · skip
      refine lx_iconstv (v := 1) hC dX8_readsNumber_63 rfl ?_
      exact lx_zret hC rfl hr rfl dX8_readsNumber_64
    · skip
      refine lx_aload_n hC dX8_readsNumber_24 rfl 0 rfl ?_
      refine lx_getR (q := 1032) hC ly8 rfl 15 (by decide) rfl rfl inX8 wd1620 dX8_readsNumber_25 ?_
      refine lx_iload_n hC dX8_readsNumber_28 rfl 1 rfl ?_
      refine lx_bipush (v := 10) hC dX8_readsNumber_29 (by decide) ?_
      refine lx_aload_n hC dX8_readsNumber_31 rfl 0 rfl ?_
      refine lx_getR (q := 1032) hC ly8 rfl 15 (by decide) rfl rfl inX8 wd1620 dX8_readsNumber_32 ?_
      refine lx_iload_n hC dX8_readsNumber_35 rfl 1 rfl ?_
      refine lx_iaload hC ly1032 dX8_readsNumber_36 ?_
      refine lx_imul hC dX8_readsNumber_37 ?_
      refine lx_aload_n hC dX8_readsNumber_38 rfl 0 rfl ?_
      refine lx_callP hC hx (sat_X8_nextChar (xl X) hl s) (run_V (as := []) (rest := [.int (10 * (gI s 1032 x3.toNatClampNeg)), .int x3, .ref 1032]) hC hE ly8 rfl cw_X8_nextChar ci_X8_nextChar wd2102 cs_X8_nextChar ce_X8_nextChar cd_X8_nextChar (by decide) (by decide) (Nat.le_of_ble_eq_true rfl) dX8_readsNumber_39 rfl) (fun v5 _ => ?_)
      refine lx_iadd hC dX8_readsNumber_42 ?_
      refine lx_bipush (v := 48) hC dX8_readsNumber_43 (by decide) ?_
      refine lx_isub hC dX8_readsNumber_45 ?_
      refine lx_iastore hC ly1032 dX8_readsNumber_46 (fun s6 => ?_)
      refine lx_aload_n hC dX8_readsNumber_47 rfl 0 rfl ?_
      refine lx_dup_ref hC dX8_readsNumber_48 ?_
      refine lx_getI hC ly8 rfl 12 (by decide) rfl inX8 wd1617 dX8_readsNumber_49 ?_
      refine lx_iconstv (v := 1) hC dX8_readsNumber_52 rfl ?_
      refine lx_iadd hC dX8_readsNumber_53 ?_
      refine lx_putI hC ly8 rfl 12 (by decide) rfl tyX8 tyX8_ok nmX8 rfl rfl rfl inX8 wd1617 dX8_readsNumber_54 (fun s7 => ?_)
      refine lx_iincN (v := 1) hC dX8_readsNumber_57 2 rfl (by decide) rfl (fun y8 => ?_)
      refine lx_goto hC 12 dX8_readsNumber_60 (by decide) ?_
      exact lx_sub [1, 2, 0] rfl (hk12 (y8, s7))
set_option maxRecDepth 100000 in
set_option maxHeartbeats 2000000 in
theorem n_X8_readsNumber_b12 (x3 : Int32) (s : Mem) (kf12 : (Int32 × Mem) → Res Int32) (hm12 : ∀ a, Mn a.2 (kf12 a)) (w2 : Int32) : Mn s (m_X8_readsNumber_b12 x3 s kf12 w2 ) := by
  unfold m_X8_readsNumber_b12
  refine mn_if ?_ ?_
  · skip
    exact mn_some
  · skip
    refine mn_bindP (fun v4 => ?_)
    refine mn_if ?_ ?_
    · skip
      exact mn_some
    · skip
      refine mn_if ?_ mn_none
      refine mn_bindP (fun v5 => ?_)
      refine mn_if ?_ mn_none
      refine mn_put (fun s6 => ?_)
      refine mn_put (fun s7 => ?_)
      refine mn_vl (fun y8 => ?_)
      exact hm12 (y8, s7)
set_option maxRecDepth 100000 in
set_option maxHeartbeats 2000000 in
theorem n_X8_readsNumber (p0 : Int32) (s : Mem) : Mn s (m_X8_readsNumber p0 s) := by
  unfold m_X8_readsNumber
  refine mn_bind (n_X8_readsDigit p0 s) (fun v1 s2 => ?_)
  refine mn_if ?_ ?_
  · skip
    exact mn_lp (sg := fun a => a.2) (fun kf hq a => n_X8_readsNumber_b12 p0 a.2 kf hq a.1) FUEL (0, s2)
  · skip
    exact mn_some
set_option maxRecDepth 100000 in
set_option maxHeartbeats 2000000 in
theorem sat_X8_readsNumber (l : Launch) (hl : l.stackTraces = false) (p0 : Int32) (s : Mem) : Sat l yX8_readsNumber (.code yX8_readsNumber cX8_readsNumber 3 (some .boolean)) 33 563 (fun x => some (.int x)) [.ref 8, .int p0] s (m_X8_readsNumber p0 s) := by
  refine sat_of hl (by decide) (Nat.le_of_ble_eq_true rfl) (fun X V A adV hxl hC hE hx hr => ?_) (n_X8_readsNumber p0 s)
  subst hxl
  show LX X V A 33 563 (nC s) (nS s) _ 0 [(0, .ref 8), (1, .int p0)] [] s _
  unfold m_X8_readsNumber
  refine lx_aload_n hC dX8_readsNumber_0 rfl 0 rfl ?_
  refine lx_iload_n hC dX8_readsNumber_1 rfl 1 rfl ?_
  refine lx_callX hC hx (sat_X8_readsDigit (xl X) hl p0 s) (run_V (as := [.int p0]) (rest := []) hC hE ly8 rfl cw_X8_readsDigit ci_X8_readsDigit wd2118 cs_X8_readsDigit ce_X8_readsDigit cd_X8_readsDigit (by decide) (by decide) (Nat.le_of_ble_eq_true rfl) dX8_readsNumber_2 rfl) (fun v1 s2 _ => ?_)
  refine lx_if_ne hC 10 dX8_readsNumber_5 (by decide) ?_ ?_
  · skip
    refine lx_iconstv (v := 0) hC dX8_readsNumber_10 rfl ?_
    refine lx_istore_n hC dX8_readsNumber_11 rfl (by decide) ?_
    refine lx_sub [1, 2, 0] rfl ?_
    exact lx_lp (lv := fun a => [(0, .ref 8), (1, .int p0), (2, .int a.1)]) (st := fun _ => []) (sg := fun a => a.2) (fun kf hq a => l_X8_readsNumber_b12 hC hE hl hx hr p0 a.2 kf hq a.1) FUEL (0, s2)
  · skip
    refine lx_iconstv (v := 0) hC dX8_readsNumber_8 rfl ?_
    exact lx_zret hC rfl hr rfl dX8_readsNumber_9
def m_X8_readsR (s : Mem) : Res Int32 := bindR (m_X8_reads 111 s) (fun v1 s2 => if v1 = 0 then (vl (pI s2 8 16 120) (fun s3 => bindR (m_X8_reads 101 s3) (fun v4 s5 => if v4 = 0 then (some (.inl 0, s5)) else (bindR (m_X8_reads 109 s5) (fun v6 s7 => if v6 = 0 then (some (.inl 0, s7)) else (bindR (m_X8_reads 111 s7) (fun v8 s9 => if v8 = 0 then (some (.inl 0, s9)) else (bindR (m_X8_reads 118 s9) (fun v10 s11 => if v10 = 0 then (some (.inl 0, s11)) else (bindR (m_X8_reads 101 s11) (fun v12 s13 => if v12 = 0 then (some (.inl 0, s13)) else (bindR (m_X8_reads 32 s13) (fun v14 s15 => if v14 = 0 then (some (.inl 0, s15)) else (bindR (m_X8_readsNumber 0 s15) (fun v16 s17 => if v16 = 0 then (some (.inl 0, s17)) else (some (.inl 1, s17))))))))))))))))) else (bindR (m_X8_reads 119 s2) (fun v18 s19 => if v18 = 0 then (some (.inl 0, s19)) else (bindR (m_X8_reads 32 s19) (fun v20 s21 => if v20 = 0 then (some (.inl 0, s21)) else (bindR (m_X8_readsNumber 0 s21) (fun v22 s23 => if v22 = 0 then (some (.inl 0, s23)) else (some (.inl 1, s23)))))))))
set_option maxRecDepth 100000 in
set_option maxHeartbeats 2000000 in
theorem n_X8_readsR (s : Mem) : Mn s (m_X8_readsR s) := by
  unfold m_X8_readsR
  refine mn_bind (n_X8_reads 111 s) (fun v1 s2 => ?_)
  refine mn_if ?_ ?_
  · skip
    refine mn_put (fun s3 => ?_)
    refine mn_bind (n_X8_reads 101 s3) (fun v4 s5 => ?_)
    refine mn_if ?_ ?_
    · skip
      exact mn_some
    · skip
      refine mn_bind (n_X8_reads 109 s5) (fun v6 s7 => ?_)
      refine mn_if ?_ ?_
      · skip
        exact mn_some
      · skip
        refine mn_bind (n_X8_reads 111 s7) (fun v8 s9 => ?_)
        refine mn_if ?_ ?_
        · skip
          exact mn_some
        · skip
          refine mn_bind (n_X8_reads 118 s9) (fun v10 s11 => ?_)
          refine mn_if ?_ ?_
          · skip
            exact mn_some
          · skip
            refine mn_bind (n_X8_reads 101 s11) (fun v12 s13 => ?_)
            refine mn_if ?_ ?_
            · skip
              exact mn_some
            · skip
              refine mn_bind (n_X8_reads 32 s13) (fun v14 s15 => ?_)
              refine mn_if ?_ ?_
              · skip
                exact mn_some
              · skip
                refine mn_bind (n_X8_readsNumber 0 s15) (fun v16 s17 => ?_)
                refine mn_if ?_ ?_
                · skip
                  exact mn_some
                · skip
                  exact mn_some
  · skip
    refine mn_bind (n_X8_reads 119 s2) (fun v18 s19 => ?_)
    refine mn_if ?_ ?_
    · skip
      exact mn_some
    · skip
      refine mn_bind (n_X8_reads 32 s19) (fun v20 s21 => ?_)
      refine mn_if ?_ ?_
      · skip
        exact mn_some
      · skip
        refine mn_bind (n_X8_readsNumber 0 s21) (fun v22 s23 => ?_)
        refine mn_if ?_ ?_
        · skip
          exact mn_some
        · skip
          exact mn_some
set_option maxRecDepth 100000 in
set_option maxHeartbeats 2000000 in
theorem sat_X8_readsR (l : Launch) (hl : l.stackTraces = false) (s : Mem) : Sat l yX8_readsR (.code yX8_readsR cX8_readsR 1 (some .boolean)) 34 585 (fun x => some (.int x)) [.ref 8] s (m_X8_readsR s) := by
  refine sat_of hl (by decide) (Nat.le_of_ble_eq_true rfl) (fun X V A adV hxl hC hE hx hr => ?_) (n_X8_readsR s)
  subst hxl
  show LX X V A 34 585 (nC s) (nS s) _ 0 [(0, .ref 8)] [] s _
  unfold m_X8_readsR
  refine lx_aload_n hC dX8_readsR_0 rfl 0 rfl ?_
  refine lx_bipush (v := 111) hC dX8_readsR_1 (by decide) ?_
  refine lx_callX hC hx (sat_X8_reads (xl X) hl 111 s) (run_V (as := [.int 111]) (rest := []) hC hE ly8 rfl cw_X8_reads ci_X8_reads wd2106 cs_X8_reads ce_X8_reads cd_X8_reads (by decide) (by decide) (Nat.le_of_ble_eq_true rfl) dX8_readsR_3 rfl) (fun v1 s2 _ => ?_)
  refine lx_if_eq hC 41 dX8_readsR_6 (by decide) ?_ ?_
  · skip
    refine lx_aload_n hC dX8_readsR_41 rfl 0 rfl ?_
    refine lx_bipush (v := 120) hC dX8_readsR_42 (by decide) ?_
    refine lx_putI hC ly8 rfl 16 (by decide) rfl tyX8 tyX8_ok nmX8 rfl rfl rfl inX8 wd1621 dX8_readsR_44 (fun s3 => ?_)
    refine lx_aload_n hC dX8_readsR_47 rfl 0 rfl ?_
    refine lx_bipush (v := 101) hC dX8_readsR_48 (by decide) ?_
    refine lx_callX hC hx (sat_X8_reads (xl X) hl 101 s3) (run_V (as := [.int 101]) (rest := []) hC hE ly8 rfl cw_X8_reads ci_X8_reads wd2106 cs_X8_reads ce_X8_reads cd_X8_reads (by decide) (by decide) (Nat.le_of_ble_eq_true rfl) dX8_readsR_50 rfl) (fun v4 s5 _ => ?_)
    refine lx_if_eq hC 113 dX8_readsR_53 (by decide) ?_ ?_
    · skip
      refine lx_iconstv (v := 0) hC dX8_readsR_113 rfl ?_
      exact lx_zret hC rfl hr rfl dX8_readsR_114
    · skip
      refine lx_aload_n hC dX8_readsR_56 rfl 0 rfl ?_
      refine lx_bipush (v := 109) hC dX8_readsR_57 (by decide) ?_
      refine lx_callX hC hx (sat_X8_reads (xl X) hl 109 s5) (run_V (as := [.int 109]) (rest := []) hC hE ly8 rfl cw_X8_reads ci_X8_reads wd2106 cs_X8_reads ce_X8_reads cd_X8_reads (by decide) (by decide) (Nat.le_of_ble_eq_true rfl) dX8_readsR_59 rfl) (fun v6 s7 _ => ?_)
      refine lx_if_eq hC 113 dX8_readsR_62 (by decide) ?_ ?_
      · skip
        refine lx_iconstv (v := 0) hC dX8_readsR_113 rfl ?_
        exact lx_zret hC rfl hr rfl dX8_readsR_114
      · skip
        refine lx_aload_n hC dX8_readsR_65 rfl 0 rfl ?_
        refine lx_bipush (v := 111) hC dX8_readsR_66 (by decide) ?_
        refine lx_callX hC hx (sat_X8_reads (xl X) hl 111 s7) (run_V (as := [.int 111]) (rest := []) hC hE ly8 rfl cw_X8_reads ci_X8_reads wd2106 cs_X8_reads ce_X8_reads cd_X8_reads (by decide) (by decide) (Nat.le_of_ble_eq_true rfl) dX8_readsR_68 rfl) (fun v8 s9 _ => ?_)
        refine lx_if_eq hC 113 dX8_readsR_71 (by decide) ?_ ?_
        · skip
          refine lx_iconstv (v := 0) hC dX8_readsR_113 rfl ?_
          exact lx_zret hC rfl hr rfl dX8_readsR_114
        · skip
          refine lx_aload_n hC dX8_readsR_74 rfl 0 rfl ?_
          refine lx_bipush (v := 118) hC dX8_readsR_75 (by decide) ?_
          refine lx_callX hC hx (sat_X8_reads (xl X) hl 118 s9) (run_V (as := [.int 118]) (rest := []) hC hE ly8 rfl cw_X8_reads ci_X8_reads wd2106 cs_X8_reads ce_X8_reads cd_X8_reads (by decide) (by decide) (Nat.le_of_ble_eq_true rfl) dX8_readsR_77 rfl) (fun v10 s11 _ => ?_)
          refine lx_if_eq hC 113 dX8_readsR_80 (by decide) ?_ ?_
          · skip
            refine lx_iconstv (v := 0) hC dX8_readsR_113 rfl ?_
            exact lx_zret hC rfl hr rfl dX8_readsR_114
          · skip
            refine lx_aload_n hC dX8_readsR_83 rfl 0 rfl ?_
            refine lx_bipush (v := 101) hC dX8_readsR_84 (by decide) ?_
            refine lx_callX hC hx (sat_X8_reads (xl X) hl 101 s11) (run_V (as := [.int 101]) (rest := []) hC hE ly8 rfl cw_X8_reads ci_X8_reads wd2106 cs_X8_reads ce_X8_reads cd_X8_reads (by decide) (by decide) (Nat.le_of_ble_eq_true rfl) dX8_readsR_86 rfl) (fun v12 s13 _ => ?_)
            refine lx_if_eq hC 113 dX8_readsR_89 (by decide) ?_ ?_
            · skip
              refine lx_iconstv (v := 0) hC dX8_readsR_113 rfl ?_
              exact lx_zret hC rfl hr rfl dX8_readsR_114
            · skip
              refine lx_aload_n hC dX8_readsR_92 rfl 0 rfl ?_
              refine lx_bipush (v := 32) hC dX8_readsR_93 (by decide) ?_
              refine lx_callX hC hx (sat_X8_reads (xl X) hl 32 s13) (run_V (as := [.int 32]) (rest := []) hC hE ly8 rfl cw_X8_reads ci_X8_reads wd2106 cs_X8_reads ce_X8_reads cd_X8_reads (by decide) (by decide) (Nat.le_of_ble_eq_true rfl) dX8_readsR_95 rfl) (fun v14 s15 _ => ?_)
              refine lx_if_eq hC 113 dX8_readsR_98 (by decide) ?_ ?_
              · skip
                refine lx_iconstv (v := 0) hC dX8_readsR_113 rfl ?_
                exact lx_zret hC rfl hr rfl dX8_readsR_114
              · skip
                refine lx_aload_n hC dX8_readsR_101 rfl 0 rfl ?_
                refine lx_iconstv (v := 0) hC dX8_readsR_102 rfl ?_
                refine lx_callX hC hx (sat_X8_readsNumber (xl X) hl 0 s15) (run_V (as := [.int 0]) (rest := []) hC hE ly8 rfl cw_X8_readsNumber ci_X8_readsNumber wd2114 cs_X8_readsNumber ce_X8_readsNumber cd_X8_readsNumber (by decide) (by decide) (Nat.le_of_ble_eq_true rfl) dX8_readsR_103 rfl) (fun v16 s17 _ => ?_)
                refine lx_if_eq hC 113 dX8_readsR_106 (by decide) ?_ ?_
                · skip
                  refine lx_iconstv (v := 0) hC dX8_readsR_113 rfl ?_
                  exact lx_zret hC rfl hr rfl dX8_readsR_114
                · skip
                  refine lx_iconstv (v := 1) hC dX8_readsR_109 rfl ?_
                  refine lx_goto hC 114 dX8_readsR_110 (by decide) ?_
                  exact lx_zret hC rfl hr rfl dX8_readsR_114
  · skip
    refine lx_aload_n hC dX8_readsR_9 rfl 0 rfl ?_
    refine lx_bipush (v := 119) hC dX8_readsR_10 (by decide) ?_
    refine lx_callX hC hx (sat_X8_reads (xl X) hl 119 s2) (run_V (as := [.int 119]) (rest := []) hC hE ly8 rfl cw_X8_reads ci_X8_reads wd2106 cs_X8_reads ce_X8_reads cd_X8_reads (by decide) (by decide) (Nat.le_of_ble_eq_true rfl) dX8_readsR_12 rfl) (fun v18 s19 _ => ?_)
    refine lx_if_eq hC 39 dX8_readsR_15 (by decide) ?_ ?_
    · skip
      refine lx_iconstv (v := 0) hC dX8_readsR_39 rfl ?_
      exact lx_zret hC rfl hr rfl dX8_readsR_40
    · skip
      refine lx_aload_n hC dX8_readsR_18 rfl 0 rfl ?_
      refine lx_bipush (v := 32) hC dX8_readsR_19 (by decide) ?_
      refine lx_callX hC hx (sat_X8_reads (xl X) hl 32 s19) (run_V (as := [.int 32]) (rest := []) hC hE ly8 rfl cw_X8_reads ci_X8_reads wd2106 cs_X8_reads ce_X8_reads cd_X8_reads (by decide) (by decide) (Nat.le_of_ble_eq_true rfl) dX8_readsR_21 rfl) (fun v20 s21 _ => ?_)
      refine lx_if_eq hC 39 dX8_readsR_24 (by decide) ?_ ?_
      · skip
        refine lx_iconstv (v := 0) hC dX8_readsR_39 rfl ?_
        exact lx_zret hC rfl hr rfl dX8_readsR_40
      · skip
        refine lx_aload_n hC dX8_readsR_27 rfl 0 rfl ?_
        refine lx_iconstv (v := 0) hC dX8_readsR_28 rfl ?_
        refine lx_callX hC hx (sat_X8_readsNumber (xl X) hl 0 s21) (run_V (as := [.int 0]) (rest := []) hC hE ly8 rfl cw_X8_readsNumber ci_X8_readsNumber wd2114 cs_X8_readsNumber ce_X8_readsNumber cd_X8_readsNumber (by decide) (by decide) (Nat.le_of_ble_eq_true rfl) dX8_readsR_29 rfl) (fun v22 s23 _ => ?_)
        refine lx_if_eq hC 39 dX8_readsR_32 (by decide) ?_ ?_
        · skip
          refine lx_iconstv (v := 0) hC dX8_readsR_39 rfl ?_
          exact lx_zret hC rfl hr rfl dX8_readsR_40
        · skip
          refine lx_iconstv (v := 1) hC dX8_readsR_35 rfl ?_
          refine lx_goto hC 40 dX8_readsR_36 (by decide) ?_
          exact lx_zret hC rfl hr rfl dX8_readsR_40
def m_X8_readsD (s : Mem) : Res Int32 := bindR (m_X8_reads 105 s) (fun v1 s2 => if v1 = 0 then (some (.inl 0, s2)) else (bindR (m_X8_reads 115 s2) (fun v3 s4 => if ¬ v3 = 0 then (bindR (m_X8_reads 109 s4) (fun v5 s6 => if v5 = 0 then (vl (pI s6 8 16 111) (fun s7 => bindR (m_X8_reads 111 s7) (fun v8 s9 => if v8 = 0 then (some (.inl 0, s9)) else (bindR (m_X8_reads 119 s9) (fun v10 s11 => if v10 = 0 then (some (.inl 0, s11)) else (bindR (m_X8_reads 110 s11) (fun v12 s13 => if v12 = 0 then (some (.inl 0, s13)) else (bindR (m_X8_reads 32 s13) (fun v14 s15 => if v14 = 0 then (some (.inl 0, s15)) else (bindR (m_X8_readsNumber 0 s15) (fun v16 s17 => if v16 = 0 then (some (.inl 0, s17)) else (some (.inl 1, s17))))))))))))) else (bindR (m_X8_reads 105 s6) (fun v18 s19 => if v18 = 0 then (some (.inl 0, s19)) else (bindR (m_X8_reads 115 s19) (fun v20 s21 => if v20 = 0 then (some (.inl 0, s21)) else (bindR (m_X8_reads 115 s21) (fun v22 s23 => if v22 = 0 then (some (.inl 0, s23)) else (bindR (m_X8_reads 32 s23) (fun v24 s25 => if v24 = 0 then (some (.inl 0, s25)) else (bindR (m_X8_readsDigit 0 s25) (fun v26 s27 => if v26 = 0 then (some (.inl 0, s27)) else (bindR (m_X8_reads 32 s27) (fun v28 s29 => if v28 = 0 then (some (.inl 0, s29)) else (bindR (m_X8_readsDigit 1 s29) (fun v30 s31 => if v30 = 0 then (some (.inl 0, s31)) else (some (.inl 1, s31)))))))))))))))))) else (some (.inl 0, s4)))))
set_option maxRecDepth 100000 in
set_option maxHeartbeats 2000000 in
theorem n_X8_readsD (s : Mem) : Mn s (m_X8_readsD s) := by
  unfold m_X8_readsD
  refine mn_bind (n_X8_reads 105 s) (fun v1 s2 => ?_)
  refine mn_if ?_ ?_
  · skip
    exact mn_some
  · skip
    refine mn_bind (n_X8_reads 115 s2) (fun v3 s4 => ?_)
    refine mn_if ?_ ?_
    · skip
      refine mn_bind (n_X8_reads 109 s4) (fun v5 s6 => ?_)
      refine mn_if ?_ ?_
      · skip
        refine mn_put (fun s7 => ?_)
        refine mn_bind (n_X8_reads 111 s7) (fun v8 s9 => ?_)
        refine mn_if ?_ ?_
        · skip
          exact mn_some
        · skip
          refine mn_bind (n_X8_reads 119 s9) (fun v10 s11 => ?_)
          refine mn_if ?_ ?_
          · skip
            exact mn_some
          · skip
            refine mn_bind (n_X8_reads 110 s11) (fun v12 s13 => ?_)
            refine mn_if ?_ ?_
            · skip
              exact mn_some
            · skip
              refine mn_bind (n_X8_reads 32 s13) (fun v14 s15 => ?_)
              refine mn_if ?_ ?_
              · skip
                exact mn_some
              · skip
                refine mn_bind (n_X8_readsNumber 0 s15) (fun v16 s17 => ?_)
                refine mn_if ?_ ?_
                · skip
                  exact mn_some
                · skip
                  exact mn_some
      · skip
        refine mn_bind (n_X8_reads 105 s6) (fun v18 s19 => ?_)
        refine mn_if ?_ ?_
        · skip
          exact mn_some
        · skip
          refine mn_bind (n_X8_reads 115 s19) (fun v20 s21 => ?_)
          refine mn_if ?_ ?_
          · skip
            exact mn_some
          · skip
            refine mn_bind (n_X8_reads 115 s21) (fun v22 s23 => ?_)
            refine mn_if ?_ ?_
            · skip
              exact mn_some
            · skip
              refine mn_bind (n_X8_reads 32 s23) (fun v24 s25 => ?_)
              refine mn_if ?_ ?_
              · skip
                exact mn_some
              · skip
                refine mn_bind (n_X8_readsDigit 0 s25) (fun v26 s27 => ?_)
                refine mn_if ?_ ?_
                · skip
                  exact mn_some
                · skip
                  refine mn_bind (n_X8_reads 32 s27) (fun v28 s29 => ?_)
                  refine mn_if ?_ ?_
                  · skip
                    exact mn_some
                  · skip
                    refine mn_bind (n_X8_readsDigit 1 s29) (fun v30 s31 => ?_)
                    refine mn_if ?_ ?_
                    · skip
                      exact mn_some
                    · skip
                      exact mn_some
    · skip
      exact mn_some
set_option maxRecDepth 100000 in
set_option maxHeartbeats 2000000 in
theorem sat_X8_readsD (l : Launch) (hl : l.stackTraces = false) (s : Mem) : Sat l yX8_readsD (.code yX8_readsD cX8_readsD 1 (some .boolean)) 34 585 (fun x => some (.int x)) [.ref 8] s (m_X8_readsD s) := by
  refine sat_of hl (by decide) (Nat.le_of_ble_eq_true rfl) (fun X V A adV hxl hC hE hx hr => ?_) (n_X8_readsD s)
  subst hxl
  show LX X V A 34 585 (nC s) (nS s) _ 0 [(0, .ref 8)] [] s _
  unfold m_X8_readsD
  refine lx_aload_n hC dX8_readsD_0 rfl 0 rfl ?_
  refine lx_bipush (v := 105) hC dX8_readsD_1 (by decide) ?_
  refine lx_callX hC hx (sat_X8_reads (xl X) hl 105 s) (run_V (as := [.int 105]) (rest := []) hC hE ly8 rfl cw_X8_reads ci_X8_reads wd2106 cs_X8_reads ce_X8_reads cd_X8_reads (by decide) (by decide) (Nat.le_of_ble_eq_true rfl) dX8_readsD_3 rfl) (fun v1 s2 _ => ?_)
  refine lx_if_eq hC 18 dX8_readsD_6 (by decide) ?_ ?_
  · skip
    refine lx_iconstv (v := 0) hC dX8_readsD_18 rfl ?_
    exact lx_zret hC rfl hr rfl dX8_readsD_19
  · skip
    refine lx_aload_n hC dX8_readsD_9 rfl 0 rfl ?_
    refine lx_bipush (v := 115) hC dX8_readsD_10 (by decide) ?_
    refine lx_callX hC hx (sat_X8_reads (xl X) hl 115 s2) (run_V (as := [.int 115]) (rest := []) hC hE ly8 rfl cw_X8_reads ci_X8_reads wd2106 cs_X8_reads ce_X8_reads cd_X8_reads (by decide) (by decide) (Nat.le_of_ble_eq_true rfl) dX8_readsD_12 rfl) (fun v3 s4 _ => ?_)
    refine lx_if_ne hC 20 dX8_readsD_15 (by decide) ?_ ?_
    · skip
      refine lx_aload_n hC dX8_readsD_20 rfl 0 rfl ?_
      refine lx_bipush (v := 109) hC dX8_readsD_21 (by decide) ?_
      refine lx_callX hC hx (sat_X8_reads (xl X) hl 109 s4) (run_V (as := [.int 109]) (rest := []) hC hE ly8 rfl cw_X8_reads ci_X8_reads wd2106 cs_X8_reads ce_X8_reads cd_X8_reads (by decide) (by decide) (Nat.le_of_ble_eq_true rfl) dX8_readsD_23 rfl) (fun v5 s6 _ => ?_)
      refine lx_if_eq hC 96 dX8_readsD_26 (by decide) ?_ ?_
      · skip
        refine lx_aload_n hC dX8_readsD_96 rfl 0 rfl ?_
        refine lx_bipush (v := 111) hC dX8_readsD_97 (by decide) ?_
        refine lx_putI hC ly8 rfl 16 (by decide) rfl tyX8 tyX8_ok nmX8 rfl rfl rfl inX8 wd1621 dX8_readsD_99 (fun s7 => ?_)
        refine lx_aload_n hC dX8_readsD_102 rfl 0 rfl ?_
        refine lx_bipush (v := 111) hC dX8_readsD_103 (by decide) ?_
        refine lx_callX hC hx (sat_X8_reads (xl X) hl 111 s7) (run_V (as := [.int 111]) (rest := []) hC hE ly8 rfl cw_X8_reads ci_X8_reads wd2106 cs_X8_reads ce_X8_reads cd_X8_reads (by decide) (by decide) (Nat.le_of_ble_eq_true rfl) dX8_readsD_105 rfl) (fun v8 s9 _ => ?_)
        refine lx_if_eq hC 150 dX8_readsD_108 (by decide) ?_ ?_
        · skip
          refine lx_iconstv (v := 0) hC dX8_readsD_150 rfl ?_
          exact lx_zret hC rfl hr rfl dX8_readsD_151
        · skip
          refine lx_aload_n hC dX8_readsD_111 rfl 0 rfl ?_
          refine lx_bipush (v := 119) hC dX8_readsD_112 (by decide) ?_
          refine lx_callX hC hx (sat_X8_reads (xl X) hl 119 s9) (run_V (as := [.int 119]) (rest := []) hC hE ly8 rfl cw_X8_reads ci_X8_reads wd2106 cs_X8_reads ce_X8_reads cd_X8_reads (by decide) (by decide) (Nat.le_of_ble_eq_true rfl) dX8_readsD_114 rfl) (fun v10 s11 _ => ?_)
          refine lx_if_eq hC 150 dX8_readsD_117 (by decide) ?_ ?_
          · skip
            refine lx_iconstv (v := 0) hC dX8_readsD_150 rfl ?_
            exact lx_zret hC rfl hr rfl dX8_readsD_151
          · skip
            refine lx_aload_n hC dX8_readsD_120 rfl 0 rfl ?_
            refine lx_bipush (v := 110) hC dX8_readsD_121 (by decide) ?_
            refine lx_callX hC hx (sat_X8_reads (xl X) hl 110 s11) (run_V (as := [.int 110]) (rest := []) hC hE ly8 rfl cw_X8_reads ci_X8_reads wd2106 cs_X8_reads ce_X8_reads cd_X8_reads (by decide) (by decide) (Nat.le_of_ble_eq_true rfl) dX8_readsD_123 rfl) (fun v12 s13 _ => ?_)
            refine lx_if_eq hC 150 dX8_readsD_126 (by decide) ?_ ?_
            · skip
              refine lx_iconstv (v := 0) hC dX8_readsD_150 rfl ?_
              exact lx_zret hC rfl hr rfl dX8_readsD_151
            · skip
              refine lx_aload_n hC dX8_readsD_129 rfl 0 rfl ?_
              refine lx_bipush (v := 32) hC dX8_readsD_130 (by decide) ?_
              refine lx_callX hC hx (sat_X8_reads (xl X) hl 32 s13) (run_V (as := [.int 32]) (rest := []) hC hE ly8 rfl cw_X8_reads ci_X8_reads wd2106 cs_X8_reads ce_X8_reads cd_X8_reads (by decide) (by decide) (Nat.le_of_ble_eq_true rfl) dX8_readsD_132 rfl) (fun v14 s15 _ => ?_)
              refine lx_if_eq hC 150 dX8_readsD_135 (by decide) ?_ ?_
              · skip
                refine lx_iconstv (v := 0) hC dX8_readsD_150 rfl ?_
                exact lx_zret hC rfl hr rfl dX8_readsD_151
              · skip
                refine lx_aload_n hC dX8_readsD_138 rfl 0 rfl ?_
                refine lx_iconstv (v := 0) hC dX8_readsD_139 rfl ?_
                refine lx_callX hC hx (sat_X8_readsNumber (xl X) hl 0 s15) (run_V (as := [.int 0]) (rest := []) hC hE ly8 rfl cw_X8_readsNumber ci_X8_readsNumber wd2114 cs_X8_readsNumber ce_X8_readsNumber cd_X8_readsNumber (by decide) (by decide) (Nat.le_of_ble_eq_true rfl) dX8_readsD_140 rfl) (fun v16 s17 _ => ?_)
                refine lx_if_eq hC 150 dX8_readsD_143 (by decide) ?_ ?_
                · skip
                  refine lx_iconstv (v := 0) hC dX8_readsD_150 rfl ?_
                  exact lx_zret hC rfl hr rfl dX8_readsD_151
                · skip
                  refine lx_iconstv (v := 1) hC dX8_readsD_146 rfl ?_
                  refine lx_goto hC 151 dX8_readsD_147 (by decide) ?_
                  exact lx_zret hC rfl hr rfl dX8_readsD_151
      · skip
        refine lx_aload_n hC dX8_readsD_29 rfl 0 rfl ?_
        refine lx_bipush (v := 105) hC dX8_readsD_30 (by decide) ?_
        refine lx_callX hC hx (sat_X8_reads (xl X) hl 105 s6) (run_V (as := [.int 105]) (rest := []) hC hE ly8 rfl cw_X8_reads ci_X8_reads wd2106 cs_X8_reads ce_X8_reads cd_X8_reads (by decide) (by decide) (Nat.le_of_ble_eq_true rfl) dX8_readsD_32 rfl) (fun v18 s19 _ => ?_)
        refine lx_if_eq hC 94 dX8_readsD_35 (by decide) ?_ ?_
        · skip
          refine lx_iconstv (v := 0) hC dX8_readsD_94 rfl ?_
          exact lx_zret hC rfl hr rfl dX8_readsD_95
        · skip
          refine lx_aload_n hC dX8_readsD_38 rfl 0 rfl ?_
          refine lx_bipush (v := 115) hC dX8_readsD_39 (by decide) ?_
          refine lx_callX hC hx (sat_X8_reads (xl X) hl 115 s19) (run_V (as := [.int 115]) (rest := []) hC hE ly8 rfl cw_X8_reads ci_X8_reads wd2106 cs_X8_reads ce_X8_reads cd_X8_reads (by decide) (by decide) (Nat.le_of_ble_eq_true rfl) dX8_readsD_41 rfl) (fun v20 s21 _ => ?_)
          refine lx_if_eq hC 94 dX8_readsD_44 (by decide) ?_ ?_
          · skip
            refine lx_iconstv (v := 0) hC dX8_readsD_94 rfl ?_
            exact lx_zret hC rfl hr rfl dX8_readsD_95
          · skip
            refine lx_aload_n hC dX8_readsD_47 rfl 0 rfl ?_
            refine lx_bipush (v := 115) hC dX8_readsD_48 (by decide) ?_
            refine lx_callX hC hx (sat_X8_reads (xl X) hl 115 s21) (run_V (as := [.int 115]) (rest := []) hC hE ly8 rfl cw_X8_reads ci_X8_reads wd2106 cs_X8_reads ce_X8_reads cd_X8_reads (by decide) (by decide) (Nat.le_of_ble_eq_true rfl) dX8_readsD_50 rfl) (fun v22 s23 _ => ?_)
            refine lx_if_eq hC 94 dX8_readsD_53 (by decide) ?_ ?_
            · skip
              refine lx_iconstv (v := 0) hC dX8_readsD_94 rfl ?_
              exact lx_zret hC rfl hr rfl dX8_readsD_95
            · skip
              refine lx_aload_n hC dX8_readsD_56 rfl 0 rfl ?_
              refine lx_bipush (v := 32) hC dX8_readsD_57 (by decide) ?_
              refine lx_callX hC hx (sat_X8_reads (xl X) hl 32 s23) (run_V (as := [.int 32]) (rest := []) hC hE ly8 rfl cw_X8_reads ci_X8_reads wd2106 cs_X8_reads ce_X8_reads cd_X8_reads (by decide) (by decide) (Nat.le_of_ble_eq_true rfl) dX8_readsD_59 rfl) (fun v24 s25 _ => ?_)
              refine lx_if_eq hC 94 dX8_readsD_62 (by decide) ?_ ?_
              · skip
                refine lx_iconstv (v := 0) hC dX8_readsD_94 rfl ?_
                exact lx_zret hC rfl hr rfl dX8_readsD_95
              · skip
                refine lx_aload_n hC dX8_readsD_65 rfl 0 rfl ?_
                refine lx_iconstv (v := 0) hC dX8_readsD_66 rfl ?_
                refine lx_callX hC hx (sat_X8_readsDigit (xl X) hl 0 s25) (run_V (as := [.int 0]) (rest := []) hC hE ly8 rfl cw_X8_readsDigit ci_X8_readsDigit wd2118 cs_X8_readsDigit ce_X8_readsDigit cd_X8_readsDigit (by decide) (by decide) (Nat.le_of_ble_eq_true rfl) dX8_readsD_67 rfl) (fun v26 s27 _ => ?_)
                refine lx_if_eq hC 94 dX8_readsD_70 (by decide) ?_ ?_
                · skip
                  refine lx_iconstv (v := 0) hC dX8_readsD_94 rfl ?_
                  exact lx_zret hC rfl hr rfl dX8_readsD_95
                · skip
                  refine lx_aload_n hC dX8_readsD_73 rfl 0 rfl ?_
                  refine lx_bipush (v := 32) hC dX8_readsD_74 (by decide) ?_
                  refine lx_callX hC hx (sat_X8_reads (xl X) hl 32 s27) (run_V (as := [.int 32]) (rest := []) hC hE ly8 rfl cw_X8_reads ci_X8_reads wd2106 cs_X8_reads ce_X8_reads cd_X8_reads (by decide) (by decide) (Nat.le_of_ble_eq_true rfl) dX8_readsD_76 rfl) (fun v28 s29 _ => ?_)
                  refine lx_if_eq hC 94 dX8_readsD_79 (by decide) ?_ ?_
                  · skip
                    refine lx_iconstv (v := 0) hC dX8_readsD_94 rfl ?_
                    exact lx_zret hC rfl hr rfl dX8_readsD_95
                  · skip
                    refine lx_aload_n hC dX8_readsD_82 rfl 0 rfl ?_
                    refine lx_iconstv (v := 1) hC dX8_readsD_83 rfl ?_
                    refine lx_callX hC hx (sat_X8_readsDigit (xl X) hl 1 s29) (run_V (as := [.int 1]) (rest := []) hC hE ly8 rfl cw_X8_readsDigit ci_X8_readsDigit wd2118 cs_X8_readsDigit ce_X8_readsDigit cd_X8_readsDigit (by decide) (by decide) (Nat.le_of_ble_eq_true rfl) dX8_readsD_84 rfl) (fun v30 s31 _ => ?_)
                    refine lx_if_eq hC 94 dX8_readsD_87 (by decide) ?_ ?_
                    · skip
                      refine lx_iconstv (v := 0) hC dX8_readsD_94 rfl ?_
                      exact lx_zret hC rfl hr rfl dX8_readsD_95
                    · skip
                      refine lx_iconstv (v := 1) hC dX8_readsD_90 rfl ?_
                      refine lx_goto hC 95 dX8_readsD_91 (by decide) ?_
                      exact lx_zret hC rfl hr rfl dX8_readsD_95
    · skip
      refine lx_iconstv (v := 0) hC dX8_readsD_18 rfl ?_
      exact lx_zret hC rfl hr rfl dX8_readsD_19
def m_X8_readsPhantoms (s : Mem) : Res Int32 := bindR (m_X8_reads 104 s) (fun v1 s2 => if v1 = 0 then (some (.inl 0, s2)) else (bindR (m_X8_reads 97 s2) (fun v3 s4 => if v3 = 0 then (some (.inl 0, s4)) else (bindR (m_X8_reads 110 s4) (fun v5 s6 => if v5 = 0 then (some (.inl 0, s6)) else (bindR (m_X8_reads 116 s6) (fun v7 s8 => if v7 = 0 then (some (.inl 0, s8)) else (bindR (m_X8_reads 111 s8) (fun v9 s10 => if v9 = 0 then (some (.inl 0, s10)) else (bindR (m_X8_reads 109 s10) (fun v11 s12 => if v11 = 0 then (some (.inl 0, s12)) else (bindR (m_X8_reads 115 s12) (fun v13 s14 => if ¬ v13 = 0 then (bindR (m_X8_reads 32 s14) (fun v15 s16 => if v15 = 0 then (some (.inl 0, s16)) else (bindR (m_X8_readsDigit 0 s16) (fun v17 s18 => if v17 = 0 then (some (.inl 0, s18)) else (bindR (m_X8_reads 32 s18) (fun v19 s20 => if v19 = 0 then (some (.inl 0, s20)) else (bindR (m_X8_readsDigit 1 s20) (fun v21 s22 => if v21 = 0 then (some (.inl 0, s22)) else (some (.inl 1, s22)))))))))) else (some (.inl 0, s14)))))))))))))))
set_option maxRecDepth 100000 in
set_option maxHeartbeats 2000000 in
theorem n_X8_readsPhantoms (s : Mem) : Mn s (m_X8_readsPhantoms s) := by
  unfold m_X8_readsPhantoms
  refine mn_bind (n_X8_reads 104 s) (fun v1 s2 => ?_)
  refine mn_if ?_ ?_
  · skip
    exact mn_some
  · skip
    refine mn_bind (n_X8_reads 97 s2) (fun v3 s4 => ?_)
    refine mn_if ?_ ?_
    · skip
      exact mn_some
    · skip
      refine mn_bind (n_X8_reads 110 s4) (fun v5 s6 => ?_)
      refine mn_if ?_ ?_
      · skip
        exact mn_some
      · skip
        refine mn_bind (n_X8_reads 116 s6) (fun v7 s8 => ?_)
        refine mn_if ?_ ?_
        · skip
          exact mn_some
        · skip
          refine mn_bind (n_X8_reads 111 s8) (fun v9 s10 => ?_)
          refine mn_if ?_ ?_
          · skip
            exact mn_some
          · skip
            refine mn_bind (n_X8_reads 109 s10) (fun v11 s12 => ?_)
            refine mn_if ?_ ?_
            · skip
              exact mn_some
            · skip
              refine mn_bind (n_X8_reads 115 s12) (fun v13 s14 => ?_)
              refine mn_if ?_ ?_
              · skip
                refine mn_bind (n_X8_reads 32 s14) (fun v15 s16 => ?_)
                refine mn_if ?_ ?_
                · skip
                  exact mn_some
                · skip
                  refine mn_bind (n_X8_readsDigit 0 s16) (fun v17 s18 => ?_)
                  refine mn_if ?_ ?_
                  · skip
                    exact mn_some
                  · skip
                    refine mn_bind (n_X8_reads 32 s18) (fun v19 s20 => ?_)
                    refine mn_if ?_ ?_
                    · skip
                      exact mn_some
                    · skip
                      refine mn_bind (n_X8_readsDigit 1 s20) (fun v21 s22 => ?_)
                      refine mn_if ?_ ?_
                      · skip
                        exact mn_some
                      · skip
                        exact mn_some
              · skip
                exact mn_some
set_option maxRecDepth 100000 in
set_option maxHeartbeats 2000000 in
theorem sat_X8_readsPhantoms (l : Launch) (hl : l.stackTraces = false) (s : Mem) : Sat l yX8_readsPhantoms (.code yX8_readsPhantoms cX8_readsPhantoms 1 (some .boolean)) 33 563 (fun x => some (.int x)) [.ref 8] s (m_X8_readsPhantoms s) := by
  refine sat_of hl (by decide) (Nat.le_of_ble_eq_true rfl) (fun X V A adV hxl hC hE hx hr => ?_) (n_X8_readsPhantoms s)
  subst hxl
  show LX X V A 33 563 (nC s) (nS s) _ 0 [(0, .ref 8)] [] s _
  unfold m_X8_readsPhantoms
  refine lx_aload_n hC dX8_readsPhantoms_0 rfl 0 rfl ?_
  refine lx_bipush (v := 104) hC dX8_readsPhantoms_1 (by decide) ?_
  refine lx_callX hC hx (sat_X8_reads (xl X) hl 104 s) (run_V (as := [.int 104]) (rest := []) hC hE ly8 rfl cw_X8_reads ci_X8_reads wd2106 cs_X8_reads ce_X8_reads cd_X8_reads (by decide) (by decide) (Nat.le_of_ble_eq_true rfl) dX8_readsPhantoms_3 rfl) (fun v1 s2 _ => ?_)
  refine lx_if_eq hC 63 dX8_readsPhantoms_6 (by decide) ?_ ?_
  · skip
    refine lx_iconstv (v := 0) hC dX8_readsPhantoms_63 rfl ?_
    exact lx_zret hC rfl hr rfl dX8_readsPhantoms_64
  · skip
    refine lx_aload_n hC dX8_readsPhantoms_9 rfl 0 rfl ?_
    refine lx_bipush (v := 97) hC dX8_readsPhantoms_10 (by decide) ?_
    refine lx_callX hC hx (sat_X8_reads (xl X) hl 97 s2) (run_V (as := [.int 97]) (rest := []) hC hE ly8 rfl cw_X8_reads ci_X8_reads wd2106 cs_X8_reads ce_X8_reads cd_X8_reads (by decide) (by decide) (Nat.le_of_ble_eq_true rfl) dX8_readsPhantoms_12 rfl) (fun v3 s4 _ => ?_)
    refine lx_if_eq hC 63 dX8_readsPhantoms_15 (by decide) ?_ ?_
    · skip
      refine lx_iconstv (v := 0) hC dX8_readsPhantoms_63 rfl ?_
      exact lx_zret hC rfl hr rfl dX8_readsPhantoms_64
    · skip
      refine lx_aload_n hC dX8_readsPhantoms_18 rfl 0 rfl ?_
      refine lx_bipush (v := 110) hC dX8_readsPhantoms_19 (by decide) ?_
      refine lx_callX hC hx (sat_X8_reads (xl X) hl 110 s4) (run_V (as := [.int 110]) (rest := []) hC hE ly8 rfl cw_X8_reads ci_X8_reads wd2106 cs_X8_reads ce_X8_reads cd_X8_reads (by decide) (by decide) (Nat.le_of_ble_eq_true rfl) dX8_readsPhantoms_21 rfl) (fun v5 s6 _ => ?_)
      refine lx_if_eq hC 63 dX8_readsPhantoms_24 (by decide) ?_ ?_
      · skip
        refine lx_iconstv (v := 0) hC dX8_readsPhantoms_63 rfl ?_
        exact lx_zret hC rfl hr rfl dX8_readsPhantoms_64
      · skip
        refine lx_aload_n hC dX8_readsPhantoms_27 rfl 0 rfl ?_
        refine lx_bipush (v := 116) hC dX8_readsPhantoms_28 (by decide) ?_
        refine lx_callX hC hx (sat_X8_reads (xl X) hl 116 s6) (run_V (as := [.int 116]) (rest := []) hC hE ly8 rfl cw_X8_reads ci_X8_reads wd2106 cs_X8_reads ce_X8_reads cd_X8_reads (by decide) (by decide) (Nat.le_of_ble_eq_true rfl) dX8_readsPhantoms_30 rfl) (fun v7 s8 _ => ?_)
        refine lx_if_eq hC 63 dX8_readsPhantoms_33 (by decide) ?_ ?_
        · skip
          refine lx_iconstv (v := 0) hC dX8_readsPhantoms_63 rfl ?_
          exact lx_zret hC rfl hr rfl dX8_readsPhantoms_64
        · skip
          refine lx_aload_n hC dX8_readsPhantoms_36 rfl 0 rfl ?_
          refine lx_bipush (v := 111) hC dX8_readsPhantoms_37 (by decide) ?_
          refine lx_callX hC hx (sat_X8_reads (xl X) hl 111 s8) (run_V (as := [.int 111]) (rest := []) hC hE ly8 rfl cw_X8_reads ci_X8_reads wd2106 cs_X8_reads ce_X8_reads cd_X8_reads (by decide) (by decide) (Nat.le_of_ble_eq_true rfl) dX8_readsPhantoms_39 rfl) (fun v9 s10 _ => ?_)
          refine lx_if_eq hC 63 dX8_readsPhantoms_42 (by decide) ?_ ?_
          · skip
            refine lx_iconstv (v := 0) hC dX8_readsPhantoms_63 rfl ?_
            exact lx_zret hC rfl hr rfl dX8_readsPhantoms_64
          · skip
            refine lx_aload_n hC dX8_readsPhantoms_45 rfl 0 rfl ?_
            refine lx_bipush (v := 109) hC dX8_readsPhantoms_46 (by decide) ?_
            refine lx_callX hC hx (sat_X8_reads (xl X) hl 109 s10) (run_V (as := [.int 109]) (rest := []) hC hE ly8 rfl cw_X8_reads ci_X8_reads wd2106 cs_X8_reads ce_X8_reads cd_X8_reads (by decide) (by decide) (Nat.le_of_ble_eq_true rfl) dX8_readsPhantoms_48 rfl) (fun v11 s12 _ => ?_)
            refine lx_if_eq hC 63 dX8_readsPhantoms_51 (by decide) ?_ ?_
            · skip
              refine lx_iconstv (v := 0) hC dX8_readsPhantoms_63 rfl ?_
              exact lx_zret hC rfl hr rfl dX8_readsPhantoms_64
            · skip
              refine lx_aload_n hC dX8_readsPhantoms_54 rfl 0 rfl ?_
              refine lx_bipush (v := 115) hC dX8_readsPhantoms_55 (by decide) ?_
              refine lx_callX hC hx (sat_X8_reads (xl X) hl 115 s12) (run_V (as := [.int 115]) (rest := []) hC hE ly8 rfl cw_X8_reads ci_X8_reads wd2106 cs_X8_reads ce_X8_reads cd_X8_reads (by decide) (by decide) (Nat.le_of_ble_eq_true rfl) dX8_readsPhantoms_57 rfl) (fun v13 s14 _ => ?_)
              refine lx_if_ne hC 65 dX8_readsPhantoms_60 (by decide) ?_ ?_
              · skip
                refine lx_aload_n hC dX8_readsPhantoms_65 rfl 0 rfl ?_
                refine lx_bipush (v := 32) hC dX8_readsPhantoms_66 (by decide) ?_
                refine lx_callX hC hx (sat_X8_reads (xl X) hl 32 s14) (run_V (as := [.int 32]) (rest := []) hC hE ly8 rfl cw_X8_reads ci_X8_reads wd2106 cs_X8_reads ce_X8_reads cd_X8_reads (by decide) (by decide) (Nat.le_of_ble_eq_true rfl) dX8_readsPhantoms_68 rfl) (fun v15 s16 _ => ?_)
                refine lx_if_eq hC 103 dX8_readsPhantoms_71 (by decide) ?_ ?_
                · skip
                  refine lx_iconstv (v := 0) hC dX8_readsPhantoms_103 rfl ?_
                  exact lx_zret hC rfl hr rfl dX8_readsPhantoms_104
                · skip
                  refine lx_aload_n hC dX8_readsPhantoms_74 rfl 0 rfl ?_
                  refine lx_iconstv (v := 0) hC dX8_readsPhantoms_75 rfl ?_
                  refine lx_callX hC hx (sat_X8_readsDigit (xl X) hl 0 s16) (run_V (as := [.int 0]) (rest := []) hC hE ly8 rfl cw_X8_readsDigit ci_X8_readsDigit wd2118 cs_X8_readsDigit ce_X8_readsDigit cd_X8_readsDigit (by decide) (by decide) (Nat.le_of_ble_eq_true rfl) dX8_readsPhantoms_76 rfl) (fun v17 s18 _ => ?_)
                  refine lx_if_eq hC 103 dX8_readsPhantoms_79 (by decide) ?_ ?_
                  · skip
                    refine lx_iconstv (v := 0) hC dX8_readsPhantoms_103 rfl ?_
                    exact lx_zret hC rfl hr rfl dX8_readsPhantoms_104
                  · skip
                    refine lx_aload_n hC dX8_readsPhantoms_82 rfl 0 rfl ?_
                    refine lx_bipush (v := 32) hC dX8_readsPhantoms_83 (by decide) ?_
                    refine lx_callX hC hx (sat_X8_reads (xl X) hl 32 s18) (run_V (as := [.int 32]) (rest := []) hC hE ly8 rfl cw_X8_reads ci_X8_reads wd2106 cs_X8_reads ce_X8_reads cd_X8_reads (by decide) (by decide) (Nat.le_of_ble_eq_true rfl) dX8_readsPhantoms_85 rfl) (fun v19 s20 _ => ?_)
                    refine lx_if_eq hC 103 dX8_readsPhantoms_88 (by decide) ?_ ?_
                    · skip
                      refine lx_iconstv (v := 0) hC dX8_readsPhantoms_103 rfl ?_
                      exact lx_zret hC rfl hr rfl dX8_readsPhantoms_104
                    · skip
                      refine lx_aload_n hC dX8_readsPhantoms_91 rfl 0 rfl ?_
                      refine lx_iconstv (v := 1) hC dX8_readsPhantoms_92 rfl ?_
                      refine lx_callX hC hx (sat_X8_readsDigit (xl X) hl 1 s20) (run_V (as := [.int 1]) (rest := []) hC hE ly8 rfl cw_X8_readsDigit ci_X8_readsDigit wd2118 cs_X8_readsDigit ce_X8_readsDigit cd_X8_readsDigit (by decide) (by decide) (Nat.le_of_ble_eq_true rfl) dX8_readsPhantoms_93 rfl) (fun v21 s22 _ => ?_)
                      refine lx_if_eq hC 103 dX8_readsPhantoms_96 (by decide) ?_ ?_
                      · skip
                        refine lx_iconstv (v := 0) hC dX8_readsPhantoms_103 rfl ?_
                        exact lx_zret hC rfl hr rfl dX8_readsPhantoms_104
                      · skip
                        refine lx_iconstv (v := 1) hC dX8_readsPhantoms_99 rfl ?_
                        refine lx_goto hC 104 dX8_readsPhantoms_100 (by decide) ?_
                        exact lx_zret hC rfl hr rfl dX8_readsPhantoms_104
              · skip
                refine lx_iconstv (v := 0) hC dX8_readsPhantoms_63 rfl ?_
                exact lx_zret hC rfl hr rfl dX8_readsPhantoms_64
def m_X8_readsBox (s : Mem) : Res Int32 := bindR (m_X8_reads 111 s) (fun v1 s2 => if v1 = 0 then (some (.inl 0, s2)) else (bindR (m_X8_reads 120 s2) (fun v3 s4 => if v3 = 0 then (some (.inl 0, s4)) else (bindR (m_X8_reads 32 s4) (fun v5 s6 => if ¬ v5 = 0 then (bindP (m_X8_nextChar s6) (fun v7 => if ib 0 2 then vl (pI s6 1032 0.toNatClampNeg v7) (fun s8 => bindP (m_X8_nextChar s8) (fun v9 => bindP (m_X8_isBox v9 s8) (fun v10 => if ¬ v10 = 0 then (vl (pI s8 8 12 ((gI s8 8 12) + 1)) (fun s11 => bindR (m_X8_reads 32 s11) (fun v12 s13 => if v12 = 0 then (some (.inl 0, s13)) else (bindR (m_X8_readsDigit 1 s13) (fun v14 s15 => if v14 = 0 then (some (.inl 0, s15)) else (some (.inl 1, s15))))))) else (some (.inl 0, s8))))) else none)) else (some (.inl 0, s6)))))))
set_option maxRecDepth 100000 in
set_option maxHeartbeats 2000000 in
theorem n_X8_readsBox (s : Mem) : Mn s (m_X8_readsBox s) := by
  unfold m_X8_readsBox
  refine mn_bind (n_X8_reads 111 s) (fun v1 s2 => ?_)
  refine mn_if ?_ ?_
  · skip
    exact mn_some
  · skip
    refine mn_bind (n_X8_reads 120 s2) (fun v3 s4 => ?_)
    refine mn_if ?_ ?_
    · skip
      exact mn_some
    · skip
      refine mn_bind (n_X8_reads 32 s4) (fun v5 s6 => ?_)
      refine mn_if ?_ ?_
      · skip
        refine mn_bindP (fun v7 => ?_)
        refine mn_if ?_ mn_none
        refine mn_put (fun s8 => ?_)
        refine mn_bindP (fun v9 => ?_)
        refine mn_bindP (fun v10 => ?_)
        refine mn_if ?_ ?_
        · skip
          refine mn_put (fun s11 => ?_)
          refine mn_bind (n_X8_reads 32 s11) (fun v12 s13 => ?_)
          refine mn_if ?_ ?_
          · skip
            exact mn_some
          · skip
            refine mn_bind (n_X8_readsDigit 1 s13) (fun v14 s15 => ?_)
            refine mn_if ?_ ?_
            · skip
              exact mn_some
            · skip
              exact mn_some
        · skip
          exact mn_some
      · skip
        exact mn_some
set_option maxRecDepth 100000 in
set_option maxHeartbeats 2000000 in
theorem sat_X8_readsBox (l : Launch) (hl : l.stackTraces = false) (s : Mem) : Sat l yX8_readsBox (.code yX8_readsBox cX8_readsBox 1 (some .boolean)) 33 563 (fun x => some (.int x)) [.ref 8] s (m_X8_readsBox s) := by
  refine sat_of hl (by decide) (Nat.le_of_ble_eq_true rfl) (fun X V A adV hxl hC hE hx hr => ?_) (n_X8_readsBox s)
  subst hxl
  show LX X V A 33 563 (nC s) (nS s) _ 0 [(0, .ref 8)] [] s _
  unfold m_X8_readsBox
  refine lx_aload_n hC dX8_readsBox_0 rfl 0 rfl ?_
  refine lx_bipush (v := 111) hC dX8_readsBox_1 (by decide) ?_
  refine lx_callX hC hx (sat_X8_reads (xl X) hl 111 s) (run_V (as := [.int 111]) (rest := []) hC hE ly8 rfl cw_X8_reads ci_X8_reads wd2106 cs_X8_reads ce_X8_reads cd_X8_reads (by decide) (by decide) (Nat.le_of_ble_eq_true rfl) dX8_readsBox_3 rfl) (fun v1 s2 _ => ?_)
  refine lx_if_eq hC 27 dX8_readsBox_6 (by decide) ?_ ?_
  · skip
    refine lx_iconstv (v := 0) hC dX8_readsBox_27 rfl ?_
    exact lx_zret hC rfl hr rfl dX8_readsBox_28
  · skip
    refine lx_aload_n hC dX8_readsBox_9 rfl 0 rfl ?_
    refine lx_bipush (v := 120) hC dX8_readsBox_10 (by decide) ?_
    refine lx_callX hC hx (sat_X8_reads (xl X) hl 120 s2) (run_V (as := [.int 120]) (rest := []) hC hE ly8 rfl cw_X8_reads ci_X8_reads wd2106 cs_X8_reads ce_X8_reads cd_X8_reads (by decide) (by decide) (Nat.le_of_ble_eq_true rfl) dX8_readsBox_12 rfl) (fun v3 s4 _ => ?_)
    refine lx_if_eq hC 27 dX8_readsBox_15 (by decide) ?_ ?_
    · skip
      refine lx_iconstv (v := 0) hC dX8_readsBox_27 rfl ?_
      exact lx_zret hC rfl hr rfl dX8_readsBox_28
    · skip
      refine lx_aload_n hC dX8_readsBox_18 rfl 0 rfl ?_
      refine lx_bipush (v := 32) hC dX8_readsBox_19 (by decide) ?_
      refine lx_callX hC hx (sat_X8_reads (xl X) hl 32 s4) (run_V (as := [.int 32]) (rest := []) hC hE ly8 rfl cw_X8_reads ci_X8_reads wd2106 cs_X8_reads ce_X8_reads cd_X8_reads (by decide) (by decide) (Nat.le_of_ble_eq_true rfl) dX8_readsBox_21 rfl) (fun v5 s6 _ => ?_)
      refine lx_if_ne hC 29 dX8_readsBox_24 (by decide) ?_ ?_
      · skip
        refine lx_aload_n hC dX8_readsBox_29 rfl 0 rfl ?_
        refine lx_getR (q := 1032) hC ly8 rfl 15 (by decide) rfl rfl inX8 wd1620 dX8_readsBox_30 ?_
        refine lx_iconstv (v := 0) hC dX8_readsBox_33 rfl ?_
        refine lx_aload_n hC dX8_readsBox_34 rfl 0 rfl ?_
        refine lx_callP hC hx (sat_X8_nextChar (xl X) hl s6) (run_V (as := []) (rest := [.int 0, .ref 1032]) hC hE ly8 rfl cw_X8_nextChar ci_X8_nextChar wd2102 cs_X8_nextChar ce_X8_nextChar cd_X8_nextChar (by decide) (by decide) (Nat.le_of_ble_eq_true rfl) dX8_readsBox_35 rfl) (fun v7 _ => ?_)
        refine lx_iastore hC ly1032 dX8_readsBox_38 (fun s8 => ?_)
        refine lx_aload_n hC dX8_readsBox_39 rfl 0 rfl ?_
        refine lx_callP hC hx (sat_X8_nextChar (xl X) hl s8) (run_V (as := []) (rest := []) hC hE ly8 rfl cw_X8_nextChar ci_X8_nextChar wd2102 cs_X8_nextChar ce_X8_nextChar cd_X8_nextChar (by decide) (by decide) (Nat.le_of_ble_eq_true rfl) dX8_readsBox_40 rfl) (fun v9 _ => ?_)
        refine lx_callP hC hx (sat_X8_isBox (xl X) hl v9 s8) (run_S (as := [.int v9]) (rest := []) hC hE cw_X8_isBox ci_X8_isBox wd1848 cs_X8_isBox cd_X8_isBox (by decide) (by decide) (Nat.le_of_ble_eq_true rfl) dX8_readsBox_43 rfl) (fun v10 _ => ?_)
        refine lx_if_ne hC 51 dX8_readsBox_46 (by decide) ?_ ?_
        · skip
          refine lx_aload_n hC dX8_readsBox_51 rfl 0 rfl ?_
          refine lx_dup_ref hC dX8_readsBox_52 ?_
          refine lx_getI hC ly8 rfl 12 (by decide) rfl inX8 wd1617 dX8_readsBox_53 ?_
          refine lx_iconstv (v := 1) hC dX8_readsBox_56 rfl ?_
          refine lx_iadd hC dX8_readsBox_57 ?_
          refine lx_putI hC ly8 rfl 12 (by decide) rfl tyX8 tyX8_ok nmX8 rfl rfl rfl inX8 wd1617 dX8_readsBox_58 (fun s11 => ?_)
          refine lx_aload_n hC dX8_readsBox_61 rfl 0 rfl ?_
          refine lx_bipush (v := 32) hC dX8_readsBox_62 (by decide) ?_
          refine lx_callX hC hx (sat_X8_reads (xl X) hl 32 s11) (run_V (as := [.int 32]) (rest := []) hC hE ly8 rfl cw_X8_reads ci_X8_reads wd2106 cs_X8_reads ce_X8_reads cd_X8_reads (by decide) (by decide) (Nat.le_of_ble_eq_true rfl) dX8_readsBox_64 rfl) (fun v12 s13 _ => ?_)
          refine lx_if_eq hC 82 dX8_readsBox_67 (by decide) ?_ ?_
          · skip
            refine lx_iconstv (v := 0) hC dX8_readsBox_82 rfl ?_
            exact lx_zret hC rfl hr rfl dX8_readsBox_83
          · skip
            refine lx_aload_n hC dX8_readsBox_70 rfl 0 rfl ?_
            refine lx_iconstv (v := 1) hC dX8_readsBox_71 rfl ?_
            refine lx_callX hC hx (sat_X8_readsDigit (xl X) hl 1 s13) (run_V (as := [.int 1]) (rest := []) hC hE ly8 rfl cw_X8_readsDigit ci_X8_readsDigit wd2118 cs_X8_readsDigit ce_X8_readsDigit cd_X8_readsDigit (by decide) (by decide) (Nat.le_of_ble_eq_true rfl) dX8_readsBox_72 rfl) (fun v14 s15 _ => ?_)
            refine lx_if_eq hC 82 dX8_readsBox_75 (by decide) ?_ ?_
            · skip
              refine lx_iconstv (v := 0) hC dX8_readsBox_82 rfl ?_
              exact lx_zret hC rfl hr rfl dX8_readsBox_83
            · skip
              refine lx_iconstv (v := 1) hC dX8_readsBox_78 rfl ?_
              refine lx_goto hC 83 dX8_readsBox_79 (by decide) ?_
              exact lx_zret hC rfl hr rfl dX8_readsBox_83
        · skip
          refine lx_iconstv (v := 0) hC dX8_readsBox_49 rfl ?_
          exact lx_zret hC rfl hr rfl dX8_readsBox_50
      · skip
        refine lx_iconstv (v := 0) hC dX8_readsBox_27 rfl ?_
        exact lx_zret hC rfl hr rfl dX8_readsBox_28
def m_X8_readsLock (s : Mem) : Res Int32 := bindR (m_X8_reads 111 s) (fun v1 s2 => if v1 = 0 then (some (.inl 0, s2)) else (bindR (m_X8_reads 99 s2) (fun v3 s4 => if v3 = 0 then (some (.inl 0, s4)) else (bindR (m_X8_reads 107 s4) (fun v5 s6 => if v5 = 0 then (some (.inl 0, s6)) else (bindR (m_X8_reads 32 s6) (fun v7 s8 => if v7 = 0 then (some (.inl 0, s8)) else (bindR (m_X8_readsDigit 0 s8) (fun v9 s10 => if v9 = 0 then (some (.inl 0, s10)) else (some (.inl 1, s10)))))))))))
set_option maxRecDepth 100000 in
set_option maxHeartbeats 2000000 in
theorem n_X8_readsLock (s : Mem) : Mn s (m_X8_readsLock s) := by
  unfold m_X8_readsLock
  refine mn_bind (n_X8_reads 111 s) (fun v1 s2 => ?_)
  refine mn_if ?_ ?_
  · skip
    exact mn_some
  · skip
    refine mn_bind (n_X8_reads 99 s2) (fun v3 s4 => ?_)
    refine mn_if ?_ ?_
    · skip
      exact mn_some
    · skip
      refine mn_bind (n_X8_reads 107 s4) (fun v5 s6 => ?_)
      refine mn_if ?_ ?_
      · skip
        exact mn_some
      · skip
        refine mn_bind (n_X8_reads 32 s6) (fun v7 s8 => ?_)
        refine mn_if ?_ ?_
        · skip
          exact mn_some
        · skip
          refine mn_bind (n_X8_readsDigit 0 s8) (fun v9 s10 => ?_)
          refine mn_if ?_ ?_
          · skip
            exact mn_some
          · skip
            exact mn_some
set_option maxRecDepth 100000 in
set_option maxHeartbeats 2000000 in
theorem sat_X8_readsLock (l : Launch) (hl : l.stackTraces = false) (s : Mem) : Sat l yX8_readsLock (.code yX8_readsLock cX8_readsLock 1 (some .boolean)) 33 563 (fun x => some (.int x)) [.ref 8] s (m_X8_readsLock s) := by
  refine sat_of hl (by decide) (Nat.le_of_ble_eq_true rfl) (fun X V A adV hxl hC hE hx hr => ?_) (n_X8_readsLock s)
  subst hxl
  show LX X V A 33 563 (nC s) (nS s) _ 0 [(0, .ref 8)] [] s _
  unfold m_X8_readsLock
  refine lx_aload_n hC dX8_readsLock_0 rfl 0 rfl ?_
  refine lx_bipush (v := 111) hC dX8_readsLock_1 (by decide) ?_
  refine lx_callX hC hx (sat_X8_reads (xl X) hl 111 s) (run_V (as := [.int 111]) (rest := []) hC hE ly8 rfl cw_X8_reads ci_X8_reads wd2106 cs_X8_reads ce_X8_reads cd_X8_reads (by decide) (by decide) (Nat.le_of_ble_eq_true rfl) dX8_readsLock_3 rfl) (fun v1 s2 _ => ?_)
  refine lx_if_eq hC 48 dX8_readsLock_6 (by decide) ?_ ?_
  · skip
    refine lx_iconstv (v := 0) hC dX8_readsLock_48 rfl ?_
    exact lx_zret hC rfl hr rfl dX8_readsLock_49
  · skip
    refine lx_aload_n hC dX8_readsLock_9 rfl 0 rfl ?_
    refine lx_bipush (v := 99) hC dX8_readsLock_10 (by decide) ?_
    refine lx_callX hC hx (sat_X8_reads (xl X) hl 99 s2) (run_V (as := [.int 99]) (rest := []) hC hE ly8 rfl cw_X8_reads ci_X8_reads wd2106 cs_X8_reads ce_X8_reads cd_X8_reads (by decide) (by decide) (Nat.le_of_ble_eq_true rfl) dX8_readsLock_12 rfl) (fun v3 s4 _ => ?_)
    refine lx_if_eq hC 48 dX8_readsLock_15 (by decide) ?_ ?_
    · skip
      refine lx_iconstv (v := 0) hC dX8_readsLock_48 rfl ?_
      exact lx_zret hC rfl hr rfl dX8_readsLock_49
    · skip
      refine lx_aload_n hC dX8_readsLock_18 rfl 0 rfl ?_
      refine lx_bipush (v := 107) hC dX8_readsLock_19 (by decide) ?_
      refine lx_callX hC hx (sat_X8_reads (xl X) hl 107 s4) (run_V (as := [.int 107]) (rest := []) hC hE ly8 rfl cw_X8_reads ci_X8_reads wd2106 cs_X8_reads ce_X8_reads cd_X8_reads (by decide) (by decide) (Nat.le_of_ble_eq_true rfl) dX8_readsLock_21 rfl) (fun v5 s6 _ => ?_)
      refine lx_if_eq hC 48 dX8_readsLock_24 (by decide) ?_ ?_
      · skip
        refine lx_iconstv (v := 0) hC dX8_readsLock_48 rfl ?_
        exact lx_zret hC rfl hr rfl dX8_readsLock_49
      · skip
        refine lx_aload_n hC dX8_readsLock_27 rfl 0 rfl ?_
        refine lx_bipush (v := 32) hC dX8_readsLock_28 (by decide) ?_
        refine lx_callX hC hx (sat_X8_reads (xl X) hl 32 s6) (run_V (as := [.int 32]) (rest := []) hC hE ly8 rfl cw_X8_reads ci_X8_reads wd2106 cs_X8_reads ce_X8_reads cd_X8_reads (by decide) (by decide) (Nat.le_of_ble_eq_true rfl) dX8_readsLock_30 rfl) (fun v7 s8 _ => ?_)
        refine lx_if_eq hC 48 dX8_readsLock_33 (by decide) ?_ ?_
        · skip
          refine lx_iconstv (v := 0) hC dX8_readsLock_48 rfl ?_
          exact lx_zret hC rfl hr rfl dX8_readsLock_49
        · skip
          refine lx_aload_n hC dX8_readsLock_36 rfl 0 rfl ?_
          refine lx_iconstv (v := 0) hC dX8_readsLock_37 rfl ?_
          refine lx_callX hC hx (sat_X8_readsDigit (xl X) hl 0 s8) (run_V (as := [.int 0]) (rest := []) hC hE ly8 rfl cw_X8_readsDigit ci_X8_readsDigit wd2118 cs_X8_readsDigit ce_X8_readsDigit cd_X8_readsDigit (by decide) (by decide) (Nat.le_of_ble_eq_true rfl) dX8_readsLock_38 rfl) (fun v9 s10 _ => ?_)
          refine lx_if_eq hC 48 dX8_readsLock_41 (by decide) ?_ ?_
          · skip
            refine lx_iconstv (v := 0) hC dX8_readsLock_48 rfl ?_
            exact lx_zret hC rfl hr rfl dX8_readsLock_49
          · skip
            refine lx_iconstv (v := 1) hC dX8_readsLock_44 rfl ?_
            refine lx_goto hC 49 dX8_readsLock_45 (by decide) ?_
            exact lx_zret hC rfl hr rfl dX8_readsLock_49
def m_X8_readsSpread (s : Mem) : Res Int32 := bindR (m_X8_reads 112 s) (fun v1 s2 => if v1 = 0 then (some (.inl 0, s2)) else (bindR (m_X8_reads 114 s2) (fun v3 s4 => if v3 = 0 then (some (.inl 0, s4)) else (bindR (m_X8_reads 101 s4) (fun v5 s6 => if v5 = 0 then (some (.inl 0, s6)) else (bindR (m_X8_reads 97 s6) (fun v7 s8 => if v7 = 0 then (some (.inl 0, s8)) else (bindR (m_X8_reads 100 s8) (fun v9 s10 => if v9 = 0 then (some (.inl 0, s10)) else (bindR (m_X8_reads 32 s10) (fun v11 s12 => if v11 = 0 then (some (.inl 0, s12)) else (bindR (m_X8_readsDigit 0 s12) (fun v13 s14 => if v13 = 0 then (some (.inl 0, s14)) else (some (.inl 1, s14)))))))))))))))
set_option maxRecDepth 100000 in
set_option maxHeartbeats 2000000 in
theorem n_X8_readsSpread (s : Mem) : Mn s (m_X8_readsSpread s) := by
  unfold m_X8_readsSpread
  refine mn_bind (n_X8_reads 112 s) (fun v1 s2 => ?_)
  refine mn_if ?_ ?_
  · skip
    exact mn_some
  · skip
    refine mn_bind (n_X8_reads 114 s2) (fun v3 s4 => ?_)
    refine mn_if ?_ ?_
    · skip
      exact mn_some
    · skip
      refine mn_bind (n_X8_reads 101 s4) (fun v5 s6 => ?_)
      refine mn_if ?_ ?_
      · skip
        exact mn_some
      · skip
        refine mn_bind (n_X8_reads 97 s6) (fun v7 s8 => ?_)
        refine mn_if ?_ ?_
        · skip
          exact mn_some
        · skip
          refine mn_bind (n_X8_reads 100 s8) (fun v9 s10 => ?_)
          refine mn_if ?_ ?_
          · skip
            exact mn_some
          · skip
            refine mn_bind (n_X8_reads 32 s10) (fun v11 s12 => ?_)
            refine mn_if ?_ ?_
            · skip
              exact mn_some
            · skip
              refine mn_bind (n_X8_readsDigit 0 s12) (fun v13 s14 => ?_)
              refine mn_if ?_ ?_
              · skip
                exact mn_some
              · skip
                exact mn_some
set_option maxRecDepth 100000 in
set_option maxHeartbeats 2000000 in
theorem sat_X8_readsSpread (l : Launch) (hl : l.stackTraces = false) (s : Mem) : Sat l yX8_readsSpread (.code yX8_readsSpread cX8_readsSpread 1 (some .boolean)) 33 563 (fun x => some (.int x)) [.ref 8] s (m_X8_readsSpread s) := by
  refine sat_of hl (by decide) (Nat.le_of_ble_eq_true rfl) (fun X V A adV hxl hC hE hx hr => ?_) (n_X8_readsSpread s)
  subst hxl
  show LX X V A 33 563 (nC s) (nS s) _ 0 [(0, .ref 8)] [] s _
  unfold m_X8_readsSpread
  refine lx_aload_n hC dX8_readsSpread_0 rfl 0 rfl ?_
  refine lx_bipush (v := 112) hC dX8_readsSpread_1 (by decide) ?_
  refine lx_callX hC hx (sat_X8_reads (xl X) hl 112 s) (run_V (as := [.int 112]) (rest := []) hC hE ly8 rfl cw_X8_reads ci_X8_reads wd2106 cs_X8_reads ce_X8_reads cd_X8_reads (by decide) (by decide) (Nat.le_of_ble_eq_true rfl) dX8_readsSpread_3 rfl) (fun v1 s2 _ => ?_)
  refine lx_if_eq hC 66 dX8_readsSpread_6 (by decide) ?_ ?_
  · skip
    refine lx_iconstv (v := 0) hC dX8_readsSpread_66 rfl ?_
    exact lx_zret hC rfl hr rfl dX8_readsSpread_67
  · skip
    refine lx_aload_n hC dX8_readsSpread_9 rfl 0 rfl ?_
    refine lx_bipush (v := 114) hC dX8_readsSpread_10 (by decide) ?_
    refine lx_callX hC hx (sat_X8_reads (xl X) hl 114 s2) (run_V (as := [.int 114]) (rest := []) hC hE ly8 rfl cw_X8_reads ci_X8_reads wd2106 cs_X8_reads ce_X8_reads cd_X8_reads (by decide) (by decide) (Nat.le_of_ble_eq_true rfl) dX8_readsSpread_12 rfl) (fun v3 s4 _ => ?_)
    refine lx_if_eq hC 66 dX8_readsSpread_15 (by decide) ?_ ?_
    · skip
      refine lx_iconstv (v := 0) hC dX8_readsSpread_66 rfl ?_
      exact lx_zret hC rfl hr rfl dX8_readsSpread_67
    · skip
      refine lx_aload_n hC dX8_readsSpread_18 rfl 0 rfl ?_
      refine lx_bipush (v := 101) hC dX8_readsSpread_19 (by decide) ?_
      refine lx_callX hC hx (sat_X8_reads (xl X) hl 101 s4) (run_V (as := [.int 101]) (rest := []) hC hE ly8 rfl cw_X8_reads ci_X8_reads wd2106 cs_X8_reads ce_X8_reads cd_X8_reads (by decide) (by decide) (Nat.le_of_ble_eq_true rfl) dX8_readsSpread_21 rfl) (fun v5 s6 _ => ?_)
      refine lx_if_eq hC 66 dX8_readsSpread_24 (by decide) ?_ ?_
      · skip
        refine lx_iconstv (v := 0) hC dX8_readsSpread_66 rfl ?_
        exact lx_zret hC rfl hr rfl dX8_readsSpread_67
      · skip
        refine lx_aload_n hC dX8_readsSpread_27 rfl 0 rfl ?_
        refine lx_bipush (v := 97) hC dX8_readsSpread_28 (by decide) ?_
        refine lx_callX hC hx (sat_X8_reads (xl X) hl 97 s6) (run_V (as := [.int 97]) (rest := []) hC hE ly8 rfl cw_X8_reads ci_X8_reads wd2106 cs_X8_reads ce_X8_reads cd_X8_reads (by decide) (by decide) (Nat.le_of_ble_eq_true rfl) dX8_readsSpread_30 rfl) (fun v7 s8 _ => ?_)
        refine lx_if_eq hC 66 dX8_readsSpread_33 (by decide) ?_ ?_
        · skip
          refine lx_iconstv (v := 0) hC dX8_readsSpread_66 rfl ?_
          exact lx_zret hC rfl hr rfl dX8_readsSpread_67
        · skip
          refine lx_aload_n hC dX8_readsSpread_36 rfl 0 rfl ?_
          refine lx_bipush (v := 100) hC dX8_readsSpread_37 (by decide) ?_
          refine lx_callX hC hx (sat_X8_reads (xl X) hl 100 s8) (run_V (as := [.int 100]) (rest := []) hC hE ly8 rfl cw_X8_reads ci_X8_reads wd2106 cs_X8_reads ce_X8_reads cd_X8_reads (by decide) (by decide) (Nat.le_of_ble_eq_true rfl) dX8_readsSpread_39 rfl) (fun v9 s10 _ => ?_)
          refine lx_if_eq hC 66 dX8_readsSpread_42 (by decide) ?_ ?_
          · skip
            refine lx_iconstv (v := 0) hC dX8_readsSpread_66 rfl ?_
            exact lx_zret hC rfl hr rfl dX8_readsSpread_67
          · skip
            refine lx_aload_n hC dX8_readsSpread_45 rfl 0 rfl ?_
            refine lx_bipush (v := 32) hC dX8_readsSpread_46 (by decide) ?_
            refine lx_callX hC hx (sat_X8_reads (xl X) hl 32 s10) (run_V (as := [.int 32]) (rest := []) hC hE ly8 rfl cw_X8_reads ci_X8_reads wd2106 cs_X8_reads ce_X8_reads cd_X8_reads (by decide) (by decide) (Nat.le_of_ble_eq_true rfl) dX8_readsSpread_48 rfl) (fun v11 s12 _ => ?_)
            refine lx_if_eq hC 66 dX8_readsSpread_51 (by decide) ?_ ?_
            · skip
              refine lx_iconstv (v := 0) hC dX8_readsSpread_66 rfl ?_
              exact lx_zret hC rfl hr rfl dX8_readsSpread_67
            · skip
              refine lx_aload_n hC dX8_readsSpread_54 rfl 0 rfl ?_
              refine lx_iconstv (v := 0) hC dX8_readsSpread_55 rfl ?_
              refine lx_callX hC hx (sat_X8_readsDigit (xl X) hl 0 s12) (run_V (as := [.int 0]) (rest := []) hC hE ly8 rfl cw_X8_readsDigit ci_X8_readsDigit wd2118 cs_X8_readsDigit ce_X8_readsDigit cd_X8_readsDigit (by decide) (by decide) (Nat.le_of_ble_eq_true rfl) dX8_readsSpread_56 rfl) (fun v13 s14 _ => ?_)
              refine lx_if_eq hC 66 dX8_readsSpread_59 (by decide) ?_ ?_
              · skip
                refine lx_iconstv (v := 0) hC dX8_readsSpread_66 rfl ?_
                exact lx_zret hC rfl hr rfl dX8_readsSpread_67
              · skip
                refine lx_iconstv (v := 1) hC dX8_readsSpread_62 rfl ?_
                refine lx_goto hC 67 dX8_readsSpread_63 (by decide) ?_
                exact lx_zret hC rfl hr rfl dX8_readsSpread_67
def m_X8_readsCommand (s : Mem) : Res Int32 := bindP (m_X8_nextChar s) (fun v1 => vl (pI s 8 16 v1) (fun s2 => bindR (m_X8_reads 114 s2) (fun v3 s4 => if v3 = 0 then (bindR (m_X8_reads 112 s4) (fun v5 s6 => if v5 = 0 then (bindR (m_X8_reads 100 s6) (fun v7 s8 => if v7 = 0 then (bindR (m_X8_reads 101 s8) (fun v9 s10 => if v9 = 0 then (bindR (m_X8_reads 109 s10) (fun v11 s12 => if v11 = 0 then (bindR (m_X8_reads 104 s12) (fun v13 s14 => if v13 = 0 then (bindR (m_X8_reads 108 s14) (fun v15 s16 => if v15 = 0 then (bindR (m_X8_reads 117 s16) (fun v17 s18 => if v17 = 0 then (bindR (m_X8_reads 98 s18) (fun v19 s20 => if v19 = 0 then (bindR (m_X8_reads 115 s20) (fun v21 s22 => if v21 = 0 then (some (.inl 0, s22)) else (bindR (m_X8_readsSpread s22) (fun v23 s24 => if v23 = 0 then (some (.inl 0, s24)) else (some (.inl 1, s24)))))) else (bindR (m_X8_readsBox s20) (fun v25 s26 => if vp_nar .boolean v25 = v25 then some (.inl v25, s26) else none)))) else (bindR (m_X8_reads 110 s18) (fun v27 s28 => if v27 = 0 then (some (.inl 0, s28)) else (bindR (m_X8_reads 108 s28) (fun v29 s30 => if v29 = 0 then (some (.inl 0, s30)) else (bindR (m_X8_readsLock s30) (fun v31 s32 => if v31 = 0 then (some (.inl 0, s32)) else (some (.inl 1, s32)))))))))) else (bindR (m_X8_readsLock s16) (fun v33 s34 => if vp_nar .boolean v33 = v33 then some (.inl v33, s34) else none)))) else (bindR (m_X8_reads 101 s14) (fun v35 s36 => if v35 = 0 then (some (.inl 0, s36)) else (bindR (m_X8_reads 105 s36) (fun v37 s38 => if v37 = 0 then (some (.inl 0, s38)) else (bindR (m_X8_reads 114 s38) (fun v39 s40 => if v39 = 0 then (some (.inl 0, s40)) else (bindR (m_X8_reads 32 s40) (fun v41 s42 => if v41 = 0 then (some (.inl 0, s42)) else (bindR (m_X8_readsNumber 0 s42) (fun v43 s44 => if v43 = 0 then (some (.inl 0, s44)) else (bindR (m_X8_reads 32 s44) (fun v45 s46 => if v45 = 0 then (some (.inl 0, s46)) else (bindR (m_X8_readsNumber 1 s46) (fun v47 s48 => if v47 = 0 then (some (.inl 0, s48)) else (some (.inl 1, s48)))))))))))))))))) else (bindR (m_X8_reads 111 s12) (fun v49 s50 => if v49 = 0 then (some (.inl 0, s50)) else (bindR (m_X8_reads 118 s50) (fun v51 s52 => if v51 = 0 then (some (.inl 0, s52)) else (bindR (m_X8_reads 101 s52) (fun v53 s54 => if v53 = 0 then (some (.inl 0, s54)) else (bindR (m_X8_reads 32 s54) (fun v55 s56 => if v55 = 0 then (some (.inl 0, s56)) else (bindR (m_X8_readsNumber 0 s56) (fun v57 s58 => if v57 = 0 then (some (.inl 0, s58)) else (bindR (m_X8_reads 32 s58) (fun v59 s60 => if v59 = 0 then (some (.inl 0, s60)) else (bindR (m_X8_readsDigit 1 s60) (fun v61 s62 => if v61 = 0 then (some (.inl 0, s62)) else (some (.inl 1, s62)))))))))))))))))) else (bindR (m_X8_reads 99 s10) (fun v63 s64 => if v63 = 0 then (some (.inl 0, s64)) else (bindR (m_X8_reads 104 s64) (fun v65 s66 => if v65 = 0 then (some (.inl 0, s66)) else (bindR (m_X8_reads 111 s66) (fun v67 s68 => if v67 = 0 then (some (.inl 0, s68)) else (bindR (m_X8_reads 32 s68) (fun v69 s70 => if v69 = 0 then (some (.inl 0, s70)) else (bindR (m_X8_readsDigit 0 s70) (fun v71 s72 => if v71 = 0 then (some (.inl 0, s72)) else (bindR (m_X8_reads 32 s72) (fun v73 s74 => if v73 = 0 then (some (.inl 0, s74)) else (bindR (m_X8_readsNumber 1 s74) (fun v75 s76 => if v75 = 0 then (some (.inl 0, s76)) else (some (.inl 1, s76)))))))))))))))))) else (bindR (m_X8_readsD s8) (fun v77 s78 => if vp_nar .boolean v77 = v77 then some (.inl v77, s78) else none)))) else (bindR (m_X8_readsPhantoms s6) (fun v79 s80 => if vp_nar .boolean v79 = v79 then some (.inl v79, s80) else none)))) else (bindR (m_X8_readsR s4) (fun v81 s82 => if vp_nar .boolean v81 = v81 then some (.inl v81, s82) else none)))))
set_option maxRecDepth 100000 in
set_option maxHeartbeats 2000000 in
theorem n_X8_readsCommand (s : Mem) : Mn s (m_X8_readsCommand s) := by
  unfold m_X8_readsCommand
  refine mn_bindP (fun v1 => ?_)
  refine mn_put (fun s2 => ?_)
  refine mn_bind (n_X8_reads 114 s2) (fun v3 s4 => ?_)
  refine mn_if ?_ ?_
  · skip
    refine mn_bind (n_X8_reads 112 s4) (fun v5 s6 => ?_)
    refine mn_if ?_ ?_
    · skip
      refine mn_bind (n_X8_reads 100 s6) (fun v7 s8 => ?_)
      refine mn_if ?_ ?_
      · skip
        refine mn_bind (n_X8_reads 101 s8) (fun v9 s10 => ?_)
        refine mn_if ?_ ?_
        · skip
          refine mn_bind (n_X8_reads 109 s10) (fun v11 s12 => ?_)
          refine mn_if ?_ ?_
          · skip
            refine mn_bind (n_X8_reads 104 s12) (fun v13 s14 => ?_)
            refine mn_if ?_ ?_
            · skip
              refine mn_bind (n_X8_reads 108 s14) (fun v15 s16 => ?_)
              refine mn_if ?_ ?_
              · skip
                refine mn_bind (n_X8_reads 117 s16) (fun v17 s18 => ?_)
                refine mn_if ?_ ?_
                · skip
                  refine mn_bind (n_X8_reads 98 s18) (fun v19 s20 => ?_)
                  refine mn_if ?_ ?_
                  · skip
                    refine mn_bind (n_X8_reads 115 s20) (fun v21 s22 => ?_)
                    refine mn_if ?_ ?_
                    · skip
                      exact mn_some
                    · skip
                      refine mn_bind (n_X8_readsSpread s22) (fun v23 s24 => ?_)
                      refine mn_if ?_ ?_
                      · skip
                        exact mn_some
                      · skip
                        exact mn_some
                  · skip
                    refine mn_bind (n_X8_readsBox s20) (fun v25 s26 => ?_)
                    exact mn_if mn_some mn_none
                · skip
                  refine mn_bind (n_X8_reads 110 s18) (fun v27 s28 => ?_)
                  refine mn_if ?_ ?_
                  · skip
                    exact mn_some
                  · skip
                    refine mn_bind (n_X8_reads 108 s28) (fun v29 s30 => ?_)
                    refine mn_if ?_ ?_
                    · skip
                      exact mn_some
                    · skip
                      refine mn_bind (n_X8_readsLock s30) (fun v31 s32 => ?_)
                      refine mn_if ?_ ?_
                      · skip
                        exact mn_some
                      · skip
                        exact mn_some
              · skip
                refine mn_bind (n_X8_readsLock s16) (fun v33 s34 => ?_)
                exact mn_if mn_some mn_none
            · skip
              refine mn_bind (n_X8_reads 101 s14) (fun v35 s36 => ?_)
              refine mn_if ?_ ?_
              · skip
                exact mn_some
              · skip
                refine mn_bind (n_X8_reads 105 s36) (fun v37 s38 => ?_)
                refine mn_if ?_ ?_
                · skip
                  exact mn_some
                · skip
                  refine mn_bind (n_X8_reads 114 s38) (fun v39 s40 => ?_)
                  refine mn_if ?_ ?_
                  · skip
                    exact mn_some
                  · skip
                    refine mn_bind (n_X8_reads 32 s40) (fun v41 s42 => ?_)
                    refine mn_if ?_ ?_
                    · skip
                      exact mn_some
                    · skip
                      refine mn_bind (n_X8_readsNumber 0 s42) (fun v43 s44 => ?_)
                      refine mn_if ?_ ?_
                      · skip
                        exact mn_some
                      · skip
                        refine mn_bind (n_X8_reads 32 s44) (fun v45 s46 => ?_)
                        refine mn_if ?_ ?_
                        · skip
                          exact mn_some
                        · skip
                          refine mn_bind (n_X8_readsNumber 1 s46) (fun v47 s48 => ?_)
                          refine mn_if ?_ ?_
                          · skip
                            exact mn_some
                          · skip
                            exact mn_some
          · skip
            refine mn_bind (n_X8_reads 111 s12) (fun v49 s50 => ?_)
            refine mn_if ?_ ?_
            · skip
              exact mn_some
            · skip
              refine mn_bind (n_X8_reads 118 s50) (fun v51 s52 => ?_)
              refine mn_if ?_ ?_
              · skip
                exact mn_some
              · skip
                refine mn_bind (n_X8_reads 101 s52) (fun v53 s54 => ?_)
                refine mn_if ?_ ?_
                · skip
                  exact mn_some
                · skip
                  refine mn_bind (n_X8_reads 32 s54) (fun v55 s56 => ?_)
                  refine mn_if ?_ ?_
                  · skip
                    exact mn_some
                  · skip
                    refine mn_bind (n_X8_readsNumber 0 s56) (fun v57 s58 => ?_)
                    refine mn_if ?_ ?_
                    · skip
                      exact mn_some
                    · skip
                      refine mn_bind (n_X8_reads 32 s58) (fun v59 s60 => ?_)
                      refine mn_if ?_ ?_
                      · skip
                        exact mn_some
                      · skip
                        refine mn_bind (n_X8_readsDigit 1 s60) (fun v61 s62 => ?_)
                        refine mn_if ?_ ?_
                        · skip
                          exact mn_some
                        · skip
                          exact mn_some
        · skip
          refine mn_bind (n_X8_reads 99 s10) (fun v63 s64 => ?_)
          refine mn_if ?_ ?_
          · skip
            exact mn_some
          · skip
            refine mn_bind (n_X8_reads 104 s64) (fun v65 s66 => ?_)
            refine mn_if ?_ ?_
            · skip
              exact mn_some
            · skip
              refine mn_bind (n_X8_reads 111 s66) (fun v67 s68 => ?_)
              refine mn_if ?_ ?_
              · skip
                exact mn_some
              · skip
                refine mn_bind (n_X8_reads 32 s68) (fun v69 s70 => ?_)
                refine mn_if ?_ ?_
                · skip
                  exact mn_some
                · skip
                  refine mn_bind (n_X8_readsDigit 0 s70) (fun v71 s72 => ?_)
                  refine mn_if ?_ ?_
                  · skip
                    exact mn_some
                  · skip
                    refine mn_bind (n_X8_reads 32 s72) (fun v73 s74 => ?_)
                    refine mn_if ?_ ?_
                    · skip
                      exact mn_some
                    · skip
                      refine mn_bind (n_X8_readsNumber 1 s74) (fun v75 s76 => ?_)
                      refine mn_if ?_ ?_
                      · skip
                        exact mn_some
                      · skip
                        exact mn_some
      · skip
        refine mn_bind (n_X8_readsD s8) (fun v77 s78 => ?_)
        exact mn_if mn_some mn_none
    · skip
      refine mn_bind (n_X8_readsPhantoms s6) (fun v79 s80 => ?_)
      exact mn_if mn_some mn_none
  · skip
    refine mn_bind (n_X8_readsR s4) (fun v81 s82 => ?_)
    exact mn_if mn_some mn_none
set_option maxRecDepth 100000 in
set_option maxHeartbeats 2000000 in
theorem sat_X8_readsCommand (l : Launch) (hl : l.stackTraces = false) (s : Mem) : Sat l yX8_readsCommand (.code yX8_readsCommand cX8_readsCommand 1 (some .boolean)) 35 605 (fun x => some (.int x)) [.ref 8] s (m_X8_readsCommand s) := by
  refine sat_of hl (by decide) (Nat.le_of_ble_eq_true rfl) (fun X V A adV hxl hC hE hx hr => ?_) (n_X8_readsCommand s)
  subst hxl
  show LX X V A 35 605 (nC s) (nS s) _ 0 [(0, .ref 8)] [] s _
  unfold m_X8_readsCommand
  refine lx_aload_n hC dX8_readsCommand_0 rfl 0 rfl ?_
  refine lx_aload_n hC dX8_readsCommand_1 rfl 0 rfl ?_
  refine lx_callP hC hx (sat_X8_nextChar (xl X) hl s) (run_V (as := []) (rest := [.ref 8]) hC hE ly8 rfl cw_X8_nextChar ci_X8_nextChar wd2102 cs_X8_nextChar ce_X8_nextChar cd_X8_nextChar (by decide) (by decide) (Nat.le_of_ble_eq_true rfl) dX8_readsCommand_2 rfl) (fun v1 _ => ?_)
  refine lx_putI hC ly8 rfl 16 (by decide) rfl tyX8 tyX8_ok nmX8 rfl rfl rfl inX8 wd1621 dX8_readsCommand_5 (fun s2 => ?_)
  refine lx_aload_n hC dX8_readsCommand_8 rfl 0 rfl ?_
  refine lx_bipush (v := 114) hC dX8_readsCommand_9 (by decide) ?_
  refine lx_callX hC hx (sat_X8_reads (xl X) hl 114 s2) (run_V (as := [.int 114]) (rest := []) hC hE ly8 rfl cw_X8_reads ci_X8_reads wd2106 cs_X8_reads ce_X8_reads cd_X8_reads (by decide) (by decide) (Nat.le_of_ble_eq_true rfl) dX8_readsCommand_11 rfl) (fun v3 s4 _ => ?_)
  refine lx_if_eq hC 22 dX8_readsCommand_14 (by decide) ?_ ?_
  · skip
    refine lx_aload_n hC dX8_readsCommand_22 rfl 0 rfl ?_
    refine lx_bipush (v := 112) hC dX8_readsCommand_23 (by decide) ?_
    refine lx_callX hC hx (sat_X8_reads (xl X) hl 112 s4) (run_V (as := [.int 112]) (rest := []) hC hE ly8 rfl cw_X8_reads ci_X8_reads wd2106 cs_X8_reads ce_X8_reads cd_X8_reads (by decide) (by decide) (Nat.le_of_ble_eq_true rfl) dX8_readsCommand_25 rfl) (fun v5 s6 _ => ?_)
    refine lx_if_eq hC 36 dX8_readsCommand_28 (by decide) ?_ ?_
    · skip
      refine lx_aload_n hC dX8_readsCommand_36 rfl 0 rfl ?_
      refine lx_bipush (v := 100) hC dX8_readsCommand_37 (by decide) ?_
      refine lx_callX hC hx (sat_X8_reads (xl X) hl 100 s6) (run_V (as := [.int 100]) (rest := []) hC hE ly8 rfl cw_X8_reads ci_X8_reads wd2106 cs_X8_reads ce_X8_reads cd_X8_reads (by decide) (by decide) (Nat.le_of_ble_eq_true rfl) dX8_readsCommand_39 rfl) (fun v7 s8 _ => ?_)
      refine lx_if_eq hC 50 dX8_readsCommand_42 (by decide) ?_ ?_
      · skip
        refine lx_aload_n hC dX8_readsCommand_50 rfl 0 rfl ?_
        refine lx_bipush (v := 101) hC dX8_readsCommand_51 (by decide) ?_
        refine lx_callX hC hx (sat_X8_reads (xl X) hl 101 s8) (run_V (as := [.int 101]) (rest := []) hC hE ly8 rfl cw_X8_reads ci_X8_reads wd2106 cs_X8_reads ce_X8_reads cd_X8_reads (by decide) (by decide) (Nat.le_of_ble_eq_true rfl) dX8_readsCommand_53 rfl) (fun v9 s10 _ => ?_)
        refine lx_if_eq hC 126 dX8_readsCommand_56 (by decide) ?_ ?_
        · skip
          refine lx_aload_n hC dX8_readsCommand_126 rfl 0 rfl ?_
          refine lx_bipush (v := 109) hC dX8_readsCommand_127 (by decide) ?_
          refine lx_callX hC hx (sat_X8_reads (xl X) hl 109 s10) (run_V (as := [.int 109]) (rest := []) hC hE ly8 rfl cw_X8_reads ci_X8_reads wd2106 cs_X8_reads ce_X8_reads cd_X8_reads (by decide) (by decide) (Nat.le_of_ble_eq_true rfl) dX8_readsCommand_129 rfl) (fun v11 s12 _ => ?_)
          refine lx_if_eq hC 202 dX8_readsCommand_132 (by decide) ?_ ?_
          · skip
            refine lx_aload_n hC dX8_readsCommand_202 rfl 0 rfl ?_
            refine lx_bipush (v := 104) hC dX8_readsCommand_203 (by decide) ?_
            refine lx_callX hC hx (sat_X8_reads (xl X) hl 104 s12) (run_V (as := [.int 104]) (rest := []) hC hE ly8 rfl cw_X8_reads ci_X8_reads wd2106 cs_X8_reads ce_X8_reads cd_X8_reads (by decide) (by decide) (Nat.le_of_ble_eq_true rfl) dX8_readsCommand_205 rfl) (fun v13 s14 _ => ?_)
            refine lx_if_eq hC 278 dX8_readsCommand_208 (by decide) ?_ ?_
            · skip
              refine lx_aload_n hC dX8_readsCommand_278 rfl 0 rfl ?_
              refine lx_bipush (v := 108) hC dX8_readsCommand_279 (by decide) ?_
              refine lx_callX hC hx (sat_X8_reads (xl X) hl 108 s14) (run_V (as := [.int 108]) (rest := []) hC hE ly8 rfl cw_X8_reads ci_X8_reads wd2106 cs_X8_reads ce_X8_reads cd_X8_reads (by decide) (by decide) (Nat.le_of_ble_eq_true rfl) dX8_readsCommand_281 rfl) (fun v15 s16 _ => ?_)
              refine lx_if_eq hC 292 dX8_readsCommand_284 (by decide) ?_ ?_
              · skip
                refine lx_aload_n hC dX8_readsCommand_292 rfl 0 rfl ?_
                refine lx_bipush (v := 117) hC dX8_readsCommand_293 (by decide) ?_
                refine lx_callX hC hx (sat_X8_reads (xl X) hl 117 s16) (run_V (as := [.int 117]) (rest := []) hC hE ly8 rfl cw_X8_reads ci_X8_reads wd2106 cs_X8_reads ce_X8_reads cd_X8_reads (by decide) (by decide) (Nat.le_of_ble_eq_true rfl) dX8_readsCommand_295 rfl) (fun v17 s18 _ => ?_)
                refine lx_if_eq hC 332 dX8_readsCommand_298 (by decide) ?_ ?_
                · skip
                  refine lx_aload_n hC dX8_readsCommand_332 rfl 0 rfl ?_
                  refine lx_bipush (v := 98) hC dX8_readsCommand_333 (by decide) ?_
                  refine lx_callX hC hx (sat_X8_reads (xl X) hl 98 s18) (run_V (as := [.int 98]) (rest := []) hC hE ly8 rfl cw_X8_reads ci_X8_reads wd2106 cs_X8_reads ce_X8_reads cd_X8_reads (by decide) (by decide) (Nat.le_of_ble_eq_true rfl) dX8_readsCommand_335 rfl) (fun v19 s20 _ => ?_)
                  refine lx_if_eq hC 346 dX8_readsCommand_338 (by decide) ?_ ?_
                  · skip
                    refine lx_aload_n hC dX8_readsCommand_346 rfl 0 rfl ?_
                    refine lx_bipush (v := 115) hC dX8_readsCommand_347 (by decide) ?_
                    refine lx_callX hC hx (sat_X8_reads (xl X) hl 115 s20) (run_V (as := [.int 115]) (rest := []) hC hE ly8 rfl cw_X8_reads ci_X8_reads wd2106 cs_X8_reads ce_X8_reads cd_X8_reads (by decide) (by decide) (Nat.le_of_ble_eq_true rfl) dX8_readsCommand_349 rfl) (fun v21 s22 _ => ?_)
                    refine lx_if_eq hC 366 dX8_readsCommand_352 (by decide) ?_ ?_
                    · skip
                      refine lx_iconstv (v := 0) hC dX8_readsCommand_366 rfl ?_
                      exact lx_zret hC rfl hr rfl dX8_readsCommand_367
                    · skip
                      refine lx_aload_n hC dX8_readsCommand_355 rfl 0 rfl ?_
                      refine lx_callX hC hx (sat_X8_readsSpread (xl X) hl s22) (run_V (as := []) (rest := []) hC hE ly8 rfl cw_X8_readsSpread ci_X8_readsSpread wd2142 cs_X8_readsSpread ce_X8_readsSpread cd_X8_readsSpread (by decide) (by decide) (Nat.le_of_ble_eq_true rfl) dX8_readsCommand_356 rfl) (fun v23 s24 _ => ?_)
                      refine lx_if_eq hC 366 dX8_readsCommand_359 (by decide) ?_ ?_
                      · skip
                        refine lx_iconstv (v := 0) hC dX8_readsCommand_366 rfl ?_
                        exact lx_zret hC rfl hr rfl dX8_readsCommand_367
                      · skip
                        refine lx_iconstv (v := 1) hC dX8_readsCommand_362 rfl ?_
                        refine lx_goto hC 367 dX8_readsCommand_363 (by decide) ?_
                        exact lx_zret hC rfl hr rfl dX8_readsCommand_367
                  · skip
                    refine lx_aload_n hC dX8_readsCommand_341 rfl 0 rfl ?_
                    refine lx_callX hC hx (sat_X8_readsBox (xl X) hl s20) (run_V (as := []) (rest := []) hC hE ly8 rfl cw_X8_readsBox ci_X8_readsBox wd2138 cs_X8_readsBox ce_X8_readsBox cd_X8_readsBox (by decide) (by decide) (Nat.le_of_ble_eq_true rfl) dX8_readsCommand_342 rfl) (fun v25 s26 _ => ?_)
                    exact lx_zretn hC rfl hr (by simp) dX8_readsCommand_345
                · skip
                  refine lx_aload_n hC dX8_readsCommand_301 rfl 0 rfl ?_
                  refine lx_bipush (v := 110) hC dX8_readsCommand_302 (by decide) ?_
                  refine lx_callX hC hx (sat_X8_reads (xl X) hl 110 s18) (run_V (as := [.int 110]) (rest := []) hC hE ly8 rfl cw_X8_reads ci_X8_reads wd2106 cs_X8_reads ce_X8_reads cd_X8_reads (by decide) (by decide) (Nat.le_of_ble_eq_true rfl) dX8_readsCommand_304 rfl) (fun v27 s28 _ => ?_)
                  refine lx_if_eq hC 330 dX8_readsCommand_307 (by decide) ?_ ?_
                  · skip
                    refine lx_iconstv (v := 0) hC dX8_readsCommand_330 rfl ?_
                    exact lx_zret hC rfl hr rfl dX8_readsCommand_331
                  · skip
                    refine lx_aload_n hC dX8_readsCommand_310 rfl 0 rfl ?_
                    refine lx_bipush (v := 108) hC dX8_readsCommand_311 (by decide) ?_
                    refine lx_callX hC hx (sat_X8_reads (xl X) hl 108 s28) (run_V (as := [.int 108]) (rest := []) hC hE ly8 rfl cw_X8_reads ci_X8_reads wd2106 cs_X8_reads ce_X8_reads cd_X8_reads (by decide) (by decide) (Nat.le_of_ble_eq_true rfl) dX8_readsCommand_313 rfl) (fun v29 s30 _ => ?_)
                    refine lx_if_eq hC 330 dX8_readsCommand_316 (by decide) ?_ ?_
                    · skip
                      refine lx_iconstv (v := 0) hC dX8_readsCommand_330 rfl ?_
                      exact lx_zret hC rfl hr rfl dX8_readsCommand_331
                    · skip
                      refine lx_aload_n hC dX8_readsCommand_319 rfl 0 rfl ?_
                      refine lx_callX hC hx (sat_X8_readsLock (xl X) hl s30) (run_V (as := []) (rest := []) hC hE ly8 rfl cw_X8_readsLock ci_X8_readsLock wd2134 cs_X8_readsLock ce_X8_readsLock cd_X8_readsLock (by decide) (by decide) (Nat.le_of_ble_eq_true rfl) dX8_readsCommand_320 rfl) (fun v31 s32 _ => ?_)
                      refine lx_if_eq hC 330 dX8_readsCommand_323 (by decide) ?_ ?_
                      · skip
                        refine lx_iconstv (v := 0) hC dX8_readsCommand_330 rfl ?_
                        exact lx_zret hC rfl hr rfl dX8_readsCommand_331
                      · skip
                        refine lx_iconstv (v := 1) hC dX8_readsCommand_326 rfl ?_
                        refine lx_goto hC 331 dX8_readsCommand_327 (by decide) ?_
                        exact lx_zret hC rfl hr rfl dX8_readsCommand_331
              · skip
                refine lx_aload_n hC dX8_readsCommand_287 rfl 0 rfl ?_
                refine lx_callX hC hx (sat_X8_readsLock (xl X) hl s16) (run_V (as := []) (rest := []) hC hE ly8 rfl cw_X8_readsLock ci_X8_readsLock wd2134 cs_X8_readsLock ce_X8_readsLock cd_X8_readsLock (by decide) (by decide) (Nat.le_of_ble_eq_true rfl) dX8_readsCommand_288 rfl) (fun v33 s34 _ => ?_)
                exact lx_zretn hC rfl hr (by simp) dX8_readsCommand_291
            · skip
              refine lx_aload_n hC dX8_readsCommand_211 rfl 0 rfl ?_
              refine lx_bipush (v := 101) hC dX8_readsCommand_212 (by decide) ?_
              refine lx_callX hC hx (sat_X8_reads (xl X) hl 101 s14) (run_V (as := [.int 101]) (rest := []) hC hE ly8 rfl cw_X8_reads ci_X8_reads wd2106 cs_X8_reads ce_X8_reads cd_X8_reads (by decide) (by decide) (Nat.le_of_ble_eq_true rfl) dX8_readsCommand_214 rfl) (fun v35 s36 _ => ?_)
              refine lx_if_eq hC 276 dX8_readsCommand_217 (by decide) ?_ ?_
              · skip
                refine lx_iconstv (v := 0) hC dX8_readsCommand_276 rfl ?_
                exact lx_zret hC rfl hr rfl dX8_readsCommand_277
              · skip
                refine lx_aload_n hC dX8_readsCommand_220 rfl 0 rfl ?_
                refine lx_bipush (v := 105) hC dX8_readsCommand_221 (by decide) ?_
                refine lx_callX hC hx (sat_X8_reads (xl X) hl 105 s36) (run_V (as := [.int 105]) (rest := []) hC hE ly8 rfl cw_X8_reads ci_X8_reads wd2106 cs_X8_reads ce_X8_reads cd_X8_reads (by decide) (by decide) (Nat.le_of_ble_eq_true rfl) dX8_readsCommand_223 rfl) (fun v37 s38 _ => ?_)
                refine lx_if_eq hC 276 dX8_readsCommand_226 (by decide) ?_ ?_
                · skip
                  refine lx_iconstv (v := 0) hC dX8_readsCommand_276 rfl ?_
                  exact lx_zret hC rfl hr rfl dX8_readsCommand_277
                · skip
                  refine lx_aload_n hC dX8_readsCommand_229 rfl 0 rfl ?_
                  refine lx_bipush (v := 114) hC dX8_readsCommand_230 (by decide) ?_
                  refine lx_callX hC hx (sat_X8_reads (xl X) hl 114 s38) (run_V (as := [.int 114]) (rest := []) hC hE ly8 rfl cw_X8_reads ci_X8_reads wd2106 cs_X8_reads ce_X8_reads cd_X8_reads (by decide) (by decide) (Nat.le_of_ble_eq_true rfl) dX8_readsCommand_232 rfl) (fun v39 s40 _ => ?_)
                  refine lx_if_eq hC 276 dX8_readsCommand_235 (by decide) ?_ ?_
                  · skip
                    refine lx_iconstv (v := 0) hC dX8_readsCommand_276 rfl ?_
                    exact lx_zret hC rfl hr rfl dX8_readsCommand_277
                  · skip
                    refine lx_aload_n hC dX8_readsCommand_238 rfl 0 rfl ?_
                    refine lx_bipush (v := 32) hC dX8_readsCommand_239 (by decide) ?_
                    refine lx_callX hC hx (sat_X8_reads (xl X) hl 32 s40) (run_V (as := [.int 32]) (rest := []) hC hE ly8 rfl cw_X8_reads ci_X8_reads wd2106 cs_X8_reads ce_X8_reads cd_X8_reads (by decide) (by decide) (Nat.le_of_ble_eq_true rfl) dX8_readsCommand_241 rfl) (fun v41 s42 _ => ?_)
                    refine lx_if_eq hC 276 dX8_readsCommand_244 (by decide) ?_ ?_
                    · skip
                      refine lx_iconstv (v := 0) hC dX8_readsCommand_276 rfl ?_
                      exact lx_zret hC rfl hr rfl dX8_readsCommand_277
                    · skip
                      refine lx_aload_n hC dX8_readsCommand_247 rfl 0 rfl ?_
                      refine lx_iconstv (v := 0) hC dX8_readsCommand_248 rfl ?_
                      refine lx_callX hC hx (sat_X8_readsNumber (xl X) hl 0 s42) (run_V (as := [.int 0]) (rest := []) hC hE ly8 rfl cw_X8_readsNumber ci_X8_readsNumber wd2114 cs_X8_readsNumber ce_X8_readsNumber cd_X8_readsNumber (by decide) (by decide) (Nat.le_of_ble_eq_true rfl) dX8_readsCommand_249 rfl) (fun v43 s44 _ => ?_)
                      refine lx_if_eq hC 276 dX8_readsCommand_252 (by decide) ?_ ?_
                      · skip
                        refine lx_iconstv (v := 0) hC dX8_readsCommand_276 rfl ?_
                        exact lx_zret hC rfl hr rfl dX8_readsCommand_277
                      · skip
                        refine lx_aload_n hC dX8_readsCommand_255 rfl 0 rfl ?_
                        refine lx_bipush (v := 32) hC dX8_readsCommand_256 (by decide) ?_
                        refine lx_callX hC hx (sat_X8_reads (xl X) hl 32 s44) (run_V (as := [.int 32]) (rest := []) hC hE ly8 rfl cw_X8_reads ci_X8_reads wd2106 cs_X8_reads ce_X8_reads cd_X8_reads (by decide) (by decide) (Nat.le_of_ble_eq_true rfl) dX8_readsCommand_258 rfl) (fun v45 s46 _ => ?_)
                        refine lx_if_eq hC 276 dX8_readsCommand_261 (by decide) ?_ ?_
                        · skip
                          refine lx_iconstv (v := 0) hC dX8_readsCommand_276 rfl ?_
                          exact lx_zret hC rfl hr rfl dX8_readsCommand_277
                        · skip
                          refine lx_aload_n hC dX8_readsCommand_264 rfl 0 rfl ?_
                          refine lx_iconstv (v := 1) hC dX8_readsCommand_265 rfl ?_
                          refine lx_callX hC hx (sat_X8_readsNumber (xl X) hl 1 s46) (run_V (as := [.int 1]) (rest := []) hC hE ly8 rfl cw_X8_readsNumber ci_X8_readsNumber wd2114 cs_X8_readsNumber ce_X8_readsNumber cd_X8_readsNumber (by decide) (by decide) (Nat.le_of_ble_eq_true rfl) dX8_readsCommand_266 rfl) (fun v47 s48 _ => ?_)
                          refine lx_if_eq hC 276 dX8_readsCommand_269 (by decide) ?_ ?_
                          · skip
                            refine lx_iconstv (v := 0) hC dX8_readsCommand_276 rfl ?_
                            exact lx_zret hC rfl hr rfl dX8_readsCommand_277
                          · skip
                            refine lx_iconstv (v := 1) hC dX8_readsCommand_272 rfl ?_
                            refine lx_goto hC 277 dX8_readsCommand_273 (by decide) ?_
                            exact lx_zret hC rfl hr rfl dX8_readsCommand_277
          · skip
            refine lx_aload_n hC dX8_readsCommand_135 rfl 0 rfl ?_
            refine lx_bipush (v := 111) hC dX8_readsCommand_136 (by decide) ?_
            refine lx_callX hC hx (sat_X8_reads (xl X) hl 111 s12) (run_V (as := [.int 111]) (rest := []) hC hE ly8 rfl cw_X8_reads ci_X8_reads wd2106 cs_X8_reads ce_X8_reads cd_X8_reads (by decide) (by decide) (Nat.le_of_ble_eq_true rfl) dX8_readsCommand_138 rfl) (fun v49 s50 _ => ?_)
            refine lx_if_eq hC 200 dX8_readsCommand_141 (by decide) ?_ ?_
            · skip
              refine lx_iconstv (v := 0) hC dX8_readsCommand_200 rfl ?_
              exact lx_zret hC rfl hr rfl dX8_readsCommand_201
            · skip
              refine lx_aload_n hC dX8_readsCommand_144 rfl 0 rfl ?_
              refine lx_bipush (v := 118) hC dX8_readsCommand_145 (by decide) ?_
              refine lx_callX hC hx (sat_X8_reads (xl X) hl 118 s50) (run_V (as := [.int 118]) (rest := []) hC hE ly8 rfl cw_X8_reads ci_X8_reads wd2106 cs_X8_reads ce_X8_reads cd_X8_reads (by decide) (by decide) (Nat.le_of_ble_eq_true rfl) dX8_readsCommand_147 rfl) (fun v51 s52 _ => ?_)
              refine lx_if_eq hC 200 dX8_readsCommand_150 (by decide) ?_ ?_
              · skip
                refine lx_iconstv (v := 0) hC dX8_readsCommand_200 rfl ?_
                exact lx_zret hC rfl hr rfl dX8_readsCommand_201
              · skip
                refine lx_aload_n hC dX8_readsCommand_153 rfl 0 rfl ?_
                refine lx_bipush (v := 101) hC dX8_readsCommand_154 (by decide) ?_
                refine lx_callX hC hx (sat_X8_reads (xl X) hl 101 s52) (run_V (as := [.int 101]) (rest := []) hC hE ly8 rfl cw_X8_reads ci_X8_reads wd2106 cs_X8_reads ce_X8_reads cd_X8_reads (by decide) (by decide) (Nat.le_of_ble_eq_true rfl) dX8_readsCommand_156 rfl) (fun v53 s54 _ => ?_)
                refine lx_if_eq hC 200 dX8_readsCommand_159 (by decide) ?_ ?_
                · skip
                  refine lx_iconstv (v := 0) hC dX8_readsCommand_200 rfl ?_
                  exact lx_zret hC rfl hr rfl dX8_readsCommand_201
                · skip
                  refine lx_aload_n hC dX8_readsCommand_162 rfl 0 rfl ?_
                  refine lx_bipush (v := 32) hC dX8_readsCommand_163 (by decide) ?_
                  refine lx_callX hC hx (sat_X8_reads (xl X) hl 32 s54) (run_V (as := [.int 32]) (rest := []) hC hE ly8 rfl cw_X8_reads ci_X8_reads wd2106 cs_X8_reads ce_X8_reads cd_X8_reads (by decide) (by decide) (Nat.le_of_ble_eq_true rfl) dX8_readsCommand_165 rfl) (fun v55 s56 _ => ?_)
                  refine lx_if_eq hC 200 dX8_readsCommand_168 (by decide) ?_ ?_
                  · skip
                    refine lx_iconstv (v := 0) hC dX8_readsCommand_200 rfl ?_
                    exact lx_zret hC rfl hr rfl dX8_readsCommand_201
                  · skip
                    refine lx_aload_n hC dX8_readsCommand_171 rfl 0 rfl ?_
                    refine lx_iconstv (v := 0) hC dX8_readsCommand_172 rfl ?_
                    refine lx_callX hC hx (sat_X8_readsNumber (xl X) hl 0 s56) (run_V (as := [.int 0]) (rest := []) hC hE ly8 rfl cw_X8_readsNumber ci_X8_readsNumber wd2114 cs_X8_readsNumber ce_X8_readsNumber cd_X8_readsNumber (by decide) (by decide) (Nat.le_of_ble_eq_true rfl) dX8_readsCommand_173 rfl) (fun v57 s58 _ => ?_)
                    refine lx_if_eq hC 200 dX8_readsCommand_176 (by decide) ?_ ?_
                    · skip
                      refine lx_iconstv (v := 0) hC dX8_readsCommand_200 rfl ?_
                      exact lx_zret hC rfl hr rfl dX8_readsCommand_201
                    · skip
                      refine lx_aload_n hC dX8_readsCommand_179 rfl 0 rfl ?_
                      refine lx_bipush (v := 32) hC dX8_readsCommand_180 (by decide) ?_
                      refine lx_callX hC hx (sat_X8_reads (xl X) hl 32 s58) (run_V (as := [.int 32]) (rest := []) hC hE ly8 rfl cw_X8_reads ci_X8_reads wd2106 cs_X8_reads ce_X8_reads cd_X8_reads (by decide) (by decide) (Nat.le_of_ble_eq_true rfl) dX8_readsCommand_182 rfl) (fun v59 s60 _ => ?_)
                      refine lx_if_eq hC 200 dX8_readsCommand_185 (by decide) ?_ ?_
                      · skip
                        refine lx_iconstv (v := 0) hC dX8_readsCommand_200 rfl ?_
                        exact lx_zret hC rfl hr rfl dX8_readsCommand_201
                      · skip
                        refine lx_aload_n hC dX8_readsCommand_188 rfl 0 rfl ?_
                        refine lx_iconstv (v := 1) hC dX8_readsCommand_189 rfl ?_
                        refine lx_callX hC hx (sat_X8_readsDigit (xl X) hl 1 s60) (run_V (as := [.int 1]) (rest := []) hC hE ly8 rfl cw_X8_readsDigit ci_X8_readsDigit wd2118 cs_X8_readsDigit ce_X8_readsDigit cd_X8_readsDigit (by decide) (by decide) (Nat.le_of_ble_eq_true rfl) dX8_readsCommand_190 rfl) (fun v61 s62 _ => ?_)
                        refine lx_if_eq hC 200 dX8_readsCommand_193 (by decide) ?_ ?_
                        · skip
                          refine lx_iconstv (v := 0) hC dX8_readsCommand_200 rfl ?_
                          exact lx_zret hC rfl hr rfl dX8_readsCommand_201
                        · skip
                          refine lx_iconstv (v := 1) hC dX8_readsCommand_196 rfl ?_
                          refine lx_goto hC 201 dX8_readsCommand_197 (by decide) ?_
                          exact lx_zret hC rfl hr rfl dX8_readsCommand_201
        · skip
          refine lx_aload_n hC dX8_readsCommand_59 rfl 0 rfl ?_
          refine lx_bipush (v := 99) hC dX8_readsCommand_60 (by decide) ?_
          refine lx_callX hC hx (sat_X8_reads (xl X) hl 99 s10) (run_V (as := [.int 99]) (rest := []) hC hE ly8 rfl cw_X8_reads ci_X8_reads wd2106 cs_X8_reads ce_X8_reads cd_X8_reads (by decide) (by decide) (Nat.le_of_ble_eq_true rfl) dX8_readsCommand_62 rfl) (fun v63 s64 _ => ?_)
          refine lx_if_eq hC 124 dX8_readsCommand_65 (by decide) ?_ ?_
          · skip
            refine lx_iconstv (v := 0) hC dX8_readsCommand_124 rfl ?_
            exact lx_zret hC rfl hr rfl dX8_readsCommand_125
          · skip
            refine lx_aload_n hC dX8_readsCommand_68 rfl 0 rfl ?_
            refine lx_bipush (v := 104) hC dX8_readsCommand_69 (by decide) ?_
            refine lx_callX hC hx (sat_X8_reads (xl X) hl 104 s64) (run_V (as := [.int 104]) (rest := []) hC hE ly8 rfl cw_X8_reads ci_X8_reads wd2106 cs_X8_reads ce_X8_reads cd_X8_reads (by decide) (by decide) (Nat.le_of_ble_eq_true rfl) dX8_readsCommand_71 rfl) (fun v65 s66 _ => ?_)
            refine lx_if_eq hC 124 dX8_readsCommand_74 (by decide) ?_ ?_
            · skip
              refine lx_iconstv (v := 0) hC dX8_readsCommand_124 rfl ?_
              exact lx_zret hC rfl hr rfl dX8_readsCommand_125
            · skip
              refine lx_aload_n hC dX8_readsCommand_77 rfl 0 rfl ?_
              refine lx_bipush (v := 111) hC dX8_readsCommand_78 (by decide) ?_
              refine lx_callX hC hx (sat_X8_reads (xl X) hl 111 s66) (run_V (as := [.int 111]) (rest := []) hC hE ly8 rfl cw_X8_reads ci_X8_reads wd2106 cs_X8_reads ce_X8_reads cd_X8_reads (by decide) (by decide) (Nat.le_of_ble_eq_true rfl) dX8_readsCommand_80 rfl) (fun v67 s68 _ => ?_)
              refine lx_if_eq hC 124 dX8_readsCommand_83 (by decide) ?_ ?_
              · skip
                refine lx_iconstv (v := 0) hC dX8_readsCommand_124 rfl ?_
                exact lx_zret hC rfl hr rfl dX8_readsCommand_125
              · skip
                refine lx_aload_n hC dX8_readsCommand_86 rfl 0 rfl ?_
                refine lx_bipush (v := 32) hC dX8_readsCommand_87 (by decide) ?_
                refine lx_callX hC hx (sat_X8_reads (xl X) hl 32 s68) (run_V (as := [.int 32]) (rest := []) hC hE ly8 rfl cw_X8_reads ci_X8_reads wd2106 cs_X8_reads ce_X8_reads cd_X8_reads (by decide) (by decide) (Nat.le_of_ble_eq_true rfl) dX8_readsCommand_89 rfl) (fun v69 s70 _ => ?_)
                refine lx_if_eq hC 124 dX8_readsCommand_92 (by decide) ?_ ?_
                · skip
                  refine lx_iconstv (v := 0) hC dX8_readsCommand_124 rfl ?_
                  exact lx_zret hC rfl hr rfl dX8_readsCommand_125
                · skip
                  refine lx_aload_n hC dX8_readsCommand_95 rfl 0 rfl ?_
                  refine lx_iconstv (v := 0) hC dX8_readsCommand_96 rfl ?_
                  refine lx_callX hC hx (sat_X8_readsDigit (xl X) hl 0 s70) (run_V (as := [.int 0]) (rest := []) hC hE ly8 rfl cw_X8_readsDigit ci_X8_readsDigit wd2118 cs_X8_readsDigit ce_X8_readsDigit cd_X8_readsDigit (by decide) (by decide) (Nat.le_of_ble_eq_true rfl) dX8_readsCommand_97 rfl) (fun v71 s72 _ => ?_)
                  refine lx_if_eq hC 124 dX8_readsCommand_100 (by decide) ?_ ?_
                  · skip
                    refine lx_iconstv (v := 0) hC dX8_readsCommand_124 rfl ?_
                    exact lx_zret hC rfl hr rfl dX8_readsCommand_125
                  · skip
                    refine lx_aload_n hC dX8_readsCommand_103 rfl 0 rfl ?_
                    refine lx_bipush (v := 32) hC dX8_readsCommand_104 (by decide) ?_
                    refine lx_callX hC hx (sat_X8_reads (xl X) hl 32 s72) (run_V (as := [.int 32]) (rest := []) hC hE ly8 rfl cw_X8_reads ci_X8_reads wd2106 cs_X8_reads ce_X8_reads cd_X8_reads (by decide) (by decide) (Nat.le_of_ble_eq_true rfl) dX8_readsCommand_106 rfl) (fun v73 s74 _ => ?_)
                    refine lx_if_eq hC 124 dX8_readsCommand_109 (by decide) ?_ ?_
                    · skip
                      refine lx_iconstv (v := 0) hC dX8_readsCommand_124 rfl ?_
                      exact lx_zret hC rfl hr rfl dX8_readsCommand_125
                    · skip
                      refine lx_aload_n hC dX8_readsCommand_112 rfl 0 rfl ?_
                      refine lx_iconstv (v := 1) hC dX8_readsCommand_113 rfl ?_
                      refine lx_callX hC hx (sat_X8_readsNumber (xl X) hl 1 s74) (run_V (as := [.int 1]) (rest := []) hC hE ly8 rfl cw_X8_readsNumber ci_X8_readsNumber wd2114 cs_X8_readsNumber ce_X8_readsNumber cd_X8_readsNumber (by decide) (by decide) (Nat.le_of_ble_eq_true rfl) dX8_readsCommand_114 rfl) (fun v75 s76 _ => ?_)
                      refine lx_if_eq hC 124 dX8_readsCommand_117 (by decide) ?_ ?_
                      · skip
                        refine lx_iconstv (v := 0) hC dX8_readsCommand_124 rfl ?_
                        exact lx_zret hC rfl hr rfl dX8_readsCommand_125
                      · skip
                        refine lx_iconstv (v := 1) hC dX8_readsCommand_120 rfl ?_
                        refine lx_goto hC 125 dX8_readsCommand_121 (by decide) ?_
                        exact lx_zret hC rfl hr rfl dX8_readsCommand_125
      · skip
        refine lx_aload_n hC dX8_readsCommand_45 rfl 0 rfl ?_
        refine lx_callX hC hx (sat_X8_readsD (xl X) hl s8) (run_V (as := []) (rest := []) hC hE ly8 rfl cw_X8_readsD ci_X8_readsD wd2130 cs_X8_readsD ce_X8_readsD cd_X8_readsD (by decide) (by decide) (Nat.le_of_ble_eq_true rfl) dX8_readsCommand_46 rfl) (fun v77 s78 _ => ?_)
        exact lx_zretn hC rfl hr (by simp) dX8_readsCommand_49
    · skip
      refine lx_aload_n hC dX8_readsCommand_31 rfl 0 rfl ?_
      refine lx_callX hC hx (sat_X8_readsPhantoms (xl X) hl s6) (run_V (as := []) (rest := []) hC hE ly8 rfl cw_X8_readsPhantoms ci_X8_readsPhantoms wd2126 cs_X8_readsPhantoms ce_X8_readsPhantoms cd_X8_readsPhantoms (by decide) (by decide) (Nat.le_of_ble_eq_true rfl) dX8_readsCommand_32 rfl) (fun v79 s80 _ => ?_)
      exact lx_zretn hC rfl hr (by simp) dX8_readsCommand_35
  · skip
    refine lx_aload_n hC dX8_readsCommand_17 rfl 0 rfl ?_
    refine lx_callX hC hx (sat_X8_readsR (xl X) hl s4) (run_V (as := []) (rest := []) hC hE ly8 rfl cw_X8_readsR ci_X8_readsR wd2110 cs_X8_readsR ce_X8_readsR cd_X8_readsR (by decide) (by decide) (Nat.le_of_ble_eq_true rfl) dX8_readsCommand_18 rfl) (fun v81 s82 _ => ?_)
    exact lx_zretn hC rfl hr (by simp) dX8_readsCommand_21
def m_X8_readsAll_b7 (s : Mem) (kf7 : (Int32 × Mem) → Res Int32) (w1 : Int32) : Res Int32 := if w1 = 0 then (if ¬ gI s 8 12 = gI s 8 11 then (some (.inl 0, s)) else (some (.inl 1, s))) else (bindR (m_X8_readsCommand s) (fun v2 s3 => if ¬ v2 = 0 then (bindR (m_X8_reads 59 s3) (fun v4 s5 => kf7 (v4, s5))) else (some (.inl 0, s3))))
def m_X8_readsAll (s : Mem) : Res Int32 := vl (pI s 8 12 0) (fun s1 => lp (fun kf7 a => m_X8_readsAll_b7 a.2 kf7 a.1) FUEL (1, s1))
set_option maxRecDepth 100000 in
set_option maxHeartbeats 2000000 in
theorem l_X8_readsAll_b7 {X : Cx} {V : Vx} {A : Nat → Prop} {adV : Nat → Nat} {c0 s0 : Nat} (hC : Cok X V A yX8_readsAll.cls cX8_readsAll 2) (hE : Env0 V adV A (xs X) (xs X).heap) (hl : (xl X).stackTraces = false) (hx : ∀ x ∈ (xc X).exceptionTable.toList, False) (hr : (xh X).sig.returnType = some .boolean) (s : Mem) (kf7 : (Int32 × Mem) → Res Int32) (hk7 : ∀ a, LX X V A 36 625 c0 s0 (FM X V A (fun x => some (.int x))) 7 [(0, .ref 8), (1, .int a.1)] [] a.2 (kf7 a)) (w1 : Int32) : LX X V A 36 625 c0 s0 (FM X V A (fun x => some (.int x))) 7 [(0, .ref 8), (1, .int w1)] [] s (m_X8_readsAll_b7 s kf7 w1 ) := by
  unfold m_X8_readsAll_b7
  refine lx_iload_n hC dX8_readsAll_7 rfl 1 rfl ?_
  refine lx_if_eq hC 30 dX8_readsAll_8 (by decide) ?_ ?_
  · skip
    refine lx_aload_n hC dX8_readsAll_30 rfl 0 rfl ?_
    refine lx_getI hC ly8 rfl 12 (by decide) rfl inX8 wd1617 dX8_readsAll_31 ?_
    refine lx_aload_n hC dX8_readsAll_34 rfl 0 rfl ?_
    refine lx_getI hC ly8 rfl 11 (by decide) rfl inX8 wd1616 dX8_readsAll_35 ?_
    refine lx_icmp_ne hC 45 dX8_readsAll_38 (by decide) ?_ ?_
    · skip
      refine lx_iconstv (v := 0) hC dX8_readsAll_45 rfl ?_
      exact lx_zret hC rfl hr rfl dX8_readsAll_46
    · skip
      refine lx_iconstv (v := 1) hC dX8_readsAll_41 rfl ?_
      refine lx_goto hC 46 dX8_readsAll_42 (by decide) ?_
      exact lx_zret hC rfl hr rfl dX8_readsAll_46
  · skip
    refine lx_aload_n hC dX8_readsAll_11 rfl 0 rfl ?_
    refine lx_callX hC hx (sat_X8_readsCommand (xl X) hl s) (run_V (as := []) (rest := []) hC hE ly8 rfl cw_X8_readsCommand ci_X8_readsCommand wd2098 cs_X8_readsCommand ce_X8_readsCommand cd_X8_readsCommand (by decide) (by decide) (Nat.le_of_ble_eq_true rfl) dX8_readsAll_12 rfl) (fun v2 s3 _ => ?_)
    refine lx_if_ne hC 20 dX8_readsAll_15 (by decide) ?_ ?_
    · skip
      refine lx_aload_n hC dX8_readsAll_20 rfl 0 rfl ?_
      refine lx_bipush (v := 59) hC dX8_readsAll_21 (by decide) ?_
      refine lx_callX hC hx (sat_X8_reads (xl X) hl 59 s3) (run_V (as := [.int 59]) (rest := []) hC hE ly8 rfl cw_X8_reads ci_X8_reads wd2106 cs_X8_reads ce_X8_reads cd_X8_reads (by decide) (by decide) (Nat.le_of_ble_eq_true rfl) dX8_readsAll_23 rfl) (fun v4 s5 _ => ?_)
      refine lx_istore_n hC dX8_readsAll_26 rfl (by decide) ?_
      refine lx_goto hC 7 dX8_readsAll_27 (by decide) ?_
      exact lx_sub [1, 0] rfl (hk7 (v4, s5))
    · skip
      refine lx_iconstv (v := 0) hC dX8_readsAll_18 rfl ?_
      exact lx_zret hC rfl hr rfl dX8_readsAll_19
set_option maxRecDepth 100000 in
set_option maxHeartbeats 2000000 in
theorem n_X8_readsAll_b7 (s : Mem) (kf7 : (Int32 × Mem) → Res Int32) (hm7 : ∀ a, Mn a.2 (kf7 a)) (w1 : Int32) : Mn s (m_X8_readsAll_b7 s kf7 w1 ) := by
  unfold m_X8_readsAll_b7
  refine mn_if ?_ ?_
  · skip
    refine mn_if ?_ ?_
    · skip
      exact mn_some
    · skip
      exact mn_some
  · skip
    refine mn_bind (n_X8_readsCommand s) (fun v2 s3 => ?_)
    refine mn_if ?_ ?_
    · skip
      refine mn_bind (n_X8_reads 59 s3) (fun v4 s5 => ?_)
      exact hm7 (v4, s5)
    · skip
      exact mn_some
set_option maxRecDepth 100000 in
set_option maxHeartbeats 2000000 in
theorem n_X8_readsAll (s : Mem) : Mn s (m_X8_readsAll s) := by
  unfold m_X8_readsAll
  refine mn_put (fun s1 => ?_)
  exact mn_lp (sg := fun a => a.2) (fun kf hq a => n_X8_readsAll_b7 a.2 kf hq a.1) FUEL (1, s1)
set_option maxRecDepth 100000 in
set_option maxHeartbeats 2000000 in
theorem sat_X8_readsAll (l : Launch) (hl : l.stackTraces = false) (s : Mem) : Sat l yX8_readsAll (.code yX8_readsAll cX8_readsAll 2 (some .boolean)) 36 625 (fun x => some (.int x)) [.ref 8] s (m_X8_readsAll s) := by
  refine sat_of hl (by decide) (Nat.le_of_ble_eq_true rfl) (fun X V A adV hxl hC hE hx hr => ?_) (n_X8_readsAll s)
  subst hxl
  show LX X V A 36 625 (nC s) (nS s) _ 0 [(0, .ref 8)] [] s _
  unfold m_X8_readsAll
  refine lx_aload_n hC dX8_readsAll_0 rfl 0 rfl ?_
  refine lx_iconstv (v := 0) hC dX8_readsAll_1 rfl ?_
  refine lx_putI hC ly8 rfl 12 (by decide) rfl tyX8 tyX8_ok nmX8 rfl rfl rfl inX8 wd1617 dX8_readsAll_2 (fun s1 => ?_)
  refine lx_iconstv (v := 1) hC dX8_readsAll_5 rfl ?_
  refine lx_istore_n hC dX8_readsAll_6 rfl (by decide) ?_
  refine lx_sub [1, 0] rfl ?_
  exact lx_lp (lv := fun a => [(0, .ref 8), (1, .int a.1)]) (st := fun _ => []) (sg := fun a => a.2) (fun kf hq a => l_X8_readsAll_b7 hC hE hl hx hr a.2 kf hq a.1) FUEL (1, s1)
