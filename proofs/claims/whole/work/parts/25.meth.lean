set_option maxRecDepth 100000 in
set_option maxHeartbeats 2000000 in
theorem n_X8_formatEcho (p0 : Int32) (s : Mem) : Mn s (m_X8_formatEcho p0 s) := by
  unfold m_X8_formatEcho
  refine mn_put (fun s1 => ?_)
  refine mn_bindP (fun v2 => ?_)
  refine mn_if ?_ ?_
  · skip
    refine mn_put (fun s3 => ?_)
    refine mn_bind (n_X8_writes 35 s3) (fun v4 s5 => ?_)
    refine mn_bind (n_X8_writesNumber p0 s5) (fun v6 s7 => ?_)
    refine mn_bind (n_X8_writes 64 s7) (fun v8 s9 => ?_)
    refine mn_bindP (fun v10 => ?_)
    refine mn_bind (n_X8_writesNumber v10 s9) (fun v11 s12 => ?_)
    refine mn_bind (n_X8_writes 61 s12) (fun v13 s14 => ?_)
    refine mn_bindP (fun v15 => ?_)
    refine mn_bind (n_X8_writesNumber v15 s14) (fun v16 s17 => ?_)
    refine mn_bindP (fun v18 => ?_)
    refine mn_if ?_ ?_
    · skip
      exact mn_some
    · skip
      refine mn_bind (n_X8_writes 62 s17) (fun v19 s20 => ?_)
      refine mn_bindP (fun v21 => ?_)
      refine mn_bind (n_X8_writesNumber (v21 - 1) s20) (fun v22 s23 => ?_)
      exact mn_some
  · skip
    refine mn_bind (n_X8_fails 1 s1) (fun v24 s25 => ?_)
    exact mn_some
set_option maxRecDepth 100000 in
set_option maxHeartbeats 2000000 in
theorem sat_X8_formatEcho (l : Launch) (hl : l.stackTraces = false) (p0 : Int32) (s : Mem) : Sat l yX8_formatEcho (.code yX8_formatEcho cX8_formatEcho 3 (some .int)) 32 544 (fun x => some (.int x)) [.ref 8, .int p0] s (m_X8_formatEcho p0 s) := by
  refine sat_of hl (by decide) (Nat.le_of_ble_eq_true rfl) (fun X V A adV hxl hC hE hx hr => ?_) (n_X8_formatEcho p0 s)
  subst hxl
  show LX X V A 32 544 (nC s) (nS s) _ 0 [(0, .ref 8), (1, .int p0)] [] s _
  unfold m_X8_formatEcho
  refine lx_aload_n hC dX8_formatEcho_0 rfl 0 rfl ?_
  refine lx_iconstv (v := 0) hC dX8_formatEcho_1 rfl ?_
  refine lx_putI hC ly8 rfl 0 (by decide) rfl tyX8 tyX8_ok nmX8 rfl rfl rfl inX8 wd1605 dX8_formatEcho_2 (fun s1 => ?_)
  refine lx_aload_n hC dX8_formatEcho_5 rfl 0 rfl ?_
  refine lx_iload_n hC dX8_formatEcho_6 rfl 1 rfl ?_
  refine lx_callP hC hx (sat_X8_slotOf (xl X) hl p0 s1) (run_V (as := [.int p0]) (rest := []) hC hE ly8 rfl cw_X8_slotOf ci_X8_slotOf wd1768 cs_X8_slotOf ce_X8_slotOf cd_X8_slotOf (by decide) (by decide) (Nat.le_of_ble_eq_true rfl) dX8_formatEcho_7 rfl) (fun v2 _ => ?_)
  refine lx_istore_n hC dX8_formatEcho_10 rfl (by decide) ?_
  refine lx_iload_n hC dX8_formatEcho_11 rfl 0 rfl ?_
  refine lx_if_ge hC 21 dX8_formatEcho_12 (by decide) ?_ ?_
  · skip
    refine lx_aload_n hC dX8_formatEcho_21 rfl 1 rfl ?_
    refine lx_iconstv (v := 0) hC dX8_formatEcho_22 rfl ?_
    refine lx_putI hC ly8 rfl 9 (by decide) rfl tyX8 tyX8_ok nmX8 rfl rfl rfl inX8 wd1614 dX8_formatEcho_23 (fun s3 => ?_)
    refine lx_aload_n hC dX8_formatEcho_26 rfl 1 rfl ?_
    refine lx_bipush (v := 35) hC dX8_formatEcho_27 (by decide) ?_
    refine lx_callX hC hx (sat_X8_writes (xl X) hl 35 s3) (run_V (as := [.int 35]) (rest := []) hC hE ly8 rfl cw_X8_writes ci_X8_writes wd2070 cs_X8_writes ce_X8_writes cd_X8_writes (by decide) (by decide) (Nat.le_of_ble_eq_true rfl) dX8_formatEcho_29 rfl) (fun v4 s5 _ => ?_)
    refine lx_aload_n hC dX8_formatEcho_32 rfl 1 rfl ?_
    refine lx_iload_n hC dX8_formatEcho_33 rfl 2 rfl ?_
    refine lx_callX hC hx (sat_X8_writesNumber (xl X) hl p0 s5) (run_V (as := [.int p0]) (rest := []) hC hE ly8 rfl cw_X8_writesNumber ci_X8_writesNumber wd2066 cs_X8_writesNumber ce_X8_writesNumber cd_X8_writesNumber (by decide) (by decide) (Nat.le_of_ble_eq_true rfl) dX8_formatEcho_34 rfl) (fun v6 s7 _ => ?_)
    refine lx_aload_n hC dX8_formatEcho_37 rfl 1 rfl ?_
    refine lx_bipush (v := 64) hC dX8_formatEcho_38 (by decide) ?_
    refine lx_callX hC hx (sat_X8_writes (xl X) hl 64 s7) (run_V (as := [.int 64]) (rest := []) hC hE ly8 rfl cw_X8_writes ci_X8_writes wd2070 cs_X8_writes ce_X8_writes cd_X8_writes (by decide) (by decide) (Nat.le_of_ble_eq_true rfl) dX8_formatEcho_40 rfl) (fun v8 s9 _ => ?_)
    refine lx_aload_n hC dX8_formatEcho_43 rfl 1 rfl ?_
    refine lx_aload_n hC dX8_formatEcho_44 rfl 1 rfl ?_
    refine lx_iload_n hC dX8_formatEcho_45 rfl 0 rfl ?_
    refine lx_iconstv (v := 1) hC dX8_formatEcho_46 rfl ?_
    refine lx_callP hC hx (sat_X8_is (xl X) hl v2 1 s9) (run_V (as := [.int v2, .int 1]) (rest := [.ref 8]) hC hE ly8 rfl cw_X8_is ci_X8_is wd1740 cs_X8_is ce_X8_is cd_X8_is (by decide) (by decide) (Nat.le_of_ble_eq_true rfl) dX8_formatEcho_47 rfl) (fun v10 _ => ?_)
    refine lx_callX hC hx (sat_X8_writesNumber (xl X) hl v10 s9) (run_V (as := [.int v10]) (rest := []) hC hE ly8 rfl cw_X8_writesNumber ci_X8_writesNumber wd2066 cs_X8_writesNumber ce_X8_writesNumber cd_X8_writesNumber (by decide) (by decide) (Nat.le_of_ble_eq_true rfl) dX8_formatEcho_50 rfl) (fun v11 s12 _ => ?_)
    refine lx_aload_n hC dX8_formatEcho_53 rfl 1 rfl ?_
    refine lx_bipush (v := 61) hC dX8_formatEcho_54 (by decide) ?_
    refine lx_callX hC hx (sat_X8_writes (xl X) hl 61 s12) (run_V (as := [.int 61]) (rest := []) hC hE ly8 rfl cw_X8_writes ci_X8_writes wd2070 cs_X8_writes ce_X8_writes cd_X8_writes (by decide) (by decide) (Nat.le_of_ble_eq_true rfl) dX8_formatEcho_56 rfl) (fun v13 s14 _ => ?_)
    refine lx_aload_n hC dX8_formatEcho_59 rfl 1 rfl ?_
    refine lx_aload_n hC dX8_formatEcho_60 rfl 1 rfl ?_
    refine lx_iload_n hC dX8_formatEcho_61 rfl 0 rfl ?_
    refine lx_iconstv (v := 2) hC dX8_formatEcho_62 rfl ?_
    refine lx_callP hC hx (sat_X8_is (xl X) hl v2 2 s14) (run_V (as := [.int v2, .int 2]) (rest := [.ref 8]) hC hE ly8 rfl cw_X8_is ci_X8_is wd1740 cs_X8_is ce_X8_is cd_X8_is (by decide) (by decide) (Nat.le_of_ble_eq_true rfl) dX8_formatEcho_63 rfl) (fun v15 _ => ?_)
    refine lx_callX hC hx (sat_X8_writesNumber (xl X) hl v15 s14) (run_V (as := [.int v15]) (rest := []) hC hE ly8 rfl cw_X8_writesNumber ci_X8_writesNumber wd2066 cs_X8_writesNumber ce_X8_writesNumber cd_X8_writesNumber (by decide) (by decide) (Nat.le_of_ble_eq_true rfl) dX8_formatEcho_66 rfl) (fun v16 s17 _ => ?_)
    refine lx_aload_n hC dX8_formatEcho_69 rfl 1 rfl ?_
    refine lx_iload_n hC dX8_formatEcho_70 rfl 0 rfl ?_
    refine lx_iconstv (v := 3) hC dX8_formatEcho_71 rfl ?_
    refine lx_callP hC hx (sat_X8_is (xl X) hl v2 3 s17) (run_V (as := [.int v2, .int 3]) (rest := []) hC hE ly8 rfl cw_X8_is ci_X8_is wd1740 cs_X8_is ce_X8_is cd_X8_is (by decide) (by decide) (Nat.le_of_ble_eq_true rfl) dX8_formatEcho_72 rfl) (fun v18 _ => ?_)
    refine lx_if_le hC 96 dX8_formatEcho_75 (by decide) ?_ ?_
    · skip
      refine lx_aload_n hC dX8_formatEcho_96 rfl 1 rfl ?_
      refine lx_getI hC ly8 rfl 9 (by decide) rfl inX8 wd1614 dX8_formatEcho_97 ?_
      exact lx_iret hC rfl hr dX8_formatEcho_100
    · skip
      refine lx_aload_n hC dX8_formatEcho_78 rfl 1 rfl ?_
      refine lx_bipush (v := 62) hC dX8_formatEcho_79 (by decide) ?_
      refine lx_callX hC hx (sat_X8_writes (xl X) hl 62 s17) (run_V (as := [.int 62]) (rest := []) hC hE ly8 rfl cw_X8_writes ci_X8_writes wd2070 cs_X8_writes ce_X8_writes cd_X8_writes (by decide) (by decide) (Nat.le_of_ble_eq_true rfl) dX8_formatEcho_81 rfl) (fun v19 s20 _ => ?_)
      refine lx_aload_n hC dX8_formatEcho_84 rfl 1 rfl ?_
      refine lx_aload_n hC dX8_formatEcho_85 rfl 1 rfl ?_
      refine lx_iload_n hC dX8_formatEcho_86 rfl 0 rfl ?_
      refine lx_iconstv (v := 3) hC dX8_formatEcho_87 rfl ?_
      refine lx_callP hC hx (sat_X8_is (xl X) hl v2 3 s20) (run_V (as := [.int v2, .int 3]) (rest := [.ref 8]) hC hE ly8 rfl cw_X8_is ci_X8_is wd1740 cs_X8_is ce_X8_is cd_X8_is (by decide) (by decide) (Nat.le_of_ble_eq_true rfl) dX8_formatEcho_88 rfl) (fun v21 _ => ?_)
      refine lx_iconstv (v := 1) hC dX8_formatEcho_91 rfl ?_
      refine lx_isub hC dX8_formatEcho_92 ?_
      refine lx_callX hC hx (sat_X8_writesNumber (xl X) hl (v21 - 1) s20) (run_V (as := [.int (v21 - 1)]) (rest := []) hC hE ly8 rfl cw_X8_writesNumber ci_X8_writesNumber wd2066 cs_X8_writesNumber ce_X8_writesNumber cd_X8_writesNumber (by decide) (by decide) (Nat.le_of_ble_eq_true rfl) dX8_formatEcho_93 rfl) (fun v22 s23 _ => ?_)
      refine lx_aload_n hC dX8_formatEcho_96 rfl 1 rfl ?_
      refine lx_getI hC ly8 rfl 9 (by decide) rfl inX8 wd1614 dX8_formatEcho_97 ?_
      exact lx_iret hC rfl hr dX8_formatEcho_100
  · skip
    refine lx_aload_n hC dX8_formatEcho_15 rfl 1 rfl ?_
    refine lx_iconstv (v := 1) hC dX8_formatEcho_16 rfl ?_
    refine lx_callX hC hx (sat_X8_fails (xl X) hl 1 s1) (run_V (as := [.int 1]) (rest := []) hC hE ly8 rfl cw_X8_fails ci_X8_fails wd1676 cs_X8_fails ce_X8_fails cd_X8_fails (by decide) (by decide) (Nat.le_of_ble_eq_true rfl) dX8_formatEcho_17 rfl) (fun v24 s25 _ => ?_)
    exact lx_iret hC rfl hr dX8_formatEcho_20
set_option maxRecDepth 100000 in
set_option maxHeartbeats 2000000 in
theorem n_X8_lineChar (p0 : Int32) (s : Mem) : Mn s (m_X8_lineChar p0 s) := by
  unfold m_X8_lineChar
  refine mn_put (fun s1 => ?_)
  refine mn_bindP (fun v2 => ?_)
  refine mn_if ?_ ?_
  · skip
    refine mn_bind (n_X8_fails 1 s1) (fun v3 s4 => ?_)
    exact mn_if mn_some mn_none
  · skip
    refine mn_if ?_ mn_none
    exact mn_if mn_some mn_none
set_option maxRecDepth 100000 in
set_option maxHeartbeats 2000000 in
theorem sat_X8_lineChar (l : Launch) (hl : l.stackTraces = false) (p0 : Int32) (s : Mem) : Sat l yX8_lineChar (.code yX8_lineChar cX8_lineChar 2 (some .char)) 31 522 (fun x => some (.int x)) [.ref 8, .int p0] s (m_X8_lineChar p0 s) := by
  refine sat_of hl (by decide) (Nat.le_of_ble_eq_true rfl) (fun X V A adV hxl hC hE hx hr => ?_) (n_X8_lineChar p0 s)
  subst hxl
  show LX X V A 31 522 (nC s) (nS s) _ 0 [(0, .ref 8), (1, .int p0)] [] s _
  unfold m_X8_lineChar
  refine lx_aload_n hC dX8_lineChar_0 rfl 0 rfl ?_
  refine lx_iconstv (v := 0) hC dX8_lineChar_1 rfl ?_
  refine lx_putI hC ly8 rfl 0 (by decide) rfl tyX8 tyX8_ok nmX8 rfl rfl rfl inX8 wd1605 dX8_lineChar_2 (fun s1 => ?_)
  refine lx_iload_n hC dX8_lineChar_5 rfl 1 rfl ?_
  refine lx_iconstv (v := 0) hC dX8_lineChar_6 rfl ?_
  refine lx_aload_n hC dX8_lineChar_7 rfl 0 rfl ?_
  refine lx_getI hC ly8 rfl 9 (by decide) rfl inX8 wd1614 dX8_lineChar_8 ?_
  refine lx_iconstv (v := 1) hC dX8_lineChar_11 rfl ?_
  refine lx_isub hC dX8_lineChar_12 ?_
  refine lx_callP hC hx (sat_X8_isBetween (xl X) hl p0 0 ((gI s1 8 9) - 1) s1) (run_S (as := [.int p0, .int 0, .int ((gI s1 8 9) - 1)]) (rest := []) hC hE cw_X8_isBetween ci_X8_isBetween wd1673 cs_X8_isBetween cd_X8_isBetween (by decide) (by decide) (Nat.le_of_ble_eq_true rfl) dX8_lineChar_13 rfl) (fun v2 _ => ?_)
  refine lx_if_eq hC 26 dX8_lineChar_16 (by decide) ?_ ?_
  · skip
    refine lx_aload_n hC dX8_lineChar_26 rfl 0 rfl ?_
    refine lx_iconstv (v := 1) hC dX8_lineChar_27 rfl ?_
    refine lx_callX hC hx (sat_X8_fails (xl X) hl 1 s1) (run_V (as := [.int 1]) (rest := []) hC hE ly8 rfl cw_X8_fails ci_X8_fails wd1676 cs_X8_fails ce_X8_fails cd_X8_fails (by decide) (by decide) (Nat.le_of_ble_eq_true rfl) dX8_lineChar_28 rfl) (fun v3 s4 _ => ?_)
    refine lx_i2c hC dX8_lineChar_31 ?_
    exact lx_zretn hC rfl hr (by simp) dX8_lineChar_32
  · skip
    refine lx_aload_n hC dX8_lineChar_19 rfl 0 rfl ?_
    refine lx_getR (q := 584) hC ly8 rfl 8 (by decide) rfl rfl inX8 wd1613 dX8_lineChar_20 ?_
    refine lx_iload_n hC dX8_lineChar_23 rfl 1 rfl ?_
    refine lx_caload hC ly584 dX8_lineChar_24 ?_
    exact lx_zretn hC rfl hr (by simp) dX8_lineChar_25
set_option maxRecDepth 100000 in
set_option maxHeartbeats 2000000 in
theorem n_X8_append (p0 : Int32) (s : Mem) : Mn s (m_X8_append p0 s) := by
  unfold m_X8_append
  refine mn_put (fun s1 => ?_)
  refine mn_bindP (fun v2 => ?_)
  refine mn_if ?_ ?_
  · skip
    refine mn_if ?_ ?_
    · skip
      refine mn_if ?_ mn_none
      refine mn_put (fun s3 => ?_)
      refine mn_put (fun s4 => ?_)
      exact mn_some
    · skip
      refine mn_bind (n_X8_fails 2 s1) (fun v5 s6 => ?_)
      exact mn_some
  · skip
    refine mn_bind (n_X8_fails 1 s1) (fun v7 s8 => ?_)
    exact mn_some
set_option maxRecDepth 100000 in
set_option maxHeartbeats 2000000 in
theorem sat_X8_append (l : Launch) (hl : l.stackTraces = false) (p0 : Int32) (s : Mem) : Sat l yX8_append (.code yX8_append cX8_append 2 (some .int)) 31 522 (fun x => some (.int x)) [.ref 8, .int p0] s (m_X8_append p0 s) := by
  refine sat_of hl (by decide) (Nat.le_of_ble_eq_true rfl) (fun X V A adV hxl hC hE hx hr => ?_) (n_X8_append p0 s)
  subst hxl
  show LX X V A 31 522 (nC s) (nS s) _ 0 [(0, .ref 8), (1, .int p0)] [] s _
  unfold m_X8_append
  refine lx_aload_n hC dX8_append_0 rfl 0 rfl ?_
  refine lx_iconstv (v := 0) hC dX8_append_1 rfl ?_
  refine lx_putI hC ly8 rfl 0 (by decide) rfl tyX8 tyX8_ok nmX8 rfl rfl rfl inX8 wd1605 dX8_append_2 (fun s1 => ?_)
  refine lx_iload_n hC dX8_append_5 rfl 1 rfl ?_
  refine lx_bipush (v := 32) hC dX8_append_6 (by decide) ?_
  refine lx_bipush (v := 126) hC dX8_append_8 (by decide) ?_
  refine lx_callP hC hx (sat_X8_isBetween (xl X) hl p0 32 126 s1) (run_S (as := [.int p0, .int 32, .int 126]) (rest := []) hC hE cw_X8_isBetween ci_X8_isBetween wd1673 cs_X8_isBetween cd_X8_isBetween (by decide) (by decide) (Nat.le_of_ble_eq_true rfl) dX8_append_10 rfl) (fun v2 _ => ?_)
  refine lx_if_ne hC 22 dX8_append_13 (by decide) ?_ ?_
  · skip
    refine lx_aload_n hC dX8_append_22 rfl 0 rfl ?_
    refine lx_getI hC ly8 rfl 11 (by decide) rfl inX8 wd1616 dX8_append_23 ?_
    refine lx_bipush (v := 60) hC dX8_append_26 (by decide) ?_
    refine lx_icmp_ne hC 37 dX8_append_28 (by decide) ?_ ?_
    · skip
      refine lx_aload_n hC dX8_append_37 rfl 0 rfl ?_
      refine lx_getR (q := 712) hC ly8 rfl 10 (by decide) rfl rfl inX8 wd1615 dX8_append_38 ?_
      refine lx_aload_n hC dX8_append_41 rfl 0 rfl ?_
      refine lx_getI hC ly8 rfl 11 (by decide) rfl inX8 wd1616 dX8_append_42 ?_
      refine lx_iload_n hC dX8_append_45 rfl 1 rfl ?_
      refine lx_castore hC ly712 dX8_append_46 (fun s3 => ?_)
      refine lx_aload_n hC dX8_append_47 rfl 0 rfl ?_
      refine lx_dup_ref hC dX8_append_48 ?_
      refine lx_getI hC ly8 rfl 11 (by decide) rfl inX8 wd1616 dX8_append_49 ?_
      refine lx_iconstv (v := 1) hC dX8_append_52 rfl ?_
      refine lx_iadd hC dX8_append_53 ?_
      refine lx_putI hC ly8 rfl 11 (by decide) rfl tyX8 tyX8_ok nmX8 rfl rfl rfl inX8 wd1616 dX8_append_54 (fun s4 => ?_)
      refine lx_aload_n hC dX8_append_57 rfl 0 rfl ?_
      refine lx_getI hC ly8 rfl 11 (by decide) rfl inX8 wd1616 dX8_append_58 ?_
      exact lx_iret hC rfl hr dX8_append_61
    · skip
      refine lx_aload_n hC dX8_append_31 rfl 0 rfl ?_
      refine lx_iconstv (v := 2) hC dX8_append_32 rfl ?_
      refine lx_callX hC hx (sat_X8_fails (xl X) hl 2 s1) (run_V (as := [.int 2]) (rest := []) hC hE ly8 rfl cw_X8_fails ci_X8_fails wd1676 cs_X8_fails ce_X8_fails cd_X8_fails (by decide) (by decide) (Nat.le_of_ble_eq_true rfl) dX8_append_33 rfl) (fun v5 s6 _ => ?_)
      exact lx_iret hC rfl hr dX8_append_36
  · skip
    refine lx_aload_n hC dX8_append_16 rfl 0 rfl ?_
    refine lx_iconstv (v := 1) hC dX8_append_17 rfl ?_
    refine lx_callX hC hx (sat_X8_fails (xl X) hl 1 s1) (run_V (as := [.int 1]) (rest := []) hC hE ly8 rfl cw_X8_fails ci_X8_fails wd1676 cs_X8_fails ce_X8_fails cd_X8_fails (by decide) (by decide) (Nat.le_of_ble_eq_true rfl) dX8_append_18 rfl) (fun v7 s8 _ => ?_)
    exact lx_iret hC rfl hr dX8_append_21
set_option maxRecDepth 100000 in
set_option maxHeartbeats 2000000 in
theorem sat_X8_nextChar (l : Launch) (hl : l.stackTraces = false) (s : Mem) : Sat l yX8_nextChar (.code yX8_nextChar cX8_nextChar 1 (some .int)) 30 500 (fun x => some (.int x)) [.ref 8] s (pur s (m_X8_nextChar s)) := by
  refine sat_of hl (by decide) (Nat.le_of_ble_eq_true rfl) (fun X V A adV hxl hC hE hx hr => ?_) pur_mono
  subst hxl
  show LX X V A 30 500 (nC s) (nS s) _ 0 [(0, .ref 8)] [] s _
  unfold m_X8_nextChar
  refine lx_aload_n hC dX8_nextChar_0 rfl 0 rfl ?_
  refine lx_getI hC ly8 rfl 12 (by decide) rfl inX8 wd1617 dX8_nextChar_1 ?_
  refine lx_aload_n hC dX8_nextChar_4 rfl 0 rfl ?_
  refine lx_getI hC ly8 rfl 11 (by decide) rfl inX8 wd1616 dX8_nextChar_5 ?_
  refine lq_icmp_ge hC 23 dX8_nextChar_8 (by decide) ?_ ?_
  · skip
    refine lx_iconstv (v := (-1)) hC dX8_nextChar_23 rfl ?_
    exact lx_iret hC rfl hr dX8_nextChar_24
  · skip
    refine lx_aload_n hC dX8_nextChar_11 rfl 0 rfl ?_
    refine lx_getR (q := 712) hC ly8 rfl 10 (by decide) rfl rfl inX8 wd1615 dX8_nextChar_12 ?_
    refine lx_aload_n hC dX8_nextChar_15 rfl 0 rfl ?_
    refine lx_getI hC ly8 rfl 12 (by decide) rfl inX8 wd1617 dX8_nextChar_16 ?_
    refine lq_caload hC ly712 dX8_nextChar_19 ?_
    refine lx_goto hC 24 dX8_nextChar_20 (by decide) ?_
    exact lx_iret hC rfl hr dX8_nextChar_24
set_option maxRecDepth 100000 in
set_option maxHeartbeats 2000000 in
theorem n_X8_reads (p0 : Int32) (s : Mem) : Mn s (m_X8_reads p0 s) := by
  unfold m_X8_reads
  refine mn_bindP (fun v1 => ?_)
  refine mn_if ?_ ?_
  · skip
    refine mn_put (fun s2 => ?_)
    exact mn_some
  · skip
    exact mn_some
set_option maxRecDepth 100000 in
set_option maxHeartbeats 2000000 in
theorem sat_X8_reads (l : Launch) (hl : l.stackTraces = false) (p0 : Int32) (s : Mem) : Sat l yX8_reads (.code yX8_reads cX8_reads 2 (some .boolean)) 31 520 (fun x => some (.int x)) [.ref 8, .int p0] s (m_X8_reads p0 s) := by
  refine sat_of hl (by decide) (Nat.le_of_ble_eq_true rfl) (fun X V A adV hxl hC hE hx hr => ?_) (n_X8_reads p0 s)
  subst hxl
  show LX X V A 31 520 (nC s) (nS s) _ 0 [(0, .ref 8), (1, .int p0)] [] s _
  unfold m_X8_reads
  refine lx_aload_n hC dX8_reads_0 rfl 0 rfl ?_
  refine lx_callP hC hx (sat_X8_nextChar (xl X) hl s) (run_V (as := []) (rest := []) hC hE ly8 rfl cw_X8_nextChar ci_X8_nextChar wd2102 cs_X8_nextChar ce_X8_nextChar cd_X8_nextChar (by decide) (by decide) (Nat.le_of_ble_eq_true rfl) dX8_reads_1 rfl) (fun v1 _ => ?_)
  refine lx_iload_n hC dX8_reads_4 rfl 1 rfl ?_
  refine lx_icmp_eq hC 10 dX8_reads_5 (by decide) ?_ ?_
  · skip
    refine lx_aload_n hC dX8_reads_10 rfl 0 rfl ?_
    refine lx_dup_ref hC dX8_reads_11 ?_
    refine lx_getI hC ly8 rfl 12 (by decide) rfl inX8 wd1617 dX8_reads_12 ?_
    refine lx_iconstv (v := 1) hC dX8_reads_15 rfl ?_
    refine lx_iadd hC dX8_reads_16 ?_
    refine lx_putI hC ly8 rfl 12 (by decide) rfl tyX8 tyX8_ok nmX8 rfl rfl rfl inX8 wd1617 dX8_reads_17 (fun s2 => ?_)
    refine lx_iconstv (v := 1) hC dX8_reads_20 rfl ?_
    exact lx_zret hC rfl hr rfl dX8_reads_21
  · skip
    refine lx_iconstv (v := 0) hC dX8_reads_8 rfl ?_
    exact lx_zret hC rfl hr rfl dX8_reads_9
set_option maxRecDepth 100000 in
set_option maxHeartbeats 2000000 in
theorem sat_X8_isDigitNext (l : Launch) (hl : l.stackTraces = false) (s : Mem) : Sat l yX8_isDigitNext (.code yX8_isDigitNext cX8_isDigitNext 1 (some .boolean)) 31 522 (fun x => some (.int x)) [.ref 8] s (pur s (m_X8_isDigitNext s)) := by
  refine sat_of hl (by decide) (Nat.le_of_ble_eq_true rfl) (fun X V A adV hxl hC hE hx hr => ?_) pur_mono
  subst hxl
  show LX X V A 31 522 (nC s) (nS s) _ 0 [(0, .ref 8)] [] s _
  unfold m_X8_isDigitNext
  refine lx_aload_n hC dX8_isDigitNext_0 rfl 0 rfl ?_
  refine lq_call hC hx (sat_X8_nextChar (xl X) hl s) (run_V (as := []) (rest := []) hC hE ly8 rfl cw_X8_nextChar ci_X8_nextChar wd2102 cs_X8_nextChar ce_X8_nextChar cd_X8_nextChar (by decide) (by decide) (Nat.le_of_ble_eq_true rfl) dX8_isDigitNext_1 rfl) (fun v1 _ => ?_)
  refine lx_bipush (v := 48) hC dX8_isDigitNext_4 (by decide) ?_
  refine lx_bipush (v := 57) hC dX8_isDigitNext_6 (by decide) ?_
  refine lq_call hC hx (sat_X8_isBetween (xl X) hl v1 48 57 s) (run_S (as := [.int v1, .int 48, .int 57]) (rest := []) hC hE cw_X8_isBetween ci_X8_isBetween wd1673 cs_X8_isBetween cd_X8_isBetween (by decide) (by decide) (Nat.le_of_ble_eq_true rfl) dX8_isDigitNext_8 rfl) (fun v2 _ => ?_)
  exact lq_zretn hC rfl hr (by simp) dX8_isDigitNext_11
set_option maxRecDepth 100000 in
set_option maxHeartbeats 2000000 in
theorem n_X8_readsDigit (p0 : Int32) (s : Mem) : Mn s (m_X8_readsDigit p0 s) := by
  unfold m_X8_readsDigit
  refine mn_bindP (fun v1 => ?_)
  refine mn_if ?_ ?_
  · skip
    refine mn_bindP (fun v2 => ?_)
    refine mn_if ?_ mn_none
    refine mn_put (fun s3 => ?_)
    refine mn_put (fun s4 => ?_)
    exact mn_some
  · skip
    exact mn_some
set_option maxRecDepth 100000 in
set_option maxHeartbeats 2000000 in
theorem sat_X8_readsDigit (l : Launch) (hl : l.stackTraces = false) (p0 : Int32) (s : Mem) : Sat l yX8_readsDigit (.code yX8_readsDigit cX8_readsDigit 2 (some .boolean)) 32 542 (fun x => some (.int x)) [.ref 8, .int p0] s (m_X8_readsDigit p0 s) := by
  refine sat_of hl (by decide) (Nat.le_of_ble_eq_true rfl) (fun X V A adV hxl hC hE hx hr => ?_) (n_X8_readsDigit p0 s)
  subst hxl
  show LX X V A 32 542 (nC s) (nS s) _ 0 [(0, .ref 8), (1, .int p0)] [] s _
  unfold m_X8_readsDigit
  refine lx_aload_n hC dX8_readsDigit_0 rfl 0 rfl ?_
  refine lx_callP hC hx (sat_X8_isDigitNext (xl X) hl s) (run_V (as := []) (rest := []) hC hE ly8 rfl cw_X8_isDigitNext ci_X8_isDigitNext wd2122 cs_X8_isDigitNext ce_X8_isDigitNext cd_X8_isDigitNext (by decide) (by decide) (Nat.le_of_ble_eq_true rfl) dX8_readsDigit_1 rfl) (fun v1 _ => ?_)
  refine lx_if_ne hC 9 dX8_readsDigit_4 (by decide) ?_ ?_
  · skip
    refine lx_aload_n hC dX8_readsDigit_9 rfl 0 rfl ?_
    refine lx_getR (q := 1032) hC ly8 rfl 15 (by decide) rfl rfl inX8 wd1620 dX8_readsDigit_10 ?_
    refine lx_iload_n hC dX8_readsDigit_13 rfl 1 rfl ?_
    refine lx_aload_n hC dX8_readsDigit_14 rfl 0 rfl ?_
    refine lx_callP hC hx (sat_X8_nextChar (xl X) hl s) (run_V (as := []) (rest := [.int p0, .ref 1032]) hC hE ly8 rfl cw_X8_nextChar ci_X8_nextChar wd2102 cs_X8_nextChar ce_X8_nextChar cd_X8_nextChar (by decide) (by decide) (Nat.le_of_ble_eq_true rfl) dX8_readsDigit_15 rfl) (fun v2 _ => ?_)
    refine lx_bipush (v := 48) hC dX8_readsDigit_18 (by decide) ?_
    refine lx_isub hC dX8_readsDigit_20 ?_
    refine lx_iastore hC ly1032 dX8_readsDigit_21 (fun s3 => ?_)
    refine lx_aload_n hC dX8_readsDigit_22 rfl 0 rfl ?_
    refine lx_dup_ref hC dX8_readsDigit_23 ?_
    refine lx_getI hC ly8 rfl 12 (by decide) rfl inX8 wd1617 dX8_readsDigit_24 ?_
    refine lx_iconstv (v := 1) hC dX8_readsDigit_27 rfl ?_
    refine lx_iadd hC dX8_readsDigit_28 ?_
    refine lx_putI hC ly8 rfl 12 (by decide) rfl tyX8 tyX8_ok nmX8 rfl rfl rfl inX8 wd1617 dX8_readsDigit_29 (fun s4 => ?_)
    refine lx_iconstv (v := 1) hC dX8_readsDigit_32 rfl ?_
    exact lx_zret hC rfl hr rfl dX8_readsDigit_33
  · skip
    refine lx_iconstv (v := 0) hC dX8_readsDigit_7 rfl ?_
    exact lx_zret hC rfl hr rfl dX8_readsDigit_8
set_option maxRecDepth 100000 in
set_option maxHeartbeats 2000000 in
theorem l_X8_readsNumber_b12 {X : Cx} {V : Vx} {A : Nat → Prop} {adV : Nat → Nat} {c0 s0 : Nat} (hC : Cok X V A yX8_readsNumber.cls cX8_readsNumber 3) (hE : Env0 V adV A (xs X) (xs X).heap) (hl : (xl X).stackTraces = false) (hx : ∀ x ∈ (xc X).exceptionTable.toList, False) (hr : (xh X).sig.returnType = some .boolean) (x3 : Int32) (s : Mem) (kf12 : (Int32 × Mem) → Res Int32) (hk12 : ∀ a, LX X V A 33 563 c0 s0 (FM X V A (fun x => some (.int x))) 12 [(0, .ref 8), (1, .int x3), (2, .int a.1)] [] a.2 (kf12 a)) (w2 : Int32) : LX X V A 33 563 c0 s0 (FM X V A (fun x => some (.int x))) 12 [(0, .ref 8), (1, .int x3), (2, .int w2)] [] s (m_X8_readsNumber_b12 x3 s kf12 w2 ) := by
  unfold m_X8_readsNumber_b12
  refine lx_iload_n hC dX8_readsNumber_12 rfl 2 rfl ?_
  refine lx_iconstv (v := 2) hC dX8_readsNumber_13 rfl ?_
  refine lx_icmp_ge hC 63 dX8_readsNumber_14 (by decide) ?_ ?_
  · skip
    refine lx_iconstv (v := 1) hC dX8_readsNumber_63 rfl ?_
    exact lx_zret hC rfl hr rfl dX8_readsNumber_64
  · skip
    refine lx_aload_n hC dX8_readsNumber_17 rfl 0 rfl ?_
    refine lx_callP hC hx (sat_X8_isDigitNext (xl X) hl s) (run_V (as := []) (rest := []) hC hE ly8 rfl cw_X8_isDigitNext ci_X8_isDigitNext wd2122 cs_X8_isDigitNext ce_X8_isDigitNext cd_X8_isDigitNext (by decide) (by decide) (Nat.le_of_ble_eq_true rfl) dX8_readsNumber_18 rfl) (fun v4 _ => ?_)
    refine lx_if_eq hC 63 dX8_readsNumber_21 (by decide) ?_ ?_
    · skip
      refine lx_iconstv (v := 1) hC dX8_readsNumber_63 rfl ?_
      exact lx_zret hC rfl hr rfl dX8_readsNumber_64
    · skip
      refine lx_aload_n hC dX8_readsNumber_24 rfl 0 rfl ?_
      refine lx_getR (q := 1032) hC ly8 rfl 15 (by decide) rfl rfl inX8 wd1620 dX8_readsNumber_25 ?_
      refine lx_iload_n hC dX8_readsNumber_28 rfl 1 rfl ?_
      refine lx_bipush (v := 10) hC dX8_readsNumber_29 (by decide) ?_
      refine lx_aload_n hC dX8_readsNumber_31 rfl 0 rfl ?_
      refine lx_getR (q := 1032) hC ly8 rfl 15 (by decide) rfl rfl inX8 wd1620 dX8_readsNumber_32 ?_
      refine lx_iload_n hC dX8_readsNumber_35 rfl 1 rfl ?_
      refine lx_iaload hC ly1032 dX8_readsNumber_36 ?_
      refine lx_imul hC dX8_readsNumber_37 ?_
      refine lx_aload_n hC dX8_readsNumber_38 rfl 0 rfl ?_
      refine lx_callP hC hx (sat_X8_nextChar (xl X) hl s) (run_V (as := []) (rest := [.int (10 * (gI s 1032 x3.toNatClampNeg)), .int x3, .ref 1032]) hC hE ly8 rfl cw_X8_nextChar ci_X8_nextChar wd2102 cs_X8_nextChar ce_X8_nextChar cd_X8_nextChar (by decide) (by decide) (Nat.le_of_ble_eq_true rfl) dX8_readsNumber_39 rfl) (fun v5 _ => ?_)
      refine lx_iadd hC dX8_readsNumber_42 ?_
      refine lx_bipush (v := 48) hC dX8_readsNumber_43 (by decide) ?_
      refine lx_isub hC dX8_readsNumber_45 ?_
      refine lx_iastore hC ly1032 dX8_readsNumber_46 (fun s6 => ?_)
      refine lx_aload_n hC dX8_readsNumber_47 rfl 0 rfl ?_
      refine lx_dup_ref hC dX8_readsNumber_48 ?_
      refine lx_getI hC ly8 rfl 12 (by decide) rfl inX8 wd1617 dX8_readsNumber_49 ?_
      refine lx_iconstv (v := 1) hC dX8_readsNumber_52 rfl ?_
      refine lx_iadd hC dX8_readsNumber_53 ?_
      refine lx_putI hC ly8 rfl 12 (by decide) rfl tyX8 tyX8_ok nmX8 rfl rfl rfl inX8 wd1617 dX8_readsNumber_54 (fun s7 => ?_)
      refine lx_iincN (v := 1) hC dX8_readsNumber_57 2 rfl (by decide) rfl (fun y8 => ?_)
      refine lx_goto hC 12 dX8_readsNumber_60 (by decide) ?_
      exact lx_sub [1, 2, 0] rfl (hk12 (y8, s7))
set_option maxRecDepth 100000 in
set_option maxHeartbeats 2000000 in
theorem n_X8_readsNumber_b12 (x3 : Int32) (s : Mem) (kf12 : (Int32 × Mem) → Res Int32) (hm12 : ∀ a, Mn a.2 (kf12 a)) (w2 : Int32) : Mn s (m_X8_readsNumber_b12 x3 s kf12 w2 ) := by
  unfold m_X8_readsNumber_b12
  refine mn_if ?_ ?_
  · skip
    exact mn_some
  · skip
    refine mn_bindP (fun v4 => ?_)
    refine mn_if ?_ ?_
    · skip
      exact mn_some
    · skip
      refine mn_if ?_ mn_none
      refine mn_bindP (fun v5 => ?_)
      refine mn_if ?_ mn_none
      refine mn_put (fun s6 => ?_)
      refine mn_put (fun s7 => ?_)
      refine mn_vl (fun y8 => ?_)
      exact hm12 (y8, s7)
set_option maxRecDepth 100000 in
set_option maxHeartbeats 2000000 in
theorem n_X8_readsNumber (p0 : Int32) (s : Mem) : Mn s (m_X8_readsNumber p0 s) := by
  unfold m_X8_readsNumber
  refine mn_bind (n_X8_readsDigit p0 s) (fun v1 s2 => ?_)
  refine mn_if ?_ ?_
  · skip
    exact mn_lp (sg := fun a => a.2) (fun kf hq a => n_X8_readsNumber_b12 p0 a.2 kf hq a.1) FUEL (0, s2)
  · skip
    exact mn_some
set_option maxRecDepth 100000 in
set_option maxHeartbeats 2000000 in
theorem sat_X8_readsNumber (l : Launch) (hl : l.stackTraces = false) (p0 : Int32) (s : Mem) : Sat l yX8_readsNumber (.code yX8_readsNumber cX8_readsNumber 3 (some .boolean)) 33 563 (fun x => some (.int x)) [.ref 8, .int p0] s (m_X8_readsNumber p0 s) := by
  refine sat_of hl (by decide) (Nat.le_of_ble_eq_true rfl) (fun X V A adV hxl hC hE hx hr => ?_) (n_X8_readsNumber p0 s)
  subst hxl
  show LX X V A 33 563 (nC s) (nS s) _ 0 [(0, .ref 8), (1, .int p0)] [] s _
  unfold m_X8_readsNumber
  refine lx_aload_n hC dX8_readsNumber_0 rfl 0 rfl ?_
  refine lx_iload_n hC dX8_readsNumber_1 rfl 1 rfl ?_
  refine lx_callX hC hx (sat_X8_readsDigit (xl X) hl p0 s) (run_V (as := [.int p0]) (rest := []) hC hE ly8 rfl cw_X8_readsDigit ci_X8_readsDigit wd2118 cs_X8_readsDigit ce_X8_readsDigit cd_X8_readsDigit (by decide) (by decide) (Nat.le_of_ble_eq_true rfl) dX8_readsNumber_2 rfl) (fun v1 s2 _ => ?_)
  refine lx_if_ne hC 10 dX8_readsNumber_5 (by decide) ?_ ?_
  · skip
    refine lx_iconstv (v := 0) hC dX8_readsNumber_10 rfl ?_
    refine lx_istore_n hC dX8_readsNumber_11 rfl (by decide) ?_
    refine lx_sub [1, 2, 0] rfl ?_
    exact lx_lp (lv := fun a => [(0, .ref 8), (1, .int p0), (2, .int a.1)]) (st := fun _ => []) (sg := fun a => a.2) (fun kf hq a => l_X8_readsNumber_b12 hC hE hl hx hr p0 a.2 kf hq a.1) FUEL (0, s2)
  · skip
    refine lx_iconstv (v := 0) hC dX8_readsNumber_8 rfl ?_
    exact lx_zret hC rfl hr rfl dX8_readsNumber_9
set_option maxRecDepth 100000 in
set_option maxHeartbeats 2000000 in
theorem n_X8_readsR (s : Mem) : Mn s (m_X8_readsR s) := by
  unfold m_X8_readsR
  refine mn_bind (n_X8_reads 111 s) (fun v1 s2 => ?_)
  refine mn_if ?_ ?_
  · skip
    refine mn_put (fun s3 => ?_)
    refine mn_bind (n_X8_reads 101 s3) (fun v4 s5 => ?_)
    refine mn_if ?_ ?_
    · skip
      exact mn_some
    · skip
      refine mn_bind (n_X8_reads 109 s5) (fun v6 s7 => ?_)
      refine mn_if ?_ ?_
      · skip
        exact mn_some
      · skip
        refine mn_bind (n_X8_reads 111 s7) (fun v8 s9 => ?_)
        refine mn_if ?_ ?_
        · skip
          exact mn_some
        · skip
          refine mn_bind (n_X8_reads 118 s9) (fun v10 s11 => ?_)
          refine mn_if ?_ ?_
          · skip
            exact mn_some
          · skip
            refine mn_bind (n_X8_reads 101 s11) (fun v12 s13 => ?_)
            refine mn_if ?_ ?_
            · skip
              exact mn_some
            · skip
              refine mn_bind (n_X8_reads 32 s13) (fun v14 s15 => ?_)
              refine mn_if ?_ ?_
              · skip
                exact mn_some
              · skip
                refine mn_bind (n_X8_readsNumber 0 s15) (fun v16 s17 => ?_)
                refine mn_if ?_ ?_
                · skip
                  exact mn_some
                · skip
                  exact mn_some
  · skip
    refine mn_bind (n_X8_reads 119 s2) (fun v18 s19 => ?_)
    refine mn_if ?_ ?_
    · skip
      exact mn_some
    · skip
      refine mn_bind (n_X8_reads 32 s19) (fun v20 s21 => ?_)
      refine mn_if ?_ ?_
      · skip
        exact mn_some
      · skip
        refine mn_bind (n_X8_readsNumber 0 s21) (fun v22 s23 => ?_)
        refine mn_if ?_ ?_
        · skip
          exact mn_some
        · skip
          exact mn_some
set_option maxRecDepth 100000 in
set_option maxHeartbeats 2000000 in
theorem sat_X8_readsR (l : Launch) (hl : l.stackTraces = false) (s : Mem) : Sat l yX8_readsR (.code yX8_readsR cX8_readsR 1 (some .boolean)) 34 585 (fun x => some (.int x)) [.ref 8] s (m_X8_readsR s) := by
  refine sat_of hl (by decide) (Nat.le_of_ble_eq_true rfl) (fun X V A adV hxl hC hE hx hr => ?_) (n_X8_readsR s)
  subst hxl
  show LX X V A 34 585 (nC s) (nS s) _ 0 [(0, .ref 8)] [] s _
  unfold m_X8_readsR
  refine lx_aload_n hC dX8_readsR_0 rfl 0 rfl ?_
  refine lx_bipush (v := 111) hC dX8_readsR_1 (by decide) ?_
  refine lx_callX hC hx (sat_X8_reads (xl X) hl 111 s) (run_V (as := [.int 111]) (rest := []) hC hE ly8 rfl cw_X8_reads ci_X8_reads wd2106 cs_X8_reads ce_X8_reads cd_X8_reads (by decide) (by decide) (Nat.le_of_ble_eq_true rfl) dX8_readsR_3 rfl) (fun v1 s2 _ => ?_)
  refine lx_if_eq hC 41 dX8_readsR_6 (by decide) ?_ ?_
  · skip
    refine lx_aload_n hC dX8_readsR_41 rfl 0 rfl ?_
    refine lx_bipush (v := 120) hC dX8_readsR_42 (by decide) ?_
    refine lx_putI hC ly8 rfl 16 (by decide) rfl tyX8 tyX8_ok nmX8 rfl rfl rfl inX8 wd1621 dX8_readsR_44 (fun s3 => ?_)
    refine lx_aload_n hC dX8_readsR_47 rfl 0 rfl ?_
    refine lx_bipush (v := 101) hC dX8_readsR_48 (by decide) ?_
    refine lx_callX hC hx (sat_X8_reads (xl X) hl 101 s3) (run_V (as := [.int 101]) (rest := []) hC hE ly8 rfl cw_X8_reads ci_X8_reads wd2106 cs_X8_reads ce_X8_reads cd_X8_reads (by decide) (by decide) (Nat.le_of_ble_eq_true rfl) dX8_readsR_50 rfl) (fun v4 s5 _ => ?_)
    refine lx_if_eq hC 113 dX8_readsR_53 (by decide) ?_ ?_
    · skip
      refine lx_iconstv (v := 0) hC dX8_readsR_113 rfl ?_
      exact lx_zret hC rfl hr rfl dX8_readsR_114
    · skip
      refine lx_aload_n hC dX8_readsR_56 rfl 0 rfl ?_
      refine lx_bipush (v := 109) hC dX8_readsR_57 (by decide) ?_
      refine lx_callX hC hx (sat_X8_reads (xl X) hl 109 s5) (run_V (as := [.int 109]) (rest := []) hC hE ly8 rfl cw_X8_reads ci_X8_reads wd2106 cs_X8_reads ce_X8_reads cd_X8_reads (by decide) (by decide) (Nat.le_of_ble_eq_true rfl) dX8_readsR_59 rfl) (fun v6 s7 _ => ?_)
      refine lx_if_eq hC 113 dX8_readsR_62 (by decide) ?_ ?_
      · skip
        refine lx_iconstv (v := 0) hC dX8_readsR_113 rfl ?_
        exact lx_zret hC rfl hr rfl dX8_readsR_114
      · skip
        refine lx_aload_n hC dX8_readsR_65 rfl 0 rfl ?_
        refine lx_bipush (v := 111) hC dX8_readsR_66 (by decide) ?_
        refine lx_callX hC hx (sat_X8_reads (xl X) hl 111 s7) (run_V (as := [.int 111]) (rest := []) hC hE ly8 rfl cw_X8_reads ci_X8_reads wd2106 cs_X8_reads ce_X8_reads cd_X8_reads (by decide) (by decide) (Nat.le_of_ble_eq_true rfl) dX8_readsR_68 rfl) (fun v8 s9 _ => ?_)
        refine lx_if_eq hC 113 dX8_readsR_71 (by decide) ?_ ?_
        · skip
          refine lx_iconstv (v := 0) hC dX8_readsR_113 rfl ?_
          exact lx_zret hC rfl hr rfl dX8_readsR_114
        · skip
          refine lx_aload_n hC dX8_readsR_74 rfl 0 rfl ?_
          refine lx_bipush (v := 118) hC dX8_readsR_75 (by decide) ?_
          refine lx_callX hC hx (sat_X8_reads (xl X) hl 118 s9) (run_V (as := [.int 118]) (rest := []) hC hE ly8 rfl cw_X8_reads ci_X8_reads wd2106 cs_X8_reads ce_X8_reads cd_X8_reads (by decide) (by decide) (Nat.le_of_ble_eq_true rfl) dX8_readsR_77 rfl) (fun v10 s11 _ => ?_)
          refine lx_if_eq hC 113 dX8_readsR_80 (by decide) ?_ ?_
          · skip
            refine lx_iconstv (v := 0) hC dX8_readsR_113 rfl ?_
            exact lx_zret hC rfl hr rfl dX8_readsR_114
          · skip
            refine lx_aload_n hC dX8_readsR_83 rfl 0 rfl ?_
            refine lx_bipush (v := 101) hC dX8_readsR_84 (by decide) ?_
            refine lx_callX hC hx (sat_X8_reads (xl X) hl 101 s11) (run_V (as := [.int 101]) (rest := []) hC hE ly8 rfl cw_X8_reads ci_X8_reads wd2106 cs_X8_reads ce_X8_reads cd_X8_reads (by decide) (by decide) (Nat.le_of_ble_eq_true rfl) dX8_readsR_86 rfl) (fun v12 s13 _ => ?_)
            refine lx_if_eq hC 113 dX8_readsR_89 (by decide) ?_ ?_
            · skip
              refine lx_iconstv (v := 0) hC dX8_readsR_113 rfl ?_
              exact lx_zret hC rfl hr rfl dX8_readsR_114
            · skip
              refine lx_aload_n hC dX8_readsR_92 rfl 0 rfl ?_
              refine lx_bipush (v := 32) hC dX8_readsR_93 (by decide) ?_
              refine lx_callX hC hx (sat_X8_reads (xl X) hl 32 s13) (run_V (as := [.int 32]) (rest := []) hC hE ly8 rfl cw_X8_reads ci_X8_reads wd2106 cs_X8_reads ce_X8_reads cd_X8_reads (by decide) (by decide) (Nat.le_of_ble_eq_true rfl) dX8_readsR_95 rfl) (fun v14 s15 _ => ?_)
              refine lx_if_eq hC 113 dX8_readsR_98 (by decide) ?_ ?_
              · skip
                refine lx_iconstv (v := 0) hC dX8_readsR_113 rfl ?_
                exact lx_zret hC rfl hr rfl dX8_readsR_114
              · skip
                refine lx_aload_n hC dX8_readsR_101 rfl 0 rfl ?_
                refine lx_iconstv (v := 0) hC dX8_readsR_102 rfl ?_
                refine lx_callX hC hx (sat_X8_readsNumber (xl X) hl 0 s15) (run_V (as := [.int 0]) (rest := []) hC hE ly8 rfl cw_X8_readsNumber ci_X8_readsNumber wd2114 cs_X8_readsNumber ce_X8_readsNumber cd_X8_readsNumber (by decide) (by decide) (Nat.le_of_ble_eq_true rfl) dX8_readsR_103 rfl) (fun v16 s17 _ => ?_)
                refine lx_if_eq hC 113 dX8_readsR_106 (by decide) ?_ ?_
                · skip
                  refine lx_iconstv (v := 0) hC dX8_readsR_113 rfl ?_
                  exact lx_zret hC rfl hr rfl dX8_readsR_114
                · skip
                  refine lx_iconstv (v := 1) hC dX8_readsR_109 rfl ?_
                  refine lx_goto hC 114 dX8_readsR_110 (by decide) ?_
                  exact lx_zret hC rfl hr rfl dX8_readsR_114
  · skip
    refine lx_aload_n hC dX8_readsR_9 rfl 0 rfl ?_
    refine lx_bipush (v := 119) hC dX8_readsR_10 (by decide) ?_
    refine lx_callX hC hx (sat_X8_reads (xl X) hl 119 s2) (run_V (as := [.int 119]) (rest := []) hC hE ly8 rfl cw_X8_reads ci_X8_reads wd2106 cs_X8_reads ce_X8_reads cd_X8_reads (by decide) (by decide) (Nat.le_of_ble_eq_true rfl) dX8_readsR_12 rfl) (fun v18 s19 _ => ?_)
    refine lx_if_eq hC 39 dX8_readsR_15 (by decide) ?_ ?_
    · skip
      refine lx_iconstv (v := 0) hC dX8_readsR_39 rfl ?_
      exact lx_zret hC rfl hr rfl dX8_readsR_40
    · skip
      refine lx_aload_n hC dX8_readsR_18 rfl 0 rfl ?_
      refine lx_bipush (v := 32) hC dX8_readsR_19 (by decide) ?_
      refine lx_callX hC hx (sat_X8_reads (xl X) hl 32 s19) (run_V (as := [.int 32]) (rest := []) hC hE ly8 rfl cw_X8_reads ci_X8_reads wd2106 cs_X8_reads ce_X8_reads cd_X8_reads (by decide) (by decide) (Nat.le_of_ble_eq_true rfl) dX8_readsR_21 rfl) (fun v20 s21 _ => ?_)
      refine lx_if_eq hC 39 dX8_readsR_24 (by decide) ?_ ?_
      · skip
        refine lx_iconstv (v := 0) hC dX8_readsR_39 rfl ?_
        exact lx_zret hC rfl hr rfl dX8_readsR_40
      · skip
        refine lx_aload_n hC dX8_readsR_27 rfl 0 rfl ?_
        refine lx_iconstv (v := 0) hC dX8_readsR_28 rfl ?_
        refine lx_callX hC hx (sat_X8_readsNumber (xl X) hl 0 s21) (run_V (as := [.int 0]) (rest := []) hC hE ly8 rfl cw_X8_readsNumber ci_X8_readsNumber wd2114 cs_X8_readsNumber ce_X8_readsNumber cd_X8_readsNumber (by decide) (by decide) (Nat.le_of_ble_eq_true rfl) dX8_readsR_29 rfl) (fun v22 s23 _ => ?_)
        refine lx_if_eq hC 39 dX8_readsR_32 (by decide) ?_ ?_
        · skip
          refine lx_iconstv (v := 0) hC dX8_readsR_39 rfl ?_
          exact lx_zret hC rfl hr rfl dX8_readsR_40
        · skip
          refine lx_iconstv (v := 1) hC dX8_readsR_35 rfl ?_
          refine lx_goto hC 40 dX8_readsR_36 (by decide) ?_
          exact lx_zret hC rfl hr rfl dX8_readsR_40
set_option maxRecDepth 100000 in
set_option maxHeartbeats 2000000 in
theorem n_X8_readsD (s : Mem) : Mn s (m_X8_readsD s) := by
  unfold m_X8_readsD
  refine mn_bind (n_X8_reads 105 s) (fun v1 s2 => ?_)
  refine mn_if ?_ ?_
  · skip
    exact mn_some
  · skip
    refine mn_bind (n_X8_reads 115 s2) (fun v3 s4 => ?_)
    refine mn_if ?_ ?_
    · skip
      refine mn_bind (n_X8_reads 109 s4) (fun v5 s6 => ?_)
      refine mn_if ?_ ?_
      · skip
        refine mn_put (fun s7 => ?_)
        refine mn_bind (n_X8_reads 111 s7) (fun v8 s9 => ?_)
        refine mn_if ?_ ?_
        · skip
          exact mn_some
        · skip
          refine mn_bind (n_X8_reads 119 s9) (fun v10 s11 => ?_)
          refine mn_if ?_ ?_
          · skip
            exact mn_some
          · skip
            refine mn_bind (n_X8_reads 110 s11) (fun v12 s13 => ?_)
            refine mn_if ?_ ?_
            · skip
              exact mn_some
            · skip
              refine mn_bind (n_X8_reads 32 s13) (fun v14 s15 => ?_)
              refine mn_if ?_ ?_
              · skip
                exact mn_some
              · skip
                refine mn_bind (n_X8_readsNumber 0 s15) (fun v16 s17 => ?_)
                refine mn_if ?_ ?_
                · skip
                  exact mn_some
                · skip
                  exact mn_some
      · skip
        refine mn_bind (n_X8_reads 105 s6) (fun v18 s19 => ?_)
        refine mn_if ?_ ?_
        · skip
          exact mn_some
        · skip
          refine mn_bind (n_X8_reads 115 s19) (fun v20 s21 => ?_)
          refine mn_if ?_ ?_
          · skip
            exact mn_some
          · skip
            refine mn_bind (n_X8_reads 115 s21) (fun v22 s23 => ?_)
            refine mn_if ?_ ?_
            · skip
              exact mn_some
            · skip
              refine mn_bind (n_X8_reads 32 s23) (fun v24 s25 => ?_)
              refine mn_if ?_ ?_
              · skip
                exact mn_some
              · skip
                refine mn_bind (n_X8_readsDigit 0 s25) (fun v26 s27 => ?_)
                refine mn_if ?_ ?_
                · skip
                  exact mn_some
                · skip
                  refine mn_bind (n_X8_reads 32 s27) (fun v28 s29 => ?_)
                  refine mn_if ?_ ?_
                  · skip
                    exact mn_some
                  · skip
                    refine mn_bind (n_X8_readsDigit 1 s29) (fun v30 s31 => ?_)
                    refine mn_if ?_ ?_
                    · skip
                      exact mn_some
                    · skip
                      exact mn_some
    · skip
      exact mn_some
set_option maxRecDepth 100000 in
set_option maxHeartbeats 2000000 in
theorem sat_X8_readsD (l : Launch) (hl : l.stackTraces = false) (s : Mem) : Sat l yX8_readsD (.code yX8_readsD cX8_readsD 1 (some .boolean)) 34 585 (fun x => some (.int x)) [.ref 8] s (m_X8_readsD s) := by
  refine sat_of hl (by decide) (Nat.le_of_ble_eq_true rfl) (fun X V A adV hxl hC hE hx hr => ?_) (n_X8_readsD s)
  subst hxl
  show LX X V A 34 585 (nC s) (nS s) _ 0 [(0, .ref 8)] [] s _
  unfold m_X8_readsD
  refine lx_aload_n hC dX8_readsD_0 rfl 0 rfl ?_
  refine lx_bipush (v := 105) hC dX8_readsD_1 (by decide) ?_
  refine lx_callX hC hx (sat_X8_reads (xl X) hl 105 s) (run_V (as := [.int 105]) (rest := []) hC hE ly8 rfl cw_X8_reads ci_X8_reads wd2106 cs_X8_reads ce_X8_reads cd_X8_reads (by decide) (by decide) (Nat.le_of_ble_eq_true rfl) dX8_readsD_3 rfl) (fun v1 s2 _ => ?_)
  refine lx_if_eq hC 18 dX8_readsD_6 (by decide) ?_ ?_
  · skip
    refine lx_iconstv (v := 0) hC dX8_readsD_18 rfl ?_
    exact lx_zret hC rfl hr rfl dX8_readsD_19
  · skip
    refine lx_aload_n hC dX8_readsD_9 rfl 0 rfl ?_
    refine lx_bipush (v := 115) hC dX8_readsD_10 (by decide) ?_
    refine lx_callX hC hx (sat_X8_reads (xl X) hl 115 s2) (run_V (as := [.int 115]) (rest := []) hC hE ly8 rfl cw_X8_reads ci_X8_reads wd2106 cs_X8_reads ce_X8_reads cd_X8_reads (by decide) (by decide) (Nat.le_of_ble_eq_true rfl) dX8_readsD_12 rfl) (fun v3 s4 _ => ?_)
    refine lx_if_ne hC 20 dX8_readsD_15 (by decide) ?_ ?_
    · skip
      refine lx_aload_n hC dX8_readsD_20 rfl 0 rfl ?_
      refine lx_bipush (v := 109) hC dX8_readsD_21 (by decide) ?_
      refine lx_callX hC hx (sat_X8_reads (xl X) hl 109 s4) (run_V (as := [.int 109]) (rest := []) hC hE ly8 rfl cw_X8_reads ci_X8_reads wd2106 cs_X8_reads ce_X8_reads cd_X8_reads (by decide) (by decide) (Nat.le_of_ble_eq_true rfl) dX8_readsD_23 rfl) (fun v5 s6 _ => ?_)
      refine lx_if_eq hC 96 dX8_readsD_26 (by decide) ?_ ?_
      · skip
        refine lx_aload_n hC dX8_readsD_96 rfl 0 rfl ?_
        refine lx_bipush (v := 111) hC dX8_readsD_97 (by decide) ?_
        refine lx_putI hC ly8 rfl 16 (by decide) rfl tyX8 tyX8_ok nmX8 rfl rfl rfl inX8 wd1621 dX8_readsD_99 (fun s7 => ?_)
        refine lx_aload_n hC dX8_readsD_102 rfl 0 rfl ?_
        refine lx_bipush (v := 111) hC dX8_readsD_103 (by decide) ?_
        refine lx_callX hC hx (sat_X8_reads (xl X) hl 111 s7) (run_V (as := [.int 111]) (rest := []) hC hE ly8 rfl cw_X8_reads ci_X8_reads wd2106 cs_X8_reads ce_X8_reads cd_X8_reads (by decide) (by decide) (Nat.le_of_ble_eq_true rfl) dX8_readsD_105 rfl) (fun v8 s9 _ => ?_)
        refine lx_if_eq hC 150 dX8_readsD_108 (by decide) ?_ ?_
        · skip
          refine lx_iconstv (v := 0) hC dX8_readsD_150 rfl ?_
          exact lx_zret hC rfl hr rfl dX8_readsD_151
        · skip
          refine lx_aload_n hC dX8_readsD_111 rfl 0 rfl ?_
          refine lx_bipush (v := 119) hC dX8_readsD_112 (by decide) ?_
          refine lx_callX hC hx (sat_X8_reads (xl X) hl 119 s9) (run_V (as := [.int 119]) (rest := []) hC hE ly8 rfl cw_X8_reads ci_X8_reads wd2106 cs_X8_reads ce_X8_reads cd_X8_reads (by decide) (by decide) (Nat.le_of_ble_eq_true rfl) dX8_readsD_114 rfl) (fun v10 s11 _ => ?_)
          refine lx_if_eq hC 150 dX8_readsD_117 (by decide) ?_ ?_
          · skip
            refine lx_iconstv (v := 0) hC dX8_readsD_150 rfl ?_
            exact lx_zret hC rfl hr rfl dX8_readsD_151
          · skip
            refine lx_aload_n hC dX8_readsD_120 rfl 0 rfl ?_
            refine lx_bipush (v := 110) hC dX8_readsD_121 (by decide) ?_
            refine lx_callX hC hx (sat_X8_reads (xl X) hl 110 s11) (run_V (as := [.int 110]) (rest := []) hC hE ly8 rfl cw_X8_reads ci_X8_reads wd2106 cs_X8_reads ce_X8_reads cd_X8_reads (by decide) (by decide) (Nat.le_of_ble_eq_true rfl) dX8_readsD_123 rfl) (fun v12 s13 _ => ?_)
            refine lx_if_eq hC 150 dX8_readsD_126 (by decide) ?_ ?_
            · skip
              refine lx_iconstv (v := 0) hC dX8_readsD_150 rfl ?_
              exact lx_zret hC rfl hr rfl dX8_readsD_151
            · skip
              refine lx_aload_n hC dX8_readsD_129 rfl 0 rfl ?_
              refine lx_bipush (v := 32) hC dX8_readsD_130 (by decide) ?_
              refine lx_callX hC hx (sat_X8_reads (xl X) hl 32 s13) (run_V (as := [.int 32]) (rest := []) hC hE ly8 rfl cw_X8_reads ci_X8_reads wd2106 cs_X8_reads ce_X8_reads cd_X8_reads (by decide) (by decide) (Nat.le_of_ble_eq_true rfl) dX8_readsD_132 rfl) (fun v14 s15 _ => ?_)
              refine lx_if_eq hC 150 dX8_readsD_135 (by decide) ?_ ?_
              · skip
                refine lx_iconstv (v := 0) hC dX8_readsD_150 rfl ?_
                exact lx_zret hC rfl hr rfl dX8_readsD_151
              · skip
                refine lx_aload_n hC dX8_readsD_138 rfl 0 rfl ?_
                refine lx_iconstv (v := 0) hC dX8_readsD_139 rfl ?_
                refine lx_callX hC hx (sat_X8_readsNumber (xl X) hl 0 s15) (run_V (as := [.int 0]) (rest := []) hC hE ly8 rfl cw_X8_readsNumber ci_X8_readsNumber wd2114 cs_X8_readsNumber ce_X8_readsNumber cd_X8_readsNumber (by decide) (by decide) (Nat.le_of_ble_eq_true rfl) dX8_readsD_140 rfl) (fun v16 s17 _ => ?_)
                refine lx_if_eq hC 150 dX8_readsD_143 (by decide) ?_ ?_
                · skip
                  refine lx_iconstv (v := 0) hC dX8_readsD_150 rfl ?_
                  exact lx_zret hC rfl hr rfl dX8_readsD_151
                · skip
                  refine lx_iconstv (v := 1) hC dX8_readsD_146 rfl ?_
                  refine lx_goto hC 151 dX8_readsD_147 (by decide) ?_
                  exact lx_zret hC rfl hr rfl dX8_readsD_151
      · skip
        refine lx_aload_n hC dX8_readsD_29 rfl 0 rfl ?_
        refine lx_bipush (v := 105) hC dX8_readsD_30 (by decide) ?_
        refine lx_callX hC hx (sat_X8_reads (xl X) hl 105 s6) (run_V (as := [.int 105]) (rest := []) hC hE ly8 rfl cw_X8_reads ci_X8_reads wd2106 cs_X8_reads ce_X8_reads cd_X8_reads (by decide) (by decide) (Nat.le_of_ble_eq_true rfl) dX8_readsD_32 rfl) (fun v18 s19 _ => ?_)
        refine lx_if_eq hC 94 dX8_readsD_35 (by decide) ?_ ?_
        · skip
          refine lx_iconstv (v := 0) hC dX8_readsD_94 rfl ?_
          exact lx_zret hC rfl hr rfl dX8_readsD_95
        · skip
          refine lx_aload_n hC dX8_readsD_38 rfl 0 rfl ?_
          refine lx_bipush (v := 115) hC dX8_readsD_39 (by decide) ?_
          refine lx_callX hC hx (sat_X8_reads (xl X) hl 115 s19) (run_V (as := [.int 115]) (rest := []) hC hE ly8 rfl cw_X8_reads ci_X8_reads wd2106 cs_X8_reads ce_X8_reads cd_X8_reads (by decide) (by decide) (Nat.le_of_ble_eq_true rfl) dX8_readsD_41 rfl) (fun v20 s21 _ => ?_)
          refine lx_if_eq hC 94 dX8_readsD_44 (by decide) ?_ ?_
          · skip
            refine lx_iconstv (v := 0) hC dX8_readsD_94 rfl ?_
            exact lx_zret hC rfl hr rfl dX8_readsD_95
          · skip
            refine lx_aload_n hC dX8_readsD_47 rfl 0 rfl ?_
            refine lx_bipush (v := 115) hC dX8_readsD_48 (by decide) ?_
            refine lx_callX hC hx (sat_X8_reads (xl X) hl 115 s21) (run_V (as := [.int 115]) (rest := []) hC hE ly8 rfl cw_X8_reads ci_X8_reads wd2106 cs_X8_reads ce_X8_reads cd_X8_reads (by decide) (by decide) (Nat.le_of_ble_eq_true rfl) dX8_readsD_50 rfl) (fun v22 s23 _ => ?_)
            refine lx_if_eq hC 94 dX8_readsD_53 (by decide) ?_ ?_
            · skip
              refine lx_iconstv (v := 0) hC dX8_readsD_94 rfl ?_
              exact lx_zret hC rfl hr rfl dX8_readsD_95
            · skip
              refine lx_aload_n hC dX8_readsD_56 rfl 0 rfl ?_
              refine lx_bipush (v := 32) hC dX8_readsD_57 (by decide) ?_
              refine lx_callX hC hx (sat_X8_reads (xl X) hl 32 s23) (run_V (as := [.int 32]) (rest := []) hC hE ly8 rfl cw_X8_reads ci_X8_reads wd2106 cs_X8_reads ce_X8_reads cd_X8_reads (by decide) (by decide) (Nat.le_of_ble_eq_true rfl) dX8_readsD_59 rfl) (fun v24 s25 _ => ?_)
              refine lx_if_eq hC 94 dX8_readsD_62 (by decide) ?_ ?_
              · skip
                refine lx_iconstv (v := 0) hC dX8_readsD_94 rfl ?_
                exact lx_zret hC rfl hr rfl dX8_readsD_95
              · skip
                refine lx_aload_n hC dX8_readsD_65 rfl 0 rfl ?_
                refine lx_iconstv (v := 0) hC dX8_readsD_66 rfl ?_
                refine lx_callX hC hx (sat_X8_readsDigit (xl X) hl 0 s25) (run_V (as := [.int 0]) (rest := []) hC hE ly8 rfl cw_X8_readsDigit ci_X8_readsDigit wd2118 cs_X8_readsDigit ce_X8_readsDigit cd_X8_readsDigit (by decide) (by decide) (Nat.le_of_ble_eq_true rfl) dX8_readsD_67 rfl) (fun v26 s27 _ => ?_)
                refine lx_if_eq hC 94 dX8_readsD_70 (by decide) ?_ ?_
                · skip
                  refine lx_iconstv (v := 0) hC dX8_readsD_94 rfl ?_
                  exact lx_zret hC rfl hr rfl dX8_readsD_95
                · skip
                  refine lx_aload_n hC dX8_readsD_73 rfl 0 rfl ?_
                  refine lx_bipush (v := 32) hC dX8_readsD_74 (by decide) ?_
                  refine lx_callX hC hx (sat_X8_reads (xl X) hl 32 s27) (run_V (as := [.int 32]) (rest := []) hC hE ly8 rfl cw_X8_reads ci_X8_reads wd2106 cs_X8_reads ce_X8_reads cd_X8_reads (by decide) (by decide) (Nat.le_of_ble_eq_true rfl) dX8_readsD_76 rfl) (fun v28 s29 _ => ?_)
                  refine lx_if_eq hC 94 dX8_readsD_79 (by decide) ?_ ?_
                  · skip
                    refine lx_iconstv (v := 0) hC dX8_readsD_94 rfl ?_
                    exact lx_zret hC rfl hr rfl dX8_readsD_95
                  · skip
                    refine lx_aload_n hC dX8_readsD_82 rfl 0 rfl ?_
                    refine lx_iconstv (v := 1) hC dX8_readsD_83 rfl ?_
                    refine lx_callX hC hx (sat_X8_readsDigit (xl X) hl 1 s29) (run_V (as := [.int 1]) (rest := []) hC hE ly8 rfl cw_X8_readsDigit ci_X8_readsDigit wd2118 cs_X8_readsDigit ce_X8_readsDigit cd_X8_readsDigit (by decide) (by decide) (Nat.le_of_ble_eq_true rfl) dX8_readsD_84 rfl) (fun v30 s31 _ => ?_)
                    refine lx_if_eq hC 94 dX8_readsD_87 (by decide) ?_ ?_
                    · skip
                      refine lx_iconstv (v := 0) hC dX8_readsD_94 rfl ?_
                      exact lx_zret hC rfl hr rfl dX8_readsD_95
                    · skip
                      refine lx_iconstv (v := 1) hC dX8_readsD_90 rfl ?_
                      refine lx_goto hC 95 dX8_readsD_91 (by decide) ?_
                      exact lx_zret hC rfl hr rfl dX8_readsD_95
    · skip
      refine lx_iconstv (v := 0) hC dX8_readsD_18 rfl ?_
      exact lx_zret hC rfl hr rfl dX8_readsD_19
set_option maxRecDepth 100000 in
set_option maxHeartbeats 2000000 in
theorem n_X8_readsPhantoms (s : Mem) : Mn s (m_X8_readsPhantoms s) := by
  unfold m_X8_readsPhantoms
  refine mn_bind (n_X8_reads 104 s) (fun v1 s2 => ?_)
  refine mn_if ?_ ?_
  · skip
    exact mn_some
  · skip
    refine mn_bind (n_X8_reads 97 s2) (fun v3 s4 => ?_)
    refine mn_if ?_ ?_
    · skip
      exact mn_some
    · skip
      refine mn_bind (n_X8_reads 110 s4) (fun v5 s6 => ?_)
      refine mn_if ?_ ?_
      · skip
        exact mn_some
      · skip
        refine mn_bind (n_X8_reads 116 s6) (fun v7 s8 => ?_)
        refine mn_if ?_ ?_
        · skip
          exact mn_some
        · skip
          refine mn_bind (n_X8_reads 111 s8) (fun v9 s10 => ?_)
          refine mn_if ?_ ?_
          · skip
            exact mn_some
          · skip
            refine mn_bind (n_X8_reads 109 s10) (fun v11 s12 => ?_)
            refine mn_if ?_ ?_
            · skip
              exact mn_some
            · skip
              refine mn_bind (n_X8_reads 115 s12) (fun v13 s14 => ?_)
              refine mn_if ?_ ?_
              · skip
                refine mn_bind (n_X8_reads 32 s14) (fun v15 s16 => ?_)
                refine mn_if ?_ ?_
                · skip
                  exact mn_some
                · skip
                  refine mn_bind (n_X8_readsDigit 0 s16) (fun v17 s18 => ?_)
                  refine mn_if ?_ ?_
                  · skip
                    exact mn_some
                  · skip
                    refine mn_bind (n_X8_reads 32 s18) (fun v19 s20 => ?_)
                    refine mn_if ?_ ?_
                    · skip
                      exact mn_some
                    · skip
                      refine mn_bind (n_X8_readsDigit 1 s20) (fun v21 s22 => ?_)
                      refine mn_if ?_ ?_
                      · skip
                        exact mn_some
                      · skip
                        exact mn_some
              · skip
                exact mn_some
set_option maxRecDepth 100000 in
set_option maxHeartbeats 2000000 in
theorem sat_X8_readsPhantoms (l : Launch) (hl : l.stackTraces = false) (s : Mem) : Sat l yX8_readsPhantoms (.code yX8_readsPhantoms cX8_readsPhantoms 1 (some .boolean)) 33 563 (fun x => some (.int x)) [.ref 8] s (m_X8_readsPhantoms s) := by
  refine sat_of hl (by decide) (Nat.le_of_ble_eq_true rfl) (fun X V A adV hxl hC hE hx hr => ?_) (n_X8_readsPhantoms s)
  subst hxl
  show LX X V A 33 563 (nC s) (nS s) _ 0 [(0, .ref 8)] [] s _
  unfold m_X8_readsPhantoms
  refine lx_aload_n hC dX8_readsPhantoms_0 rfl 0 rfl ?_
  refine lx_bipush (v := 104) hC dX8_readsPhantoms_1 (by decide) ?_
  refine lx_callX hC hx (sat_X8_reads (xl X) hl 104 s) (run_V (as := [.int 104]) (rest := []) hC hE ly8 rfl cw_X8_reads ci_X8_reads wd2106 cs_X8_reads ce_X8_reads cd_X8_reads (by decide) (by decide) (Nat.le_of_ble_eq_true rfl) dX8_readsPhantoms_3 rfl) (fun v1 s2 _ => ?_)
  refine lx_if_eq hC 63 dX8_readsPhantoms_6 (by decide) ?_ ?_
  · skip
    refine lx_iconstv (v := 0) hC dX8_readsPhantoms_63 rfl ?_
    exact lx_zret hC rfl hr rfl dX8_readsPhantoms_64
  · skip
    refine lx_aload_n hC dX8_readsPhantoms_9 rfl 0 rfl ?_
    refine lx_bipush (v := 97) hC dX8_readsPhantoms_10 (by decide) ?_
    refine lx_callX hC hx (sat_X8_reads (xl X) hl 97 s2) (run_V (as := [.int 97]) (rest := []) hC hE ly8 rfl cw_X8_reads ci_X8_reads wd2106 cs_X8_reads ce_X8_reads cd_X8_reads (by decide) (by decide) (Nat.le_of_ble_eq_true rfl) dX8_readsPhantoms_12 rfl) (fun v3 s4 _ => ?_)
    refine lx_if_eq hC 63 dX8_readsPhantoms_15 (by decide) ?_ ?_
    · skip
      refine lx_iconstv (v := 0) hC dX8_readsPhantoms_63 rfl ?_
      exact lx_zret hC rfl hr rfl dX8_readsPhantoms_64
    · skip
      refine lx_aload_n hC dX8_readsPhantoms_18 rfl 0 rfl ?_
      refine lx_bipush (v := 110) hC dX8_readsPhantoms_19 (by decide) ?_
      refine lx_callX hC hx (sat_X8_reads (xl X) hl 110 s4) (run_V (as := [.int 110]) (rest := []) hC hE ly8 rfl cw_X8_reads ci_X8_reads wd2106 cs_X8_reads ce_X8_reads cd_X8_reads (by decide) (by decide) (Nat.le_of_ble_eq_true rfl) dX8_readsPhantoms_21 rfl) (fun v5 s6 _ => ?_)
      refine lx_if_eq hC 63 dX8_readsPhantoms_24 (by decide) ?_ ?_
      · skip
        refine lx_iconstv (v := 0) hC dX8_readsPhantoms_63 rfl ?_
        exact lx_zret hC rfl hr rfl dX8_readsPhantoms_64
      · skip
        refine lx_aload_n hC dX8_readsPhantoms_27 rfl 0 rfl ?_
        refine lx_bipush (v := 116) hC dX8_readsPhantoms_28 (by decide) ?_
        refine lx_callX hC hx (sat_X8_reads (xl X) hl 116 s6) (run_V (as := [.int 116]) (rest := []) hC hE ly8 rfl cw_X8_reads ci_X8_reads wd2106 cs_X8_reads ce_X8_reads cd_X8_reads (by decide) (by decide) (Nat.le_of_ble_eq_true rfl) dX8_readsPhantoms_30 rfl) (fun v7 s8 _ => ?_)
        refine lx_if_eq hC 63 dX8_readsPhantoms_33 (by decide) ?_ ?_
        · skip
          refine lx_iconstv (v := 0) hC dX8_readsPhantoms_63 rfl ?_
          exact lx_zret hC rfl hr rfl dX8_readsPhantoms_64
        · skip
          refine lx_aload_n hC dX8_readsPhantoms_36 rfl 0 rfl ?_
          refine lx_bipush (v := 111) hC dX8_readsPhantoms_37 (by decide) ?_
          refine lx_callX hC hx (sat_X8_reads (xl X) hl 111 s8) (run_V (as := [.int 111]) (rest := []) hC hE ly8 rfl cw_X8_reads ci_X8_reads wd2106 cs_X8_reads ce_X8_reads cd_X8_reads (by decide) (by decide) (Nat.le_of_ble_eq_true rfl) dX8_readsPhantoms_39 rfl) (fun v9 s10 _ => ?_)
          refine lx_if_eq hC 63 dX8_readsPhantoms_42 (by decide) ?_ ?_
          · skip
            refine lx_iconstv (v := 0) hC dX8_readsPhantoms_63 rfl ?_
            exact lx_zret hC rfl hr rfl dX8_readsPhantoms_64
          · skip
            refine lx_aload_n hC dX8_readsPhantoms_45 rfl 0 rfl ?_
            refine lx_bipush (v := 109) hC dX8_readsPhantoms_46 (by decide) ?_
            refine lx_callX hC hx (sat_X8_reads (xl X) hl 109 s10) (run_V (as := [.int 109]) (rest := []) hC hE ly8 rfl cw_X8_reads ci_X8_reads wd2106 cs_X8_reads ce_X8_reads cd_X8_reads (by decide) (by decide) (Nat.le_of_ble_eq_true rfl) dX8_readsPhantoms_48 rfl) (fun v11 s12 _ => ?_)
            refine lx_if_eq hC 63 dX8_readsPhantoms_51 (by decide) ?_ ?_
            · skip
              refine lx_iconstv (v := 0) hC dX8_readsPhantoms_63 rfl ?_
              exact lx_zret hC rfl hr rfl dX8_readsPhantoms_64
            · skip
              refine lx_aload_n hC dX8_readsPhantoms_54 rfl 0 rfl ?_
              refine lx_bipush (v := 115) hC dX8_readsPhantoms_55 (by decide) ?_
              refine lx_callX hC hx (sat_X8_reads (xl X) hl 115 s12) (run_V (as := [.int 115]) (rest := []) hC hE ly8 rfl cw_X8_reads ci_X8_reads wd2106 cs_X8_reads ce_X8_reads cd_X8_reads (by decide) (by decide) (Nat.le_of_ble_eq_true rfl) dX8_readsPhantoms_57 rfl) (fun v13 s14 _ => ?_)
              refine lx_if_ne hC 65 dX8_readsPhantoms_60 (by decide) ?_ ?_
              · skip
                refine lx_aload_n hC dX8_readsPhantoms_65 rfl 0 rfl ?_
                refine lx_bipush (v := 32) hC dX8_readsPhantoms_66 (by decide) ?_
                refine lx_callX hC hx (sat_X8_reads (xl X) hl 32 s14) (run_V (as := [.int 32]) (rest := []) hC hE ly8 rfl cw_X8_reads ci_X8_reads wd2106 cs_X8_reads ce_X8_reads cd_X8_reads (by decide) (by decide) (Nat.le_of_ble_eq_true rfl) dX8_readsPhantoms_68 rfl) (fun v15 s16 _ => ?_)
                refine lx_if_eq hC 103 dX8_readsPhantoms_71 (by decide) ?_ ?_
                · skip
                  refine lx_iconstv (v := 0) hC dX8_readsPhantoms_103 rfl ?_
                  exact lx_zret hC rfl hr rfl dX8_readsPhantoms_104
                · skip
                  refine lx_aload_n hC dX8_readsPhantoms_74 rfl 0 rfl ?_
                  refine lx_iconstv (v := 0) hC dX8_readsPhantoms_75 rfl ?_
                  refine lx_callX hC hx (sat_X8_readsDigit (xl X) hl 0 s16) (run_V (as := [.int 0]) (rest := []) hC hE ly8 rfl cw_X8_readsDigit ci_X8_readsDigit wd2118 cs_X8_readsDigit ce_X8_readsDigit cd_X8_readsDigit (by decide) (by decide) (Nat.le_of_ble_eq_true rfl) dX8_readsPhantoms_76 rfl) (fun v17 s18 _ => ?_)
                  refine lx_if_eq hC 103 dX8_readsPhantoms_79 (by decide) ?_ ?_
                  · skip
                    refine lx_iconstv (v := 0) hC dX8_readsPhantoms_103 rfl ?_
                    exact lx_zret hC rfl hr rfl dX8_readsPhantoms_104
                  · skip
                    refine lx_aload_n hC dX8_readsPhantoms_82 rfl 0 rfl ?_
                    refine lx_bipush (v := 32) hC dX8_readsPhantoms_83 (by decide) ?_
                    refine lx_callX hC hx (sat_X8_reads (xl X) hl 32 s18) (run_V (as := [.int 32]) (rest := []) hC hE ly8 rfl cw_X8_reads ci_X8_reads wd2106 cs_X8_reads ce_X8_reads cd_X8_reads (by decide) (by decide) (Nat.le_of_ble_eq_true rfl) dX8_readsPhantoms_85 rfl) (fun v19 s20 _ => ?_)
                    refine lx_if_eq hC 103 dX8_readsPhantoms_88 (by decide) ?_ ?_
                    · skip
                      refine lx_iconstv (v := 0) hC dX8_readsPhantoms_103 rfl ?_
                      exact lx_zret hC rfl hr rfl dX8_readsPhantoms_104
                    · skip
                      refine lx_aload_n hC dX8_readsPhantoms_91 rfl 0 rfl ?_
                      refine lx_iconstv (v := 1) hC dX8_readsPhantoms_92 rfl ?_
                      refine lx_callX hC hx (sat_X8_readsDigit (xl X) hl 1 s20) (run_V (as := [.int 1]) (rest := []) hC hE ly8 rfl cw_X8_readsDigit ci_X8_readsDigit wd2118 cs_X8_readsDigit ce_X8_readsDigit cd_X8_readsDigit (by decide) (by decide) (Nat.le_of_ble_eq_true rfl) dX8_readsPhantoms_93 rfl) (fun v21 s22 _ => ?_)
                      refine lx_if_eq hC 103 dX8_readsPhantoms_96 (by decide) ?_ ?_
                      · skip
                        refine lx_iconstv (v := 0) hC dX8_readsPhantoms_103 rfl ?_
                        exact lx_zret hC rfl hr rfl dX8_readsPhantoms_104
                      · skip
                        refine lx_iconstv (v := 1) hC dX8_readsPhantoms_99 rfl ?_
                        refine lx_goto hC 104 dX8_readsPhantoms_100 (by decide) ?_
                        exact lx_zret hC rfl hr rfl dX8_readsPhantoms_104
              · skip
                refine lx_iconstv (v := 0) hC dX8_readsPhantoms_63 rfl ?_
                exact lx_zret hC rfl hr rfl dX8_readsPhantoms_64
set_option maxRecDepth 100000 in
set_option maxHeartbeats 2000000 in
theorem n_X8_readsBox (s : Mem) : Mn s (m_X8_readsBox s) := by
  unfold m_X8_readsBox
  refine mn_bind (n_X8_reads 111 s) (fun v1 s2 => ?_)
  refine mn_if ?_ ?_
  · skip
    exact mn_some
  · skip
    refine mn_bind (n_X8_reads 120 s2) (fun v3 s4 => ?_)
    refine mn_if ?_ ?_
    · skip
      exact mn_some
    · skip
      refine mn_bind (n_X8_reads 32 s4) (fun v5 s6 => ?_)
      refine mn_if ?_ ?_
      · skip
        refine mn_bindP (fun v7 => ?_)
        refine mn_if ?_ mn_none
        refine mn_put (fun s8 => ?_)
        refine mn_bindP (fun v9 => ?_)
        refine mn_bindP (fun v10 => ?_)
        refine mn_if ?_ ?_
        · skip
          refine mn_put (fun s11 => ?_)
          refine mn_bind (n_X8_reads 32 s11) (fun v12 s13 => ?_)
          refine mn_if ?_ ?_
          · skip
            exact mn_some
          · skip
            refine mn_bind (n_X8_readsDigit 1 s13) (fun v14 s15 => ?_)
            refine mn_if ?_ ?_
            · skip
              exact mn_some
            · skip
              exact mn_some
        · skip
          exact mn_some
      · skip
        exact mn_some
set_option maxRecDepth 100000 in
set_option maxHeartbeats 2000000 in
theorem sat_X8_readsBox (l : Launch) (hl : l.stackTraces = false) (s : Mem) : Sat l yX8_readsBox (.code yX8_readsBox cX8_readsBox 1 (some .boolean)) 33 563 (fun x => some (.int x)) [.ref 8] s (m_X8_readsBox s) := by
  refine sat_of hl (by decide) (Nat.le_of_ble_eq_true rfl) (fun X V A adV hxl hC hE hx hr => ?_) (n_X8_readsBox s)
  subst hxl
  show LX X V A 33 563 (nC s) (nS s) _ 0 [(0, .ref 8)] [] s _
  unfold m_X8_readsBox
  refine lx_aload_n hC dX8_readsBox_0 rfl 0 rfl ?_
  refine lx_bipush (v := 111) hC dX8_readsBox_1 (by decide) ?_
  refine lx_callX hC hx (sat_X8_reads (xl X) hl 111 s) (run_V (as := [.int 111]) (rest := []) hC hE ly8 rfl cw_X8_reads ci_X8_reads wd2106 cs_X8_reads ce_X8_reads cd_X8_reads (by decide) (by decide) (Nat.le_of_ble_eq_true rfl) dX8_readsBox_3 rfl) (fun v1 s2 _ => ?_)
  refine lx_if_eq hC 27 dX8_readsBox_6 (by decide) ?_ ?_
  · skip
    refine lx_iconstv (v := 0) hC dX8_readsBox_27 rfl ?_
    exact lx_zret hC rfl hr rfl dX8_readsBox_28
  · skip
    refine lx_aload_n hC dX8_readsBox_9 rfl 0 rfl ?_
    refine lx_bipush (v := 120) hC dX8_readsBox_10 (by decide) ?_
    refine lx_callX hC hx (sat_X8_reads (xl X) hl 120 s2) (run_V (as := [.int 120]) (rest := []) hC hE ly8 rfl cw_X8_reads ci_X8_reads wd2106 cs_X8_reads ce_X8_reads cd_X8_reads (by decide) (by decide) (Nat.le_of_ble_eq_true rfl) dX8_readsBox_12 rfl) (fun v3 s4 _ => ?_)
    refine lx_if_eq hC 27 dX8_readsBox_15 (by decide) ?_ ?_
    · skip
      refine lx_iconstv (v := 0) hC dX8_readsBox_27 rfl ?_
      exact lx_zret hC rfl hr rfl dX8_readsBox_28
    · skip
      refine lx_aload_n hC dX8_readsBox_18 rfl 0 rfl ?_
      refine lx_bipush (v := 32) hC dX8_readsBox_19 (by decide) ?_
      refine lx_callX hC hx (sat_X8_reads (xl X) hl 32 s4) (run_V (as := [.int 32]) (rest := []) hC hE ly8 rfl cw_X8_reads ci_X8_reads wd2106 cs_X8_reads ce_X8_reads cd_X8_reads (by decide) (by decide) (Nat.le_of_ble_eq_true rfl) dX8_readsBox_21 rfl) (fun v5 s6 _ => ?_)
      refine lx_if_ne hC 29 dX8_readsBox_24 (by decide) ?_ ?_
      · skip
        refine lx_aload_n hC dX8_readsBox_29 rfl 0 rfl ?_
        refine lx_getR (q := 1032) hC ly8 rfl 15 (by decide) rfl rfl inX8 wd1620 dX8_readsBox_30 ?_
        refine lx_iconstv (v := 0) hC dX8_readsBox_33 rfl ?_
        refine lx_aload_n hC dX8_readsBox_34 rfl 0 rfl ?_
        refine lx_callP hC hx (sat_X8_nextChar (xl X) hl s6) (run_V (as := []) (rest := [.int 0, .ref 1032]) hC hE ly8 rfl cw_X8_nextChar ci_X8_nextChar wd2102 cs_X8_nextChar ce_X8_nextChar cd_X8_nextChar (by decide) (by decide) (Nat.le_of_ble_eq_true rfl) dX8_readsBox_35 rfl) (fun v7 _ => ?_)
        refine lx_iastore hC ly1032 dX8_readsBox_38 (fun s8 => ?_)
        refine lx_aload_n hC dX8_readsBox_39 rfl 0 rfl ?_
        refine lx_callP hC hx (sat_X8_nextChar (xl X) hl s8) (run_V (as := []) (rest := []) hC hE ly8 rfl cw_X8_nextChar ci_X8_nextChar wd2102 cs_X8_nextChar ce_X8_nextChar cd_X8_nextChar (by decide) (by decide) (Nat.le_of_ble_eq_true rfl) dX8_readsBox_40 rfl) (fun v9 _ => ?_)
        refine lx_callP hC hx (sat_X8_isBox (xl X) hl v9 s8) (run_S (as := [.int v9]) (rest := []) hC hE cw_X8_isBox ci_X8_isBox wd1848 cs_X8_isBox cd_X8_isBox (by decide) (by decide) (Nat.le_of_ble_eq_true rfl) dX8_readsBox_43 rfl) (fun v10 _ => ?_)
        refine lx_if_ne hC 51 dX8_readsBox_46 (by decide) ?_ ?_
        · skip
          refine lx_aload_n hC dX8_readsBox_51 rfl 0 rfl ?_
          refine lx_dup_ref hC dX8_readsBox_52 ?_
          refine lx_getI hC ly8 rfl 12 (by decide) rfl inX8 wd1617 dX8_readsBox_53 ?_
          refine lx_iconstv (v := 1) hC dX8_readsBox_56 rfl ?_
          refine lx_iadd hC dX8_readsBox_57 ?_
          refine lx_putI hC ly8 rfl 12 (by decide) rfl tyX8 tyX8_ok nmX8 rfl rfl rfl inX8 wd1617 dX8_readsBox_58 (fun s11 => ?_)
          refine lx_aload_n hC dX8_readsBox_61 rfl 0 rfl ?_
          refine lx_bipush (v := 32) hC dX8_readsBox_62 (by decide) ?_
          refine lx_callX hC hx (sat_X8_reads (xl X) hl 32 s11) (run_V (as := [.int 32]) (rest := []) hC hE ly8 rfl cw_X8_reads ci_X8_reads wd2106 cs_X8_reads ce_X8_reads cd_X8_reads (by decide) (by decide) (Nat.le_of_ble_eq_true rfl) dX8_readsBox_64 rfl) (fun v12 s13 _ => ?_)
          refine lx_if_eq hC 82 dX8_readsBox_67 (by decide) ?_ ?_
          · skip
            refine lx_iconstv (v := 0) hC dX8_readsBox_82 rfl ?_
            exact lx_zret hC rfl hr rfl dX8_readsBox_83
          · skip
            refine lx_aload_n hC dX8_readsBox_70 rfl 0 rfl ?_
            refine lx_iconstv (v := 1) hC dX8_readsBox_71 rfl ?_
            refine lx_callX hC hx (sat_X8_readsDigit (xl X) hl 1 s13) (run_V (as := [.int 1]) (rest := []) hC hE ly8 rfl cw_X8_readsDigit ci_X8_readsDigit wd2118 cs_X8_readsDigit ce_X8_readsDigit cd_X8_readsDigit (by decide) (by decide) (Nat.le_of_ble_eq_true rfl) dX8_readsBox_72 rfl) (fun v14 s15 _ => ?_)
            refine lx_if_eq hC 82 dX8_readsBox_75 (by decide) ?_ ?_
            · skip
              refine lx_iconstv (v := 0) hC dX8_readsBox_82 rfl ?_
              exact lx_zret hC rfl hr rfl dX8_readsBox_83
            · skip
              refine lx_iconstv (v := 1) hC dX8_readsBox_78 rfl ?_
              refine lx_goto hC 83 dX8_readsBox_79 (by decide) ?_
              exact lx_zret hC rfl hr rfl dX8_readsBox_83
        · skip
          refine lx_iconstv (v := 0) hC dX8_readsBox_49 rfl ?_
          exact lx_zret hC rfl hr rfl dX8_readsBox_50
      · skip
        refine lx_iconstv (v := 0) hC dX8_readsBox_27 rfl ?_
        exact lx_zret hC rfl hr rfl dX8_readsBox_28
set_option maxRecDepth 100000 in
set_option maxHeartbeats 2000000 in
theorem n_X8_readsLock (s : Mem) : Mn s (m_X8_readsLock s) := by
  unfold m_X8_readsLock
  refine mn_bind (n_X8_reads 111 s) (fun v1 s2 => ?_)
  refine mn_if ?_ ?_
  · skip
    exact mn_some
  · skip
    refine mn_bind (n_X8_reads 99 s2) (fun v3 s4 => ?_)
    refine mn_if ?_ ?_
    · skip
      exact mn_some
    · skip
      refine mn_bind (n_X8_reads 107 s4) (fun v5 s6 => ?_)
      refine mn_if ?_ ?_
      · skip
        exact mn_some
      · skip
        refine mn_bind (n_X8_reads 32 s6) (fun v7 s8 => ?_)
        refine mn_if ?_ ?_
        · skip
          exact mn_some
        · skip
          refine mn_bind (n_X8_readsDigit 0 s8) (fun v9 s10 => ?_)
          refine mn_if ?_ ?_
          · skip
            exact mn_some
          · skip
            exact mn_some
set_option maxRecDepth 100000 in
set_option maxHeartbeats 2000000 in
theorem sat_X8_readsLock (l : Launch) (hl : l.stackTraces = false) (s : Mem) : Sat l yX8_readsLock (.code yX8_readsLock cX8_readsLock 1 (some .boolean)) 33 563 (fun x => some (.int x)) [.ref 8] s (m_X8_readsLock s) := by
  refine sat_of hl (by decide) (Nat.le_of_ble_eq_true rfl) (fun X V A adV hxl hC hE hx hr => ?_) (n_X8_readsLock s)
  subst hxl
  show LX X V A 33 563 (nC s) (nS s) _ 0 [(0, .ref 8)] [] s _
  unfold m_X8_readsLock
  refine lx_aload_n hC dX8_readsLock_0 rfl 0 rfl ?_
  refine lx_bipush (v := 111) hC dX8_readsLock_1 (by decide) ?_
  refine lx_callX hC hx (sat_X8_reads (xl X) hl 111 s) (run_V (as := [.int 111]) (rest := []) hC hE ly8 rfl cw_X8_reads ci_X8_reads wd2106 cs_X8_reads ce_X8_reads cd_X8_reads (by decide) (by decide) (Nat.le_of_ble_eq_true rfl) dX8_readsLock_3 rfl) (fun v1 s2 _ => ?_)
  refine lx_if_eq hC 48 dX8_readsLock_6 (by decide) ?_ ?_
  · skip
    refine lx_iconstv (v := 0) hC dX8_readsLock_48 rfl ?_
    exact lx_zret hC rfl hr rfl dX8_readsLock_49
  · skip
    refine lx_aload_n hC dX8_readsLock_9 rfl 0 rfl ?_
    refine lx_bipush (v := 99) hC dX8_readsLock_10 (by decide) ?_
    refine lx_callX hC hx (sat_X8_reads (xl X) hl 99 s2) (run_V (as := [.int 99]) (rest := []) hC hE ly8 rfl cw_X8_reads ci_X8_reads wd2106 cs_X8_reads ce_X8_reads cd_X8_reads (by decide) (by decide) (Nat.le_of_ble_eq_true rfl) dX8_readsLock_12 rfl) (fun v3 s4 _ => ?_)
    refine lx_if_eq hC 48 dX8_readsLock_15 (by decide) ?_ ?_
    · skip
      refine lx_iconstv (v := 0) hC dX8_readsLock_48 rfl ?_
      exact lx_zret hC rfl hr rfl dX8_readsLock_49
    · skip
      refine lx_aload_n hC dX8_readsLock_18 rfl 0 rfl ?_
      refine lx_bipush (v := 107) hC dX8_readsLock_19 (by decide) ?_
      refine lx_callX hC hx (sat_X8_reads (xl X) hl 107 s4) (run_V (as := [.int 107]) (rest := []) hC hE ly8 rfl cw_X8_reads ci_X8_reads wd2106 cs_X8_reads ce_X8_reads cd_X8_reads (by decide) (by decide) (Nat.le_of_ble_eq_true rfl) dX8_readsLock_21 rfl) (fun v5 s6 _ => ?_)
      refine lx_if_eq hC 48 dX8_readsLock_24 (by decide) ?_ ?_
      · skip
        refine lx_iconstv (v := 0) hC dX8_readsLock_48 rfl ?_
        exact lx_zret hC rfl hr rfl dX8_readsLock_49
      · skip
        refine lx_aload_n hC dX8_readsLock_27 rfl 0 rfl ?_
        refine lx_bipush (v := 32) hC dX8_readsLock_28 (by decide) ?_
        refine lx_callX hC hx (sat_X8_reads (xl X) hl 32 s6) (run_V (as := [.int 32]) (rest := []) hC hE ly8 rfl cw_X8_reads ci_X8_reads wd2106 cs_X8_reads ce_X8_reads cd_X8_reads (by decide) (by decide) (Nat.le_of_ble_eq_true rfl) dX8_readsLock_30 rfl) (fun v7 s8 _ => ?_)
        refine lx_if_eq hC 48 dX8_readsLock_33 (by decide) ?_ ?_
        · skip
          refine lx_iconstv (v := 0) hC dX8_readsLock_48 rfl ?_
          exact lx_zret hC rfl hr rfl dX8_readsLock_49
        · skip
          refine lx_aload_n hC dX8_readsLock_36 rfl 0 rfl ?_
          refine lx_iconstv (v := 0) hC dX8_readsLock_37 rfl ?_
          refine lx_callX hC hx (sat_X8_readsDigit (xl X) hl 0 s8) (run_V (as := [.int 0]) (rest := []) hC hE ly8 rfl cw_X8_readsDigit ci_X8_readsDigit wd2118 cs_X8_readsDigit ce_X8_readsDigit cd_X8_readsDigit (by decide) (by decide) (Nat.le_of_ble_eq_true rfl) dX8_readsLock_38 rfl) (fun v9 s10 _ => ?_)
          refine lx_if_eq hC 48 dX8_readsLock_41 (by decide) ?_ ?_
          · skip
            refine lx_iconstv (v := 0) hC dX8_readsLock_48 rfl ?_
            exact lx_zret hC rfl hr rfl dX8_readsLock_49
          · skip
            refine lx_iconstv (v := 1) hC dX8_readsLock_44 rfl ?_
            refine lx_goto hC 49 dX8_readsLock_45 (by decide) ?_
            exact lx_zret hC rfl hr rfl dX8_readsLock_49
set_option maxRecDepth 100000 in
set_option maxHeartbeats 2000000 in
theorem n_X8_readsSpread (s : Mem) : Mn s (m_X8_readsSpread s) := by
  unfold m_X8_readsSpread
  refine mn_bind (n_X8_reads 112 s) (fun v1 s2 => ?_)
  refine mn_if ?_ ?_
  · skip
    exact mn_some
  · skip
    refine mn_bind (n_X8_reads 114 s2) (fun v3 s4 => ?_)
    refine mn_if ?_ ?_
    · skip
      exact mn_some
    · skip
      refine mn_bind (n_X8_reads 101 s4) (fun v5 s6 => ?_)
      refine mn_if ?_ ?_
      · skip
        exact mn_some
      · skip
        refine mn_bind (n_X8_reads 97 s6) (fun v7 s8 => ?_)
        refine mn_if ?_ ?_
        · skip
          exact mn_some
        · skip
          refine mn_bind (n_X8_reads 100 s8) (fun v9 s10 => ?_)
          refine mn_if ?_ ?_
          · skip
            exact mn_some
          · skip
            refine mn_bind (n_X8_reads 32 s10) (fun v11 s12 => ?_)
            refine mn_if ?_ ?_
            · skip
              exact mn_some
            · skip
              refine mn_bind (n_X8_readsDigit 0 s12) (fun v13 s14 => ?_)
              refine mn_if ?_ ?_
              · skip
                exact mn_some
              · skip
                exact mn_some
set_option maxRecDepth 100000 in
set_option maxHeartbeats 2000000 in
theorem sat_X8_readsSpread (l : Launch) (hl : l.stackTraces = false) (s : Mem) : Sat l yX8_readsSpread (.code yX8_readsSpread cX8_readsSpread 1 (some .boolean)) 33 563 (fun x => some (.int x)) [.ref 8] s (m_X8_readsSpread s) := by
  refine sat_of hl (by decide) (Nat.le_of_ble_eq_true rfl) (fun X V A adV hxl hC hE hx hr => ?_) (n_X8_readsSpread s)
  subst hxl
  show LX X V A 33 563 (nC s) (nS s) _ 0 [(0, .ref 8)] [] s _
  unfold m_X8_readsSpread
  refine lx_aload_n hC dX8_readsSpread_0 rfl 0 rfl ?_
  refine lx_bipush (v := 112) hC dX8_readsSpread_1 (by decide) ?_
  refine lx_callX hC hx (sat_X8_reads (xl X) hl 112 s) (run_V (as := [.int 112]) (rest := []) hC hE ly8 rfl cw_X8_reads ci_X8_reads wd2106 cs_X8_reads ce_X8_reads cd_X8_reads (by decide) (by decide) (Nat.le_of_ble_eq_true rfl) dX8_readsSpread_3 rfl) (fun v1 s2 _ => ?_)
  refine lx_if_eq hC 66 dX8_readsSpread_6 (by decide) ?_ ?_
  · skip
    refine lx_iconstv (v := 0) hC dX8_readsSpread_66 rfl ?_
    exact lx_zret hC rfl hr rfl dX8_readsSpread_67
  · skip
    refine lx_aload_n hC dX8_readsSpread_9 rfl 0 rfl ?_
    refine lx_bipush (v := 114) hC dX8_readsSpread_10 (by decide) ?_
    refine lx_callX hC hx (sat_X8_reads (xl X) hl 114 s2) (run_V (as := [.int 114]) (rest := []) hC hE ly8 rfl cw_X8_reads ci_X8_reads wd2106 cs_X8_reads ce_X8_reads cd_X8_reads (by decide) (by decide) (Nat.le_of_ble_eq_true rfl) dX8_readsSpread_12 rfl) (fun v3 s4 _ => ?_)
    refine lx_if_eq hC 66 dX8_readsSpread_15 (by decide) ?_ ?_
    · skip
      refine lx_iconstv (v := 0) hC dX8_readsSpread_66 rfl ?_
      exact lx_zret hC rfl hr rfl dX8_readsSpread_67
    · skip
      refine lx_aload_n hC dX8_readsSpread_18 rfl 0 rfl ?_
      refine lx_bipush (v := 101) hC dX8_readsSpread_19 (by decide) ?_
      refine lx_callX hC hx (sat_X8_reads (xl X) hl 101 s4) (run_V (as := [.int 101]) (rest := []) hC hE ly8 rfl cw_X8_reads ci_X8_reads wd2106 cs_X8_reads ce_X8_reads cd_X8_reads (by decide) (by decide) (Nat.le_of_ble_eq_true rfl) dX8_readsSpread_21 rfl) (fun v5 s6 _ => ?_)
      refine lx_if_eq hC 66 dX8_readsSpread_24 (by decide) ?_ ?_
      · skip
        refine lx_iconstv (v := 0) hC dX8_readsSpread_66 rfl ?_
        exact lx_zret hC rfl hr rfl dX8_readsSpread_67
      · skip
        refine lx_aload_n hC dX8_readsSpread_27 rfl 0 rfl ?_
        refine lx_bipush (v := 97) hC dX8_readsSpread_28 (by decide) ?_
        refine lx_callX hC hx (sat_X8_reads (xl X) hl 97 s6) (run_V (as := [.int 97]) (rest := []) hC hE ly8 rfl cw_X8_reads ci_X8_reads wd2106 cs_X8_reads ce_X8_reads cd_X8_reads (by decide) (by decide) (Nat.le_of_ble_eq_true rfl) dX8_readsSpread_30 rfl) (fun v7 s8 _ => ?_)
        refine lx_if_eq hC 66 dX8_readsSpread_33 (by decide) ?_ ?_
        · skip
          refine lx_iconstv (v := 0) hC dX8_readsSpread_66 rfl ?_
          exact lx_zret hC rfl hr rfl dX8_readsSpread_67
        · skip
          refine lx_aload_n hC dX8_readsSpread_36 rfl 0 rfl ?_
          refine lx_bipush (v := 100) hC dX8_readsSpread_37 (by decide) ?_
          refine lx_callX hC hx (sat_X8_reads (xl X) hl 100 s8) (run_V (as := [.int 100]) (rest := []) hC hE ly8 rfl cw_X8_reads ci_X8_reads wd2106 cs_X8_reads ce_X8_reads cd_X8_reads (by decide) (by decide) (Nat.le_of_ble_eq_true rfl) dX8_readsSpread_39 rfl) (fun v9 s10 _ => ?_)
          refine lx_if_eq hC 66 dX8_readsSpread_42 (by decide) ?_ ?_
          · skip
            refine lx_iconstv (v := 0) hC dX8_readsSpread_66 rfl ?_
            exact lx_zret hC rfl hr rfl dX8_readsSpread_67
          · skip
            refine lx_aload_n hC dX8_readsSpread_45 rfl 0 rfl ?_
            refine lx_bipush (v := 32) hC dX8_readsSpread_46 (by decide) ?_
            refine lx_callX hC hx (sat_X8_reads (xl X) hl 32 s10) (run_V (as := [.int 32]) (rest := []) hC hE ly8 rfl cw_X8_reads ci_X8_reads wd2106 cs_X8_reads ce_X8_reads cd_X8_reads (by decide) (by decide) (Nat.le_of_ble_eq_true rfl) dX8_readsSpread_48 rfl) (fun v11 s12 _ => ?_)
            refine lx_if_eq hC 66 dX8_readsSpread_51 (by decide) ?_ ?_
            · skip
              refine lx_iconstv (v := 0) hC dX8_readsSpread_66 rfl ?_
              exact lx_zret hC rfl hr rfl dX8_readsSpread_67
            · skip
              refine lx_aload_n hC dX8_readsSpread_54 rfl 0 rfl ?_
              refine lx_iconstv (v := 0) hC dX8_readsSpread_55 rfl ?_
              refine lx_callX hC hx (sat_X8_readsDigit (xl X) hl 0 s12) (run_V (as := [.int 0]) (rest := []) hC hE ly8 rfl cw_X8_readsDigit ci_X8_readsDigit wd2118 cs_X8_readsDigit ce_X8_readsDigit cd_X8_readsDigit (by decide) (by decide) (Nat.le_of_ble_eq_true rfl) dX8_readsSpread_56 rfl) (fun v13 s14 _ => ?_)
              refine lx_if_eq hC 66 dX8_readsSpread_59 (by decide) ?_ ?_
              · skip
                refine lx_iconstv (v := 0) hC dX8_readsSpread_66 rfl ?_
                exact lx_zret hC rfl hr rfl dX8_readsSpread_67
              · skip
                refine lx_iconstv (v := 1) hC dX8_readsSpread_62 rfl ?_
                refine lx_goto hC 67 dX8_readsSpread_63 (by decide) ?_
                exact lx_zret hC rfl hr rfl dX8_readsSpread_67
set_option maxRecDepth 100000 in
set_option maxHeartbeats 2000000 in
theorem n_X8_readsCommand (s : Mem) : Mn s (m_X8_readsCommand s) := by
  unfold m_X8_readsCommand
  refine mn_bindP (fun v1 => ?_)
  refine mn_put (fun s2 => ?_)
  refine mn_bind (n_X8_reads 114 s2) (fun v3 s4 => ?_)
  refine mn_if ?_ ?_
  · skip
    refine mn_bind (n_X8_reads 112 s4) (fun v5 s6 => ?_)
    refine mn_if ?_ ?_
    · skip
      refine mn_bind (n_X8_reads 100 s6) (fun v7 s8 => ?_)
      refine mn_if ?_ ?_
      · skip
        refine mn_bind (n_X8_reads 101 s8) (fun v9 s10 => ?_)
        refine mn_if ?_ ?_
        · skip
          refine mn_bind (n_X8_reads 109 s10) (fun v11 s12 => ?_)
          refine mn_if ?_ ?_
          · skip
            refine mn_bind (n_X8_reads 104 s12) (fun v13 s14 => ?_)
            refine mn_if ?_ ?_
            · skip
              refine mn_bind (n_X8_reads 108 s14) (fun v15 s16 => ?_)
              refine mn_if ?_ ?_
              · skip
                refine mn_bind (n_X8_reads 117 s16) (fun v17 s18 => ?_)
                refine mn_if ?_ ?_
                · skip
                  refine mn_bind (n_X8_reads 98 s18) (fun v19 s20 => ?_)
                  refine mn_if ?_ ?_
                  · skip
                    refine mn_bind (n_X8_reads 115 s20) (fun v21 s22 => ?_)
                    refine mn_if ?_ ?_
                    · skip
                      exact mn_some
                    · skip
                      refine mn_bind (n_X8_readsSpread s22) (fun v23 s24 => ?_)
                      refine mn_if ?_ ?_
                      · skip
                        exact mn_some
                      · skip
                        exact mn_some
                  · skip
                    refine mn_bind (n_X8_readsBox s20) (fun v25 s26 => ?_)
                    exact mn_if mn_some mn_none
                · skip
                  refine mn_bind (n_X8_reads 110 s18) (fun v27 s28 => ?_)
                  refine mn_if ?_ ?_
                  · skip
                    exact mn_some
                  · skip
                    refine mn_bind (n_X8_reads 108 s28) (fun v29 s30 => ?_)
                    refine mn_if ?_ ?_
                    · skip
                      exact mn_some
                    · skip
                      refine mn_bind (n_X8_readsLock s30) (fun v31 s32 => ?_)
                      refine mn_if ?_ ?_
                      · skip
                        exact mn_some
                      · skip
                        exact mn_some
              · skip
                refine mn_bind (n_X8_readsLock s16) (fun v33 s34 => ?_)
                exact mn_if mn_some mn_none
            · skip
              refine mn_bind (n_X8_reads 101 s14) (fun v35 s36 => ?_)
              refine mn_if ?_ ?_
              · skip
                exact mn_some
              · skip
                refine mn_bind (n_X8_reads 105 s36) (fun v37 s38 => ?_)
                refine mn_if ?_ ?_
                · skip
                  exact mn_some
                · skip
                  refine mn_bind (n_X8_reads 114 s38) (fun v39 s40 => ?_)
                  refine mn_if ?_ ?_
                  · skip
                    exact mn_some
                  · skip
                    refine mn_bind (n_X8_reads 32 s40) (fun v41 s42 => ?_)
                    refine mn_if ?_ ?_
                    · skip
                      exact mn_some
                    · skip
                      refine mn_bind (n_X8_readsNumber 0 s42) (fun v43 s44 => ?_)
                      refine mn_if ?_ ?_
                      · skip
                        exact mn_some
                      · skip
                        refine mn_bind (n_X8_reads 32 s44) (fun v45 s46 => ?_)
                        refine mn_if ?_ ?_
                        · skip
                          exact mn_some
                        · skip
                          refine mn_bind (n_X8_readsNumber 1 s46) (fun v47 s48 => ?_)
                          refine mn_if ?_ ?_
                          · skip
                            exact mn_some
                          · skip
                            exact mn_some
          · skip
            refine mn_bind (n_X8_reads 111 s12) (fun v49 s50 => ?_)
            refine mn_if ?_ ?_
            · skip
              exact mn_some
            · skip
              refine mn_bind (n_X8_reads 118 s50) (fun v51 s52 => ?_)
              refine mn_if ?_ ?_
              · skip
                exact mn_some
              · skip
                refine mn_bind (n_X8_reads 101 s52) (fun v53 s54 => ?_)
                refine mn_if ?_ ?_
                · skip
                  exact mn_some
                · skip
                  refine mn_bind (n_X8_reads 32 s54) (fun v55 s56 => ?_)
                  refine mn_if ?_ ?_
                  · skip
                    exact mn_some
                  · skip
                    refine mn_bind (n_X8_readsNumber 0 s56) (fun v57 s58 => ?_)
                    refine mn_if ?_ ?_
                    · skip
                      exact mn_some
                    · skip
                      refine mn_bind (n_X8_reads 32 s58) (fun v59 s60 => ?_)
                      refine mn_if ?_ ?_
                      · skip
                        exact mn_some
                      · skip
                        refine mn_bind (n_X8_readsDigit 1 s60) (fun v61 s62 => ?_)
                        refine mn_if ?_ ?_
                        · skip
                          exact mn_some
                        · skip
                          exact mn_some
        · skip
          refine mn_bind (n_X8_reads 99 s10) (fun v63 s64 => ?_)
          refine mn_if ?_ ?_
          · skip
            exact mn_some
          · skip
            refine mn_bind (n_X8_reads 104 s64) (fun v65 s66 => ?_)
            refine mn_if ?_ ?_
            · skip
              exact mn_some
            · skip
              refine mn_bind (n_X8_reads 111 s66) (fun v67 s68 => ?_)
              refine mn_if ?_ ?_
              · skip
                exact mn_some
              · skip
                refine mn_bind (n_X8_reads 32 s68) (fun v69 s70 => ?_)
                refine mn_if ?_ ?_
                · skip
                  exact mn_some
                · skip
                  refine mn_bind (n_X8_readsDigit 0 s70) (fun v71 s72 => ?_)
                  refine mn_if ?_ ?_
                  · skip
                    exact mn_some
                  · skip
                    refine mn_bind (n_X8_reads 32 s72) (fun v73 s74 => ?_)
                    refine mn_if ?_ ?_
                    · skip
                      exact mn_some
                    · skip
                      refine mn_bind (n_X8_readsNumber 1 s74) (fun v75 s76 => ?_)
                      refine mn_if ?_ ?_
                      · skip
                        exact mn_some
                      · skip
                        exact mn_some
      · skip
        refine mn_bind (n_X8_readsD s8) (fun v77 s78 => ?_)
        exact mn_if mn_some mn_none
    · skip
      refine mn_bind (n_X8_readsPhantoms s6) (fun v79 s80 => ?_)
      exact mn_if mn_some mn_none
  · skip
    refine mn_bind (n_X8_readsR s4) (fun v81 s82 => ?_)
    exact mn_if mn_some mn_none
set_option maxRecDepth 100000 in
set_option maxHeartbeats 2000000 in
theorem sat_X8_readsCommand (l : Launch) (hl : l.stackTraces = false) (s : Mem) : Sat l yX8_readsCommand (.code yX8_readsCommand cX8_readsCommand 1 (some .boolean)) 35 605 (fun x => some (.int x)) [.ref 8] s (m_X8_readsCommand s) := by
  refine sat_of hl (by decide) (Nat.le_of_ble_eq_true rfl) (fun X V A adV hxl hC hE hx hr => ?_) (n_X8_readsCommand s)
  subst hxl
  show LX X V A 35 605 (nC s) (nS s) _ 0 [(0, .ref 8)] [] s _
  unfold m_X8_readsCommand
  refine lx_aload_n hC dX8_readsCommand_0 rfl 0 rfl ?_
  refine lx_aload_n hC dX8_readsCommand_1 rfl 0 rfl ?_
  refine lx_callP hC hx (sat_X8_nextChar (xl X) hl s) (run_V (as := []) (rest := [.ref 8]) hC hE ly8 rfl cw_X8_nextChar ci_X8_nextChar wd2102 cs_X8_nextChar ce_X8_nextChar cd_X8_nextChar (by decide) (by decide) (Nat.le_of_ble_eq_true rfl) dX8_readsCommand_2 rfl) (fun v1 _ => ?_)
  refine lx_putI hC ly8 rfl 16 (by decide) rfl tyX8 tyX8_ok nmX8 rfl rfl rfl inX8 wd1621 dX8_readsCommand_5 (fun s2 => ?_)
  refine lx_aload_n hC dX8_readsCommand_8 rfl 0 rfl ?_
  refine lx_bipush (v := 114) hC dX8_readsCommand_9 (by decide) ?_
  refine lx_callX hC hx (sat_X8_reads (xl X) hl 114 s2) (run_V (as := [.int 114]) (rest := []) hC hE ly8 rfl cw_X8_reads ci_X8_reads wd2106 cs_X8_reads ce_X8_reads cd_X8_reads (by decide) (by decide) (Nat.le_of_ble_eq_true rfl) dX8_readsCommand_11 rfl) (fun v3 s4 _ => ?_)
  refine lx_if_eq hC 22 dX8_readsCommand_14 (by decide) ?_ ?_
  · skip
    refine lx_aload_n hC dX8_readsCommand_22 rfl 0 rfl ?_
    refine lx_bipush (v := 112) hC dX8_readsCommand_23 (by decide) ?_
    refine lx_callX hC hx (sat_X8_reads (xl X) hl 112 s4) (run_V (as := [.int 112]) (rest := []) hC hE ly8 rfl cw_X8_reads ci_X8_reads wd2106 cs_X8_reads ce_X8_reads cd_X8_reads (by decide) (by decide) (Nat.le_of_ble_eq_true rfl) dX8_readsCommand_25 rfl) (fun v5 s6 _ => ?_)
    refine lx_if_eq hC 36 dX8_readsCommand_28 (by decide) ?_ ?_
    · skip
      refine lx_aload_n hC dX8_readsCommand_36 rfl 0 rfl ?_
      refine lx_bipush (v := 100) hC dX8_readsCommand_37 (by decide) ?_
      refine lx_callX hC hx (sat_X8_reads (xl X) hl 100 s6) (run_V (as := [.int 100]) (rest := []) hC hE ly8 rfl cw_X8_reads ci_X8_reads wd2106 cs_X8_reads ce_X8_reads cd_X8_reads (by decide) (by decide) (Nat.le_of_ble_eq_true rfl) dX8_readsCommand_39 rfl) (fun v7 s8 _ => ?_)
      refine lx_if_eq hC 50 dX8_readsCommand_42 (by decide) ?_ ?_
      · skip
        refine lx_aload_n hC dX8_readsCommand_50 rfl 0 rfl ?_
        refine lx_bipush (v := 101) hC dX8_readsCommand_51 (by decide) ?_
        refine lx_callX hC hx (sat_X8_reads (xl X) hl 101 s8) (run_V (as := [.int 101]) (rest := []) hC hE ly8 rfl cw_X8_reads ci_X8_reads wd2106 cs_X8_reads ce_X8_reads cd_X8_reads (by decide) (by decide) (Nat.le_of_ble_eq_true rfl) dX8_readsCommand_53 rfl) (fun v9 s10 _ => ?_)
        refine lx_if_eq hC 126 dX8_readsCommand_56 (by decide) ?_ ?_
        · skip
          refine lx_aload_n hC dX8_readsCommand_126 rfl 0 rfl ?_
          refine lx_bipush (v := 109) hC dX8_readsCommand_127 (by decide) ?_
          refine lx_callX hC hx (sat_X8_reads (xl X) hl 109 s10) (run_V (as := [.int 109]) (rest := []) hC hE ly8 rfl cw_X8_reads ci_X8_reads wd2106 cs_X8_reads ce_X8_reads cd_X8_reads (by decide) (by decide) (Nat.le_of_ble_eq_true rfl) dX8_readsCommand_129 rfl) (fun v11 s12 _ => ?_)
          refine lx_if_eq hC 202 dX8_readsCommand_132 (by decide) ?_ ?_
          · skip
            refine lx_aload_n hC dX8_readsCommand_202 rfl 0 rfl ?_
            refine lx_bipush (v := 104) hC dX8_readsCommand_203 (by decide) ?_
            refine lx_callX hC hx (sat_X8_reads (xl X) hl 104 s12) (run_V (as := [.int 104]) (rest := []) hC hE ly8 rfl cw_X8_reads ci_X8_reads wd2106 cs_X8_reads ce_X8_reads cd_X8_reads (by decide) (by decide) (Nat.le_of_ble_eq_true rfl) dX8_readsCommand_205 rfl) (fun v13 s14 _ => ?_)
            refine lx_if_eq hC 278 dX8_readsCommand_208 (by decide) ?_ ?_
            · skip
              refine lx_aload_n hC dX8_readsCommand_278 rfl 0 rfl ?_
              refine lx_bipush (v := 108) hC dX8_readsCommand_279 (by decide) ?_
              refine lx_callX hC hx (sat_X8_reads (xl X) hl 108 s14) (run_V (as := [.int 108]) (rest := []) hC hE ly8 rfl cw_X8_reads ci_X8_reads wd2106 cs_X8_reads ce_X8_reads cd_X8_reads (by decide) (by decide) (Nat.le_of_ble_eq_true rfl) dX8_readsCommand_281 rfl) (fun v15 s16 _ => ?_)
              refine lx_if_eq hC 292 dX8_readsCommand_284 (by decide) ?_ ?_
              · skip
                refine lx_aload_n hC dX8_readsCommand_292 rfl 0 rfl ?_
                refine lx_bipush (v := 117) hC dX8_readsCommand_293 (by decide) ?_
                refine lx_callX hC hx (sat_X8_reads (xl X) hl 117 s16) (run_V (as := [.int 117]) (rest := []) hC hE ly8 rfl cw_X8_reads ci_X8_reads wd2106 cs_X8_reads ce_X8_reads cd_X8_reads (by decide) (by decide) (Nat.le_of_ble_eq_true rfl) dX8_readsCommand_295 rfl) (fun v17 s18 _ => ?_)
                refine lx_if_eq hC 332 dX8_readsCommand_298 (by decide) ?_ ?_
                · skip
                  refine lx_aload_n hC dX8_readsCommand_332 rfl 0 rfl ?_
                  refine lx_bipush (v := 98) hC dX8_readsCommand_333 (by decide) ?_
                  refine lx_callX hC hx (sat_X8_reads (xl X) hl 98 s18) (run_V (as := [.int 98]) (rest := []) hC hE ly8 rfl cw_X8_reads ci_X8_reads wd2106 cs_X8_reads ce_X8_reads cd_X8_reads (by decide) (by decide) (Nat.le_of_ble_eq_true rfl) dX8_readsCommand_335 rfl) (fun v19 s20 _ => ?_)
                  refine lx_if_eq hC 346 dX8_readsCommand_338 (by decide) ?_ ?_
                  · skip
                    refine lx_aload_n hC dX8_readsCommand_346 rfl 0 rfl ?_
                    refine lx_bipush (v := 115) hC dX8_readsCommand_347 (by decide) ?_
                    refine lx_callX hC hx (sat_X8_reads (xl X) hl 115 s20) (run_V (as := [.int 115]) (rest := []) hC hE ly8 rfl cw_X8_reads ci_X8_reads wd2106 cs_X8_reads ce_X8_reads cd_X8_reads (by decide) (by decide) (Nat.le_of_ble_eq_true rfl) dX8_readsCommand_349 rfl) (fun v21 s22 _ => ?_)
                    refine lx_if_eq hC 366 dX8_readsCommand_352 (by decide) ?_ ?_
                    · skip
                      refine lx_iconstv (v := 0) hC dX8_readsCommand_366 rfl ?_
                      exact lx_zret hC rfl hr rfl dX8_readsCommand_367
                    · skip
                      refine lx_aload_n hC dX8_readsCommand_355 rfl 0 rfl ?_
                      refine lx_callX hC hx (sat_X8_readsSpread (xl X) hl s22) (run_V (as := []) (rest := []) hC hE ly8 rfl cw_X8_readsSpread ci_X8_readsSpread wd2142 cs_X8_readsSpread ce_X8_readsSpread cd_X8_readsSpread (by decide) (by decide) (Nat.le_of_ble_eq_true rfl) dX8_readsCommand_356 rfl) (fun v23 s24 _ => ?_)
                      refine lx_if_eq hC 366 dX8_readsCommand_359 (by decide) ?_ ?_
                      · skip
                        refine lx_iconstv (v := 0) hC dX8_readsCommand_366 rfl ?_
                        exact lx_zret hC rfl hr rfl dX8_readsCommand_367
                      · skip
                        refine lx_iconstv (v := 1) hC dX8_readsCommand_362 rfl ?_
                        refine lx_goto hC 367 dX8_readsCommand_363 (by decide) ?_
                        exact lx_zret hC rfl hr rfl dX8_readsCommand_367
                  · skip
                    refine lx_aload_n hC dX8_readsCommand_341 rfl 0 rfl ?_
                    refine lx_callX hC hx (sat_X8_readsBox (xl X) hl s20) (run_V (as := []) (rest := []) hC hE ly8 rfl cw_X8_readsBox ci_X8_readsBox wd2138 cs_X8_readsBox ce_X8_readsBox cd_X8_readsBox (by decide) (by decide) (Nat.le_of_ble_eq_true rfl) dX8_readsCommand_342 rfl) (fun v25 s26 _ => ?_)
                    exact lx_zretn hC rfl hr (by simp) dX8_readsCommand_345
                · skip
                  refine lx_aload_n hC dX8_readsCommand_301 rfl 0 rfl ?_
                  refine lx_bipush (v := 110) hC dX8_readsCommand_302 (by decide) ?_
                  refine lx_callX hC hx (sat_X8_reads (xl X) hl 110 s18) (run_V (as := [.int 110]) (rest := []) hC hE ly8 rfl cw_X8_reads ci_X8_reads wd2106 cs_X8_reads ce_X8_reads cd_X8_reads (by decide) (by decide) (Nat.le_of_ble_eq_true rfl) dX8_readsCommand_304 rfl) (fun v27 s28 _ => ?_)
                  refine lx_if_eq hC 330 dX8_readsCommand_307 (by decide) ?_ ?_
                  · skip
                    refine lx_iconstv (v := 0) hC dX8_readsCommand_330 rfl ?_
                    exact lx_zret hC rfl hr rfl dX8_readsCommand_331
                  · skip
                    refine lx_aload_n hC dX8_readsCommand_310 rfl 0 rfl ?_
                    refine lx_bipush (v := 108) hC dX8_readsCommand_311 (by decide) ?_
                    refine lx_callX hC hx (sat_X8_reads (xl X) hl 108 s28) (run_V (as := [.int 108]) (rest := []) hC hE ly8 rfl cw_X8_reads ci_X8_reads wd2106 cs_X8_reads ce_X8_reads cd_X8_reads (by decide) (by decide) (Nat.le_of_ble_eq_true rfl) dX8_readsCommand_313 rfl) (fun v29 s30 _ => ?_)
                    refine lx_if_eq hC 330 dX8_readsCommand_316 (by decide) ?_ ?_
                    · skip
                      refine lx_iconstv (v := 0) hC dX8_readsCommand_330 rfl ?_
                      exact lx_zret hC rfl hr rfl dX8_readsCommand_331
                    · skip
                      refine lx_aload_n hC dX8_readsCommand_319 rfl 0 rfl ?_
                      refine lx_callX hC hx (sat_X8_readsLock (xl X) hl s30) (run_V (as := []) (rest := []) hC hE ly8 rfl cw_X8_readsLock ci_X8_readsLock wd2134 cs_X8_readsLock ce_X8_readsLock cd_X8_readsLock (by decide) (by decide) (Nat.le_of_ble_eq_true rfl) dX8_readsCommand_320 rfl) (fun v31 s32 _ => ?_)
                      refine lx_if_eq hC 330 dX8_readsCommand_323 (by decide) ?_ ?_
                      · skip
                        refine lx_iconstv (v := 0) hC dX8_readsCommand_330 rfl ?_
                        exact lx_zret hC rfl hr rfl dX8_readsCommand_331
                      · skip
                        refine lx_iconstv (v := 1) hC dX8_readsCommand_326 rfl ?_
                        refine lx_goto hC 331 dX8_readsCommand_327 (by decide) ?_
                        exact lx_zret hC rfl hr rfl dX8_readsCommand_331
              · skip
                refine lx_aload_n hC dX8_readsCommand_287 rfl 0 rfl ?_
                refine lx_callX hC hx (sat_X8_readsLock (xl X) hl s16) (run_V (as := []) (rest := []) hC hE ly8 rfl cw_X8_readsLock ci_X8_readsLock wd2134 cs_X8_readsLock ce_X8_readsLock cd_X8_readsLock (by decide) (by decide) (Nat.le_of_ble_eq_true rfl) dX8_readsCommand_288 rfl) (fun v33 s34 _ => ?_)
                exact lx_zretn hC rfl hr (by simp) dX8_readsCommand_291
            · skip
              refine lx_aload_n hC dX8_readsCommand_211 rfl 0 rfl ?_
              refine lx_bipush (v := 101) hC dX8_readsCommand_212 (by decide) ?_
              refine lx_callX hC hx (sat_X8_reads (xl X) hl 101 s14) (run_V (as := [.int 101]) (rest := []) hC hE ly8 rfl cw_X8_reads ci_X8_reads wd2106 cs_X8_reads ce_X8_reads cd_X8_reads (by decide) (by decide) (Nat.le_of_ble_eq_true rfl) dX8_readsCommand_214 rfl) (fun v35 s36 _ => ?_)
              refine lx_if_eq hC 276 dX8_readsCommand_217 (by decide) ?_ ?_
              · skip
                refine lx_iconstv (v := 0) hC dX8_readsCommand_276 rfl ?_
                exact lx_zret hC rfl hr rfl dX8_readsCommand_277
              · skip
                refine lx_aload_n hC dX8_readsCommand_220 rfl 0 rfl ?_
                refine lx_bipush (v := 105) hC dX8_readsCommand_221 (by decide) ?_
                refine lx_callX hC hx (sat_X8_reads (xl X) hl 105 s36) (run_V (as := [.int 105]) (rest := []) hC hE ly8 rfl cw_X8_reads ci_X8_reads wd2106 cs_X8_reads ce_X8_reads cd_X8_reads (by decide) (by decide) (Nat.le_of_ble_eq_true rfl) dX8_readsCommand_223 rfl) (fun v37 s38 _ => ?_)
                refine lx_if_eq hC 276 dX8_readsCommand_226 (by decide) ?_ ?_
                · skip
                  refine lx_iconstv (v := 0) hC dX8_readsCommand_276 rfl ?_
                  exact lx_zret hC rfl hr rfl dX8_readsCommand_277
                · skip
                  refine lx_aload_n hC dX8_readsCommand_229 rfl 0 rfl ?_
                  refine lx_bipush (v := 114) hC dX8_readsCommand_230 (by decide) ?_
                  refine lx_callX hC hx (sat_X8_reads (xl X) hl 114 s38) (run_V (as := [.int 114]) (rest := []) hC hE ly8 rfl cw_X8_reads ci_X8_reads wd2106 cs_X8_reads ce_X8_reads cd_X8_reads (by decide) (by decide) (Nat.le_of_ble_eq_true rfl) dX8_readsCommand_232 rfl) (fun v39 s40 _ => ?_)
                  refine lx_if_eq hC 276 dX8_readsCommand_235 (by decide) ?_ ?_
                  · skip
                    refine lx_iconstv (v := 0) hC dX8_readsCommand_276 rfl ?_
                    exact lx_zret hC rfl hr rfl dX8_readsCommand_277
                  · skip
                    refine lx_aload_n hC dX8_readsCommand_238 rfl 0 rfl ?_
                    refine lx_bipush (v := 32) hC dX8_readsCommand_239 (by decide) ?_
                    refine lx_callX hC hx (sat_X8_reads (xl X) hl 32 s40) (run_V (as := [.int 32]) (rest := []) hC hE ly8 rfl cw_X8_reads ci_X8_reads wd2106 cs_X8_reads ce_X8_reads cd_X8_reads (by decide) (by decide) (Nat.le_of_ble_eq_true rfl) dX8_readsCommand_241 rfl) (fun v41 s42 _ => ?_)
                    refine lx_if_eq hC 276 dX8_readsCommand_244 (by decide) ?_ ?_
                    · skip
                      refine lx_iconstv (v := 0) hC dX8_readsCommand_276 rfl ?_
                      exact lx_zret hC rfl hr rfl dX8_readsCommand_277
                    · skip
                      refine lx_aload_n hC dX8_readsCommand_247 rfl 0 rfl ?_
                      refine lx_iconstv (v := 0) hC dX8_readsCommand_248 rfl ?_
                      refine lx_callX hC hx (sat_X8_readsNumber (xl X) hl 0 s42) (run_V (as := [.int 0]) (rest := []) hC hE ly8 rfl cw_X8_readsNumber ci_X8_readsNumber wd2114 cs_X8_readsNumber ce_X8_readsNumber cd_X8_readsNumber (by decide) (by decide) (Nat.le_of_ble_eq_true rfl) dX8_readsCommand_249 rfl) (fun v43 s44 _ => ?_)
                      refine lx_if_eq hC 276 dX8_readsCommand_252 (by decide) ?_ ?_
                      · skip
                        refine lx_iconstv (v := 0) hC dX8_readsCommand_276 rfl ?_
                        exact lx_zret hC rfl hr rfl dX8_readsCommand_277
                      · skip
                        refine lx_aload_n hC dX8_readsCommand_255 rfl 0 rfl ?_
                        refine lx_bipush (v := 32) hC dX8_readsCommand_256 (by decide) ?_
                        refine lx_callX hC hx (sat_X8_reads (xl X) hl 32 s44) (run_V (as := [.int 32]) (rest := []) hC hE ly8 rfl cw_X8_reads ci_X8_reads wd2106 cs_X8_reads ce_X8_reads cd_X8_reads (by decide) (by decide) (Nat.le_of_ble_eq_true rfl) dX8_readsCommand_258 rfl) (fun v45 s46 _ => ?_)
                        refine lx_if_eq hC 276 dX8_readsCommand_261 (by decide) ?_ ?_
                        · skip
                          refine lx_iconstv (v := 0) hC dX8_readsCommand_276 rfl ?_
                          exact lx_zret hC rfl hr rfl dX8_readsCommand_277
                        · skip
                          refine lx_aload_n hC dX8_readsCommand_264 rfl 0 rfl ?_
                          refine lx_iconstv (v := 1) hC dX8_readsCommand_265 rfl ?_
                          refine lx_callX hC hx (sat_X8_readsNumber (xl X) hl 1 s46) (run_V (as := [.int 1]) (rest := []) hC hE ly8 rfl cw_X8_readsNumber ci_X8_readsNumber wd2114 cs_X8_readsNumber ce_X8_readsNumber cd_X8_readsNumber (by decide) (by decide) (Nat.le_of_ble_eq_true rfl) dX8_readsCommand_266 rfl) (fun v47 s48 _ => ?_)
                          refine lx_if_eq hC 276 dX8_readsCommand_269 (by decide) ?_ ?_
                          · skip
                            refine lx_iconstv (v := 0) hC dX8_readsCommand_276 rfl ?_
                            exact lx_zret hC rfl hr rfl dX8_readsCommand_277
                          · skip
                            refine lx_iconstv (v := 1) hC dX8_readsCommand_272 rfl ?_
                            refine lx_goto hC 277 dX8_readsCommand_273 (by decide) ?_
                            exact lx_zret hC rfl hr rfl dX8_readsCommand_277
          · skip
            refine lx_aload_n hC dX8_readsCommand_135 rfl 0 rfl ?_
            refine lx_bipush (v := 111) hC dX8_readsCommand_136 (by decide) ?_
            refine lx_callX hC hx (sat_X8_reads (xl X) hl 111 s12) (run_V (as := [.int 111]) (rest := []) hC hE ly8 rfl cw_X8_reads ci_X8_reads wd2106 cs_X8_reads ce_X8_reads cd_X8_reads (by decide) (by decide) (Nat.le_of_ble_eq_true rfl) dX8_readsCommand_138 rfl) (fun v49 s50 _ => ?_)
            refine lx_if_eq hC 200 dX8_readsCommand_141 (by decide) ?_ ?_
            · skip
              refine lx_iconstv (v := 0) hC dX8_readsCommand_200 rfl ?_
              exact lx_zret hC rfl hr rfl dX8_readsCommand_201
            · skip
              refine lx_aload_n hC dX8_readsCommand_144 rfl 0 rfl ?_
              refine lx_bipush (v := 118) hC dX8_readsCommand_145 (by decide) ?_
              refine lx_callX hC hx (sat_X8_reads (xl X) hl 118 s50) (run_V (as := [.int 118]) (rest := []) hC hE ly8 rfl cw_X8_reads ci_X8_reads wd2106 cs_X8_reads ce_X8_reads cd_X8_reads (by decide) (by decide) (Nat.le_of_ble_eq_true rfl) dX8_readsCommand_147 rfl) (fun v51 s52 _ => ?_)
              refine lx_if_eq hC 200 dX8_readsCommand_150 (by decide) ?_ ?_
              · skip
                refine lx_iconstv (v := 0) hC dX8_readsCommand_200 rfl ?_
                exact lx_zret hC rfl hr rfl dX8_readsCommand_201
              · skip
                refine lx_aload_n hC dX8_readsCommand_153 rfl 0 rfl ?_
                refine lx_bipush (v := 101) hC dX8_readsCommand_154 (by decide) ?_
                refine lx_callX hC hx (sat_X8_reads (xl X) hl 101 s52) (run_V (as := [.int 101]) (rest := []) hC hE ly8 rfl cw_X8_reads ci_X8_reads wd2106 cs_X8_reads ce_X8_reads cd_X8_reads (by decide) (by decide) (Nat.le_of_ble_eq_true rfl) dX8_readsCommand_156 rfl) (fun v53 s54 _ => ?_)
                refine lx_if_eq hC 200 dX8_readsCommand_159 (by decide) ?_ ?_
                · skip
                  refine lx_iconstv (v := 0) hC dX8_readsCommand_200 rfl ?_
                  exact lx_zret hC rfl hr rfl dX8_readsCommand_201
                · skip
                  refine lx_aload_n hC dX8_readsCommand_162 rfl 0 rfl ?_
                  refine lx_bipush (v := 32) hC dX8_readsCommand_163 (by decide) ?_
                  refine lx_callX hC hx (sat_X8_reads (xl X) hl 32 s54) (run_V (as := [.int 32]) (rest := []) hC hE ly8 rfl cw_X8_reads ci_X8_reads wd2106 cs_X8_reads ce_X8_reads cd_X8_reads (by decide) (by decide) (Nat.le_of_ble_eq_true rfl) dX8_readsCommand_165 rfl) (fun v55 s56 _ => ?_)
                  refine lx_if_eq hC 200 dX8_readsCommand_168 (by decide) ?_ ?_
                  · skip
                    refine lx_iconstv (v := 0) hC dX8_readsCommand_200 rfl ?_
                    exact lx_zret hC rfl hr rfl dX8_readsCommand_201
                  · skip
                    refine lx_aload_n hC dX8_readsCommand_171 rfl 0 rfl ?_
                    refine lx_iconstv (v := 0) hC dX8_readsCommand_172 rfl ?_
                    refine lx_callX hC hx (sat_X8_readsNumber (xl X) hl 0 s56) (run_V (as := [.int 0]) (rest := []) hC hE ly8 rfl cw_X8_readsNumber ci_X8_readsNumber wd2114 cs_X8_readsNumber ce_X8_readsNumber cd_X8_readsNumber (by decide) (by decide) (Nat.le_of_ble_eq_true rfl) dX8_readsCommand_173 rfl) (fun v57 s58 _ => ?_)
                    refine lx_if_eq hC 200 dX8_readsCommand_176 (by decide) ?_ ?_
                    · skip
                      refine lx_iconstv (v := 0) hC dX8_readsCommand_200 rfl ?_
                      exact lx_zret hC rfl hr rfl dX8_readsCommand_201
                    · skip
                      refine lx_aload_n hC dX8_readsCommand_179 rfl 0 rfl ?_
                      refine lx_bipush (v := 32) hC dX8_readsCommand_180 (by decide) ?_
                      refine lx_callX hC hx (sat_X8_reads (xl X) hl 32 s58) (run_V (as := [.int 32]) (rest := []) hC hE ly8 rfl cw_X8_reads ci_X8_reads wd2106 cs_X8_reads ce_X8_reads cd_X8_reads (by decide) (by decide) (Nat.le_of_ble_eq_true rfl) dX8_readsCommand_182 rfl) (fun v59 s60 _ => ?_)
                      refine lx_if_eq hC 200 dX8_readsCommand_185 (by decide) ?_ ?_
                      · skip
                        refine lx_iconstv (v := 0) hC dX8_readsCommand_200 rfl ?_
                        exact lx_zret hC rfl hr rfl dX8_readsCommand_201
                      · skip
                        refine lx_aload_n hC dX8_readsCommand_188 rfl 0 rfl ?_
                        refine lx_iconstv (v := 1) hC dX8_readsCommand_189 rfl ?_
                        refine lx_callX hC hx (sat_X8_readsDigit (xl X) hl 1 s60) (run_V (as := [.int 1]) (rest := []) hC hE ly8 rfl cw_X8_readsDigit ci_X8_readsDigit wd2118 cs_X8_readsDigit ce_X8_readsDigit cd_X8_readsDigit (by decide) (by decide) (Nat.le_of_ble_eq_true rfl) dX8_readsCommand_190 rfl) (fun v61 s62 _ => ?_)
                        refine lx_if_eq hC 200 dX8_readsCommand_193 (by decide) ?_ ?_
                        · skip
                          refine lx_iconstv (v := 0) hC dX8_readsCommand_200 rfl ?_
                          exact lx_zret hC rfl hr rfl dX8_readsCommand_201
                        · skip
                          refine lx_iconstv (v := 1) hC dX8_readsCommand_196 rfl ?_
                          refine lx_goto hC 201 dX8_readsCommand_197 (by decide) ?_
                          exact lx_zret hC rfl hr rfl dX8_readsCommand_201
        · skip
          refine lx_aload_n hC dX8_readsCommand_59 rfl 0 rfl ?_
          refine lx_bipush (v := 99) hC dX8_readsCommand_60 (by decide) ?_
          refine lx_callX hC hx (sat_X8_reads (xl X) hl 99 s10) (run_V (as := [.int 99]) (rest := []) hC hE ly8 rfl cw_X8_reads ci_X8_reads wd2106 cs_X8_reads ce_X8_reads cd_X8_reads (by decide) (by decide) (Nat.le_of_ble_eq_true rfl) dX8_readsCommand_62 rfl) (fun v63 s64 _ => ?_)
          refine lx_if_eq hC 124 dX8_readsCommand_65 (by decide) ?_ ?_
          · skip
            refine lx_iconstv (v := 0) hC dX8_readsCommand_124 rfl ?_
            exact lx_zret hC rfl hr rfl dX8_readsCommand_125
          · skip
            refine lx_aload_n hC dX8_readsCommand_68 rfl 0 rfl ?_
            refine lx_bipush (v := 104) hC dX8_readsCommand_69 (by decide) ?_
            refine lx_callX hC hx (sat_X8_reads (xl X) hl 104 s64) (run_V (as := [.int 104]) (rest := []) hC hE ly8 rfl cw_X8_reads ci_X8_reads wd2106 cs_X8_reads ce_X8_reads cd_X8_reads (by decide) (by decide) (Nat.le_of_ble_eq_true rfl) dX8_readsCommand_71 rfl) (fun v65 s66 _ => ?_)
            refine lx_if_eq hC 124 dX8_readsCommand_74 (by decide) ?_ ?_
            · skip
              refine lx_iconstv (v := 0) hC dX8_readsCommand_124 rfl ?_
              exact lx_zret hC rfl hr rfl dX8_readsCommand_125
            · skip
              refine lx_aload_n hC dX8_readsCommand_77 rfl 0 rfl ?_
              refine lx_bipush (v := 111) hC dX8_readsCommand_78 (by decide) ?_
              refine lx_callX hC hx (sat_X8_reads (xl X) hl 111 s66) (run_V (as := [.int 111]) (rest := []) hC hE ly8 rfl cw_X8_reads ci_X8_reads wd2106 cs_X8_reads ce_X8_reads cd_X8_reads (by decide) (by decide) (Nat.le_of_ble_eq_true rfl) dX8_readsCommand_80 rfl) (fun v67 s68 _ => ?_)
              refine lx_if_eq hC 124 dX8_readsCommand_83 (by decide) ?_ ?_
              · skip
                refine lx_iconstv (v := 0) hC dX8_readsCommand_124 rfl ?_
                exact lx_zret hC rfl hr rfl dX8_readsCommand_125
              · skip
                refine lx_aload_n hC dX8_readsCommand_86 rfl 0 rfl ?_
                refine lx_bipush (v := 32) hC dX8_readsCommand_87 (by decide) ?_
                refine lx_callX hC hx (sat_X8_reads (xl X) hl 32 s68) (run_V (as := [.int 32]) (rest := []) hC hE ly8 rfl cw_X8_reads ci_X8_reads wd2106 cs_X8_reads ce_X8_reads cd_X8_reads (by decide) (by decide) (Nat.le_of_ble_eq_true rfl) dX8_readsCommand_89 rfl) (fun v69 s70 _ => ?_)
                refine lx_if_eq hC 124 dX8_readsCommand_92 (by decide) ?_ ?_
                · skip
                  refine lx_iconstv (v := 0) hC dX8_readsCommand_124 rfl ?_
                  exact lx_zret hC rfl hr rfl dX8_readsCommand_125
                · skip
                  refine lx_aload_n hC dX8_readsCommand_95 rfl 0 rfl ?_
                  refine lx_iconstv (v := 0) hC dX8_readsCommand_96 rfl ?_
                  refine lx_callX hC hx (sat_X8_readsDigit (xl X) hl 0 s70) (run_V (as := [.int 0]) (rest := []) hC hE ly8 rfl cw_X8_readsDigit ci_X8_readsDigit wd2118 cs_X8_readsDigit ce_X8_readsDigit cd_X8_readsDigit (by decide) (by decide) (Nat.le_of_ble_eq_true rfl) dX8_readsCommand_97 rfl) (fun v71 s72 _ => ?_)
                  refine lx_if_eq hC 124 dX8_readsCommand_100 (by decide) ?_ ?_
                  · skip
                    refine lx_iconstv (v := 0) hC dX8_readsCommand_124 rfl ?_
                    exact lx_zret hC rfl hr rfl dX8_readsCommand_125
                  · skip
                    refine lx_aload_n hC dX8_readsCommand_103 rfl 0 rfl ?_
                    refine lx_bipush (v := 32) hC dX8_readsCommand_104 (by decide) ?_
                    refine lx_callX hC hx (sat_X8_reads (xl X) hl 32 s72) (run_V (as := [.int 32]) (rest := []) hC hE ly8 rfl cw_X8_reads ci_X8_reads wd2106 cs_X8_reads ce_X8_reads cd_X8_reads (by decide) (by decide) (Nat.le_of_ble_eq_true rfl) dX8_readsCommand_106 rfl) (fun v73 s74 _ => ?_)
                    refine lx_if_eq hC 124 dX8_readsCommand_109 (by decide) ?_ ?_
                    · skip
                      refine lx_iconstv (v := 0) hC dX8_readsCommand_124 rfl ?_
                      exact lx_zret hC rfl hr rfl dX8_readsCommand_125
                    · skip
                      refine lx_aload_n hC dX8_readsCommand_112 rfl 0 rfl ?_
                      refine lx_iconstv (v := 1) hC dX8_readsCommand_113 rfl ?_
                      refine lx_callX hC hx (sat_X8_readsNumber (xl X) hl 1 s74) (run_V (as := [.int 1]) (rest := []) hC hE ly8 rfl cw_X8_readsNumber ci_X8_readsNumber wd2114 cs_X8_readsNumber ce_X8_readsNumber cd_X8_readsNumber (by decide) (by decide) (Nat.le_of_ble_eq_true rfl) dX8_readsCommand_114 rfl) (fun v75 s76 _ => ?_)
                      refine lx_if_eq hC 124 dX8_readsCommand_117 (by decide) ?_ ?_
                      · skip
                        refine lx_iconstv (v := 0) hC dX8_readsCommand_124 rfl ?_
                        exact lx_zret hC rfl hr rfl dX8_readsCommand_125
                      · skip
                        refine lx_iconstv (v := 1) hC dX8_readsCommand_120 rfl ?_
                        refine lx_goto hC 125 dX8_readsCommand_121 (by decide) ?_
                        exact lx_zret hC rfl hr rfl dX8_readsCommand_125
      · skip
        refine lx_aload_n hC dX8_readsCommand_45 rfl 0 rfl ?_
        refine lx_callX hC hx (sat_X8_readsD (xl X) hl s8) (run_V (as := []) (rest := []) hC hE ly8 rfl cw_X8_readsD ci_X8_readsD wd2130 cs_X8_readsD ce_X8_readsD cd_X8_readsD (by decide) (by decide) (Nat.le_of_ble_eq_true rfl) dX8_readsCommand_46 rfl) (fun v77 s78 _ => ?_)
        exact lx_zretn hC rfl hr (by simp) dX8_readsCommand_49
    · skip
      refine lx_aload_n hC dX8_readsCommand_31 rfl 0 rfl ?_
      refine lx_callX hC hx (sat_X8_readsPhantoms (xl X) hl s6) (run_V (as := []) (rest := []) hC hE ly8 rfl cw_X8_readsPhantoms ci_X8_readsPhantoms wd2126 cs_X8_readsPhantoms ce_X8_readsPhantoms cd_X8_readsPhantoms (by decide) (by decide) (Nat.le_of_ble_eq_true rfl) dX8_readsCommand_32 rfl) (fun v79 s80 _ => ?_)
      exact lx_zretn hC rfl hr (by simp) dX8_readsCommand_35
  · skip
    refine lx_aload_n hC dX8_readsCommand_17 rfl 0 rfl ?_
    refine lx_callX hC hx (sat_X8_readsR (xl X) hl s4) (run_V (as := []) (rest := []) hC hE ly8 rfl cw_X8_readsR ci_X8_readsR wd2110 cs_X8_readsR ce_X8_readsR cd_X8_readsR (by decide) (by decide) (Nat.le_of_ble_eq_true rfl) dX8_readsCommand_18 rfl) (fun v81 s82 _ => ?_)
    exact lx_zretn hC rfl hr (by simp) dX8_readsCommand_21
set_option maxRecDepth 100000 in
set_option maxHeartbeats 2000000 in
theorem l_X8_readsAll_b7 {X : Cx} {V : Vx} {A : Nat → Prop} {adV : Nat → Nat} {c0 s0 : Nat} (hC : Cok X V A yX8_readsAll.cls cX8_readsAll 2) (hE : Env0 V adV A (xs X) (xs X).heap) (hl : (xl X).stackTraces = false) (hx : ∀ x ∈ (xc X).exceptionTable.toList, False) (hr : (xh X).sig.returnType = some .boolean) (s : Mem) (kf7 : (Int32 × Mem) → Res Int32) (hk7 : ∀ a, LX X V A 36 625 c0 s0 (FM X V A (fun x => some (.int x))) 7 [(0, .ref 8), (1, .int a.1)] [] a.2 (kf7 a)) (w1 : Int32) : LX X V A 36 625 c0 s0 (FM X V A (fun x => some (.int x))) 7 [(0, .ref 8), (1, .int w1)] [] s (m_X8_readsAll_b7 s kf7 w1 ) := by
  unfold m_X8_readsAll_b7
  refine lx_iload_n hC dX8_readsAll_7 rfl 1 rfl ?_
  refine lx_if_eq hC 30 dX8_readsAll_8 (by decide) ?_ ?_
  · skip
    refine lx_aload_n hC dX8_readsAll_30 rfl 0 rfl ?_
    refine lx_getI hC ly8 rfl 12 (by decide) rfl inX8 wd1617 dX8_readsAll_31 ?_
    refine lx_aload_n hC dX8_readsAll_34 rfl 0 rfl ?_
    refine lx_getI hC ly8 rfl 11 (by decide) rfl inX8 wd1616 dX8_readsAll_35 ?_
    refine lx_icmp_ne hC 45 dX8_readsAll_38 (by decide) ?_ ?_
    · skip
      refine lx_iconstv (v := 0) hC dX8_readsAll_45 rfl ?_
      exact lx_zret hC rfl hr rfl dX8_readsAll_46
    · skip
      refine lx_iconstv (v := 1) hC dX8_readsAll_41 rfl ?_
      refine lx_goto hC 46 dX8_readsAll_42 (by decide) ?_
      exact lx_zret hC rfl hr rfl dX8_readsAll_46
  · skip
    refine lx_aload_n hC dX8_readsAll_11 rfl 0 rfl ?_
    refine lx_callX hC hx (sat_X8_readsCommand (xl X) hl s) (run_V (as := []) (rest := []) hC hE ly8 rfl cw_X8_readsCommand ci_X8_readsCommand wd2098 cs_X8_readsCommand ce_X8_readsCommand cd_X8_readsCommand (by decide) (by decide) (Nat.le_of_ble_eq_true rfl) dX8_readsAll_12 rfl) (fun v2 s3 _ => ?_)
    refine lx_if_ne hC 20 dX8_readsAll_15 (by decide) ?_ ?_
    · skip
      refine lx_aload_n hC dX8_readsAll_20 rfl 0 rfl ?_
      refine lx_bipush (v := 59) hC dX8_readsAll_21 (by decide) ?_
      refine lx_callX hC hx (sat_X8_reads (xl X) hl 59 s3) (run_V (as := [.int 59]) (rest := []) hC hE ly8 rfl cw_X8_reads ci_X8_reads wd2106 cs_X8_reads ce_X8_reads cd_X8_reads (by decide) (by decide) (Nat.le_of_ble_eq_true rfl) dX8_readsAll_23 rfl) (fun v4 s5 _ => ?_)
      refine lx_istore_n hC dX8_readsAll_26 rfl (by decide) ?_
      refine lx_goto hC 7 dX8_readsAll_27 (by decide) ?_
      exact lx_sub [1, 0] rfl (hk7 (v4, s5))
    · skip
      refine lx_iconstv (v := 0) hC dX8_readsAll_18 rfl ?_
      exact lx_zret hC rfl hr rfl dX8_readsAll_19
set_option maxRecDepth 100000 in
set_option maxHeartbeats 2000000 in
theorem n_X8_readsAll_b7 (s : Mem) (kf7 : (Int32 × Mem) → Res Int32) (hm7 : ∀ a, Mn a.2 (kf7 a)) (w1 : Int32) : Mn s (m_X8_readsAll_b7 s kf7 w1 ) := by
  unfold m_X8_readsAll_b7
  refine mn_if ?_ ?_
  · skip
    refine mn_if ?_ ?_
    · skip
      exact mn_some
    · skip
      exact mn_some
  · skip
    refine mn_bind (n_X8_readsCommand s) (fun v2 s3 => ?_)
    refine mn_if ?_ ?_
    · skip
      refine mn_bind (n_X8_reads 59 s3) (fun v4 s5 => ?_)
      exact hm7 (v4, s5)
    · skip
      exact mn_some
set_option maxRecDepth 100000 in
set_option maxHeartbeats 2000000 in
theorem n_X8_readsAll (s : Mem) : Mn s (m_X8_readsAll s) := by
  unfold m_X8_readsAll
  refine mn_put (fun s1 => ?_)
  exact mn_lp (sg := fun a => a.2) (fun kf hq a => n_X8_readsAll_b7 a.2 kf hq a.1) FUEL (1, s1)
set_option maxRecDepth 100000 in
set_option maxHeartbeats 2000000 in
theorem sat_X8_readsAll (l : Launch) (hl : l.stackTraces = false) (s : Mem) : Sat l yX8_readsAll (.code yX8_readsAll cX8_readsAll 2 (some .boolean)) 36 625 (fun x => some (.int x)) [.ref 8] s (m_X8_readsAll s) := by
  refine sat_of hl (by decide) (Nat.le_of_ble_eq_true rfl) (fun X V A adV hxl hC hE hx hr => ?_) (n_X8_readsAll s)
  subst hxl
  show LX X V A 36 625 (nC s) (nS s) _ 0 [(0, .ref 8)] [] s _
  unfold m_X8_readsAll
  refine lx_aload_n hC dX8_readsAll_0 rfl 0 rfl ?_
  refine lx_iconstv (v := 0) hC dX8_readsAll_1 rfl ?_
  refine lx_putI hC ly8 rfl 12 (by decide) rfl tyX8 tyX8_ok nmX8 rfl rfl rfl inX8 wd1617 dX8_readsAll_2 (fun s1 => ?_)
  refine lx_iconstv (v := 1) hC dX8_readsAll_5 rfl ?_
  refine lx_istore_n hC dX8_readsAll_6 rfl (by decide) ?_
  refine lx_sub [1, 0] rfl ?_
  exact lx_lp (lv := fun a => [(0, .ref 8), (1, .int a.1)]) (st := fun _ => []) (sg := fun a => a.2) (fun kf hq a => l_X8_readsAll_b7 hC hE hl hx hr a.2 kf hq a.1) FUEL (1, s1)
set_option maxRecDepth 100000 in
set_option maxHeartbeats 2000000 in
theorem sat_X8_notNow (l : Launch) (hl : l.stackTraces = false) (s : Mem) : Sat l yX8_notNow (.code yX8_notNow cX8_notNow 3 (some .int)) 34 590 (fun x => some (.int x)) [.ref 8] s (pur s (m_X8_notNow s)) := by
  refine sat_of hl (by decide) (Nat.le_of_ble_eq_true rfl) (fun X V A adV hxl hC hE hx hr => ?_) pur_mono
  subst hxl
  show LX X V A 34 590 (nC s) (nS s) _ 0 [(0, .ref 8)] [] s _
  unfold m_X8_notNow
  refine lx_aload_n hC dX8_notNow_0 rfl 0 rfl ?_
  refine lx_getR (q := 1032) hC ly8 rfl 15 (by decide) rfl rfl inX8 wd1620 dX8_notNow_1 ?_
  refine lx_iconstv (v := 0) hC dX8_notNow_4 rfl ?_
  refine lq_iaload hC ly1032 dX8_notNow_5 ?_
  refine lq_istore_nN hC dX8_notNow_6 rfl (by decide) (fun y1 => ?_)
  refine lx_aload_n hC dX8_notNow_7 rfl 1 rfl ?_
  refine lx_getR (q := 1032) hC ly8 rfl 15 (by decide) rfl rfl inX8 wd1620 dX8_notNow_8 ?_
  refine lx_iconstv (v := 1) hC dX8_notNow_11 rfl ?_
  refine lq_iaload hC ly1032 dX8_notNow_12 ?_
  refine lq_istore_nN hC dX8_notNow_13 rfl (by decide) (fun y2 => ?_)
  refine lx_aload_n hC dX8_notNow_14 rfl 2 rfl ?_
  refine lx_getI hC ly8 rfl 16 (by decide) rfl inX8 wd1621 dX8_notNow_15 ?_
  refine lq_case (fun h3 => ?_) (fun h3 => ?_)
  · refine lx_tin hC 191 h3 dX8_notNow_18 (by decide) (by decide) rfl (by decide) ?_
    refine lx_aload_n hC dX8_notNow_191 rfl 2 rfl ?_
    refine lx_iload_n hC dX8_notNow_192 rfl 1 rfl ?_
    refine lx_iload_n hC dX8_notNow_193 rfl 0 rfl ?_
    refine lq_call hC hx (sat_X8_notName (xl X) hl y1 y2 s) (run_V (as := [.int y1, .int y2]) (rest := []) hC hE ly8 rfl cw_X8_notName ci_X8_notName wd1844 cs_X8_notName ce_X8_notName cd_X8_notName (by decide) (by decide) (Nat.le_of_ble_eq_true rfl) dX8_notNow_194 rfl) (fun v4 _ => ?_)
    exact lx_iret hC rfl hr dX8_notNow_197
  · skip
    refine lq_case (fun h5 => ?_) (fun h5 => ?_)
    · refine lx_tin hC 137 h5 dX8_notNow_18 (by decide) (by decide) rfl (by decide) ?_
      refine lx_aload_n hC dX8_notNow_137 rfl 2 rfl ?_
      refine lx_iload_n hC dX8_notNow_138 rfl 1 rfl ?_
      refine lx_iload_n hC dX8_notNow_139 rfl 0 rfl ?_
      refine lq_call hC hx (sat_X8_notRemovePhantoms (xl X) hl y1 y2 s) (run_V (as := [.int y1, .int y2]) (rest := []) hC hE ly8 rfl cw_X8_notRemovePhantoms ci_X8_notRemovePhantoms wd1728 cs_X8_notRemovePhantoms ce_X8_notRemovePhantoms cd_X8_notRemovePhantoms (by decide) (by decide) (Nat.le_of_ble_eq_true rfl) dX8_notNow_140 rfl) (fun v6 _ => ?_)
      exact lx_iret hC rfl hr dX8_notNow_143
    · skip
      refine lq_case (fun h7 => ?_) (fun h7 => ?_)
      · refine lx_tin hC 144 h7 dX8_notNow_18 (by decide) (by decide) rfl (by decide) ?_
        refine lx_aload_n hC dX8_notNow_144 rfl 2 rfl ?_
        refine lx_iload_n hC dX8_notNow_145 rfl 1 rfl ?_
        refine lx_iload_n hC dX8_notNow_146 rfl 0 rfl ?_
        refine lq_call hC hx (sat_X8_notAdd (xl X) hl y1 y2 s) (run_V (as := [.int y1, .int y2]) (rest := []) hC hE ly8 rfl cw_X8_notAdd ci_X8_notAdd wd1748 cs_X8_notAdd ce_X8_notAdd cd_X8_notAdd (by decide) (by decide) (Nat.le_of_ble_eq_true rfl) dX8_notNow_147 rfl) (fun v8 _ => ?_)
        exact lx_iret hC rfl hr dX8_notNow_150
      · skip
        refine lq_case (fun h9 => ?_) (fun h9 => ?_)
        · refine lx_tin hC 164 h9 dX8_notNow_18 (by decide) (by decide) rfl (by decide) ?_
          refine lx_aload_n hC dX8_notNow_164 rfl 2 rfl ?_
          refine lx_iload_n hC dX8_notNow_165 rfl 1 rfl ?_
          refine lx_iload_n hC dX8_notNow_166 rfl 0 rfl ?_
          refine lq_call hC hx (sat_X8_notSetHeir (xl X) hl y1 y2 s) (run_V (as := [.int y1, .int y2]) (rest := []) hC hE ly8 rfl cw_X8_notSetHeir ci_X8_notSetHeir wd1796 cs_X8_notSetHeir ce_X8_notSetHeir cd_X8_notSetHeir (by decide) (by decide) (Nat.le_of_ble_eq_true rfl) dX8_notNow_167 rfl) (fun v10 _ => ?_)
          exact lx_iret hC rfl hr dX8_notNow_170
        · skip
          refine lq_case (fun h11 => ?_) (fun h11 => ?_)
          · refine lx_tin hC 177 h11 dX8_notNow_18 (by decide) (by decide) rfl (by decide) ?_
            refine lx_aload_n hC dX8_notNow_177 rfl 2 rfl ?_
            refine lx_iload_n hC dX8_notNow_178 rfl 1 rfl ?_
            refine lx_iconstv (v := 1) hC dX8_notNow_179 rfl ?_
            refine lq_call hC hx (sat_X8_notLock (xl X) hl y1 1 s) (run_V (as := [.int y1, .int 1]) (rest := []) hC hE ly8 rfl cw_X8_notLock ci_X8_notLock wd1824 cs_X8_notLock ce_X8_notLock cd_X8_notLock (by decide) (by decide) (Nat.le_of_ble_eq_true rfl) dX8_notNow_180 rfl) (fun v12 _ => ?_)
            exact lx_iret hC rfl hr dX8_notNow_183
          · skip
            refine lq_case (fun h13 => ?_) (fun h13 => ?_)
            · refine lx_tin hC 151 h13 dX8_notNow_18 (by decide) (by decide) rfl (by decide) ?_
              refine lx_aload_n hC dX8_notNow_151 rfl 2 rfl ?_
              refine lx_iload_n hC dX8_notNow_152 rfl 1 rfl ?_
              refine lx_iload_n hC dX8_notNow_153 rfl 0 rfl ?_
              refine lq_call hC hx (sat_X8_notMove (xl X) hl y1 y2 s) (run_V (as := [.int y1, .int y2]) (rest := []) hC hE ly8 rfl cw_X8_notMove ci_X8_notMove wd1764 cs_X8_notMove ce_X8_notMove cd_X8_notMove (by decide) (by decide) (Nat.le_of_ble_eq_true rfl) dX8_notNow_154 rfl) (fun v14 _ => ?_)
              exact lx_iret hC rfl hr dX8_notNow_157
            · skip
              refine lq_case (fun h15 => ?_) (fun h15 => ?_)
              · refine lx_tin hC 171 h15 dX8_notNow_18 (by decide) (by decide) rfl (by decide) ?_
                refine lx_aload_n hC dX8_notNow_171 rfl 2 rfl ?_
                refine lx_iload_n hC dX8_notNow_172 rfl 1 rfl ?_
                refine lq_call hC hx (sat_X8_notClearHeir (xl X) hl y1 s) (run_V (as := [.int y1]) (rest := []) hC hE ly8 rfl cw_X8_notClearHeir ci_X8_notClearHeir wd1812 cs_X8_notClearHeir ce_X8_notClearHeir cd_X8_notClearHeir (by decide) (by decide) (Nat.le_of_ble_eq_true rfl) dX8_notNow_173 rfl) (fun v16 _ => ?_)
                exact lx_iret hC rfl hr dX8_notNow_176
              · skip
                refine lq_case (fun h17 => ?_) (fun h17 => ?_)
                · refine lx_tin hC 130 h17 dX8_notNow_18 (by decide) (by decide) rfl (by decide) ?_
                  refine lx_aload_n hC dX8_notNow_130 rfl 2 rfl ?_
                  refine lx_iload_n hC dX8_notNow_131 rfl 1 rfl ?_
                  refine lx_iload_n hC dX8_notNow_132 rfl 0 rfl ?_
                  refine lq_call hC hx (sat_X8_notAddPhantoms (xl X) hl y1 y2 s) (run_V (as := [.int y1, .int y2]) (rest := []) hC hE ly8 rfl cw_X8_notAddPhantoms ci_X8_notAddPhantoms wd1704 cs_X8_notAddPhantoms ce_X8_notAddPhantoms cd_X8_notAddPhantoms (by decide) (by decide) (Nat.le_of_ble_eq_true rfl) dX8_notNow_133 rfl) (fun v18 _ => ?_)
                  exact lx_iret hC rfl hr dX8_notNow_136
                · skip
                  refine lq_case (fun h19 => ?_) (fun h19 => ?_)
                  · refine lx_tin hC 124 h19 dX8_notNow_18 (by decide) (by decide) rfl (by decide) ?_
                    refine lx_aload_n hC dX8_notNow_124 rfl 2 rfl ?_
                    refine lx_iload_n hC dX8_notNow_125 rfl 1 rfl ?_
                    refine lq_call hC hx (sat_X8_notAddRow (xl X) hl y1 s) (run_V (as := [.int y1]) (rest := []) hC hE ly8 rfl cw_X8_notAddRow ci_X8_notAddRow wd1669 cs_X8_notAddRow ce_X8_notAddRow cd_X8_notAddRow (by decide) (by decide) (Nat.le_of_ble_eq_true rfl) dX8_notNow_126 rfl) (fun v20 _ => ?_)
                    exact lx_iret hC rfl hr dX8_notNow_129
                  · skip
                    refine lq_case (fun h21 => ?_) (fun h21 => ?_)
                    · refine lx_tin hC 184 h21 dX8_notNow_18 (by decide) (by decide) rfl (by decide) ?_
                      refine lx_aload_n hC dX8_notNow_184 rfl 2 rfl ?_
                      refine lx_iload_n hC dX8_notNow_185 rfl 1 rfl ?_
                      refine lx_iconstv (v := 0) hC dX8_notNow_186 rfl ?_
                      refine lq_call hC hx (sat_X8_notLock (xl X) hl y1 0 s) (run_V (as := [.int y1, .int 0]) (rest := []) hC hE ly8 rfl cw_X8_notLock ci_X8_notLock wd1824 cs_X8_notLock ce_X8_notLock cd_X8_notLock (by decide) (by decide) (Nat.le_of_ble_eq_true rfl) dX8_notNow_187 rfl) (fun v22 _ => ?_)
                      exact lx_iret hC rfl hr dX8_notNow_190
                    · skip
                      refine lq_case (fun h23 => ?_) (fun h23 => ?_)
                      · refine lx_tin hC 158 h23 dX8_notNow_18 (by decide) (by decide) rfl (by decide) ?_
                        refine lx_aload_n hC dX8_notNow_158 rfl 2 rfl ?_
                        refine lx_iload_n hC dX8_notNow_159 rfl 1 rfl ?_
                        refine lq_call hC hx (sat_X8_notRemove (xl X) hl y1 s) (run_V (as := [.int y1]) (rest := []) hC hE ly8 rfl cw_X8_notRemove ci_X8_notRemove wd1780 cs_X8_notRemove ce_X8_notRemove cd_X8_notRemove (by decide) (by decide) (Nat.le_of_ble_eq_true rfl) dX8_notNow_160 rfl) (fun v24 _ => ?_)
                        exact lx_iret hC rfl hr dX8_notNow_163
                      · skip
                        refine lx_tdf hC 198 dX8_notNow_18 (fun z zq1 zq2 ze => ?_) (by decide) ?_
                        · rcases (show z = 98 ∨ z = 99 ∨ z = 100 ∨ z = 101 ∨ z = 102 ∨ z = 103 ∨ z = 104 ∨ z = 105 ∨ z = 106 ∨ z = 107 ∨ z = 108 ∨ z = 109 ∨ z = 110 ∨ z = 111 ∨ z = 112 ∨ z = 113 ∨ z = 114 ∨ z = 115 ∨ z = 116 ∨ z = 117 ∨ z = 118 ∨ z = 119 ∨ z = 120 by omega) with rfl | rfl | rfl | rfl | rfl | rfl | rfl | rfl | rfl | rfl | rfl | rfl | rfl | rfl | rfl | rfl | rfl | rfl | rfl | rfl | rfl | rfl | rfl
                          · exact absurd ze (lv_neT h3 (by decide))
                          · rfl
                          · exact absurd ze (lv_neT h5 (by decide))
                          · exact absurd ze (lv_neT h7 (by decide))
                          · rfl
                          · rfl
                          · exact absurd ze (lv_neT h9 (by decide))
                          · rfl
                          · rfl
                          · rfl
                          · exact absurd ze (lv_neT h11 (by decide))
                          · exact absurd ze (lv_neT h13 (by decide))
                          · rfl
                          · exact absurd ze (lv_neT h15 (by decide))
                          · exact absurd ze (lv_neT h17 (by decide))
                          · rfl
                          · exact absurd ze (lv_neT h19 (by decide))
                          · rfl
                          · rfl
                          · exact absurd ze (lv_neT h21 (by decide))
                          · rfl
                          · rfl
                          · exact absurd ze (lv_neT h23 (by decide))
                        · skip
                          refine lx_aload_n hC dX8_notNow_198 rfl 2 rfl ?_
                          refine lx_iload_n hC dX8_notNow_199 rfl 1 rfl ?_
                          refine lq_call hC hx (sat_X8_notSpread (xl X) hl y1 s) (run_V (as := [.int y1]) (rest := []) hC hE ly8 rfl cw_X8_notSpread ci_X8_notSpread wd1859 cs_X8_notSpread ce_X8_notSpread cd_X8_notSpread (by decide) (by decide) (Nat.le_of_ble_eq_true rfl) dX8_notNow_200 rfl) (fun v25 _ => ?_)
                          exact lx_iret hC rfl hr dX8_notNow_203
set_option maxRecDepth 100000 in
set_option maxHeartbeats 2000000 in
theorem n_X8_doesNow (s : Mem) : Mn s (m_X8_doesNow s) := by
  unfold m_X8_doesNow
  refine mn_if ?_ mn_none
  refine mn_vl (fun y1 => ?_)
  refine mn_if ?_ mn_none
  refine mn_vl (fun y2 => ?_)
  refine mn_if ?_ ?_
  · skip
    refine mn_bind (n_X8_names y1 y2 s) (fun v4 s5 => ?_)
    exact mn_some
  · skip
    refine mn_if ?_ ?_
    · skip
      refine mn_bind (n_X8_changesPhantoms y1 (-y2) s) (fun v7 s8 => ?_)
      exact mn_some
    · skip
      refine mn_if ?_ ?_
      · skip
        refine mn_bind (n_X8_adds y1 y2 s) (fun v10 s11 => ?_)
        exact mn_some
      · skip
        refine mn_if ?_ ?_
        · skip
          refine mn_bind (n_X8_setsHeir y1 y2 s) (fun v13 s14 => ?_)
          exact mn_some
        · skip
          refine mn_if ?_ ?_
          · skip
            refine mn_bind (n_X8_locks y1 1 s) (fun v16 s17 => ?_)
            exact mn_some
          · skip
            refine mn_if ?_ ?_
            · skip
              refine mn_bind (n_X8_moves y1 y2 s) (fun v19 s20 => ?_)
              exact mn_some
            · skip
              refine mn_if ?_ ?_
              · skip
                refine mn_bind (n_X8_setsHeir y1 (-1) s) (fun v22 s23 => ?_)
                exact mn_some
              · skip
                refine mn_if ?_ ?_
                · skip
                  refine mn_bind (n_X8_changesPhantoms y1 y2 s) (fun v25 s26 => ?_)
                  exact mn_some
                · skip
                  refine mn_if ?_ ?_
                  · skip
                    refine mn_bind (n_X8_addsRow y1 s) (fun v28 s29 => ?_)
                    exact mn_some
                  · skip
                    refine mn_if ?_ ?_
                    · skip
                      refine mn_bind (n_X8_locks y1 0 s) (fun v31 s32 => ?_)
                      exact mn_some
                    · skip
                      refine mn_if ?_ ?_
                      · skip
                        refine mn_bind (n_X8_removes y1 s) (fun v34 s35 => ?_)
                        exact mn_some
                      · skip
                        refine mn_bind (n_X8_spreads y1 s) (fun v36 s37 => ?_)
                        exact mn_some
set_option maxRecDepth 100000 in
set_option maxHeartbeats 2000000 in
theorem sat_X8_doesNow (l : Launch) (hl : l.stackTraces = false) (s : Mem) : Sat l yX8_doesNow (.code yX8_doesNow cX8_doesNow 3 (some .int)) 34 590 (fun x => some (.int x)) [.ref 8] s (m_X8_doesNow s) := by
  refine sat_of hl (by decide) (Nat.le_of_ble_eq_true rfl) (fun X V A adV hxl hC hE hx hr => ?_) (n_X8_doesNow s)
  subst hxl
  show LX X V A 34 590 (nC s) (nS s) _ 0 [(0, .ref 8)] [] s _
  unfold m_X8_doesNow
  refine lx_aload_n hC dX8_doesNow_0 rfl 0 rfl ?_
  refine lx_getR (q := 1032) hC ly8 rfl 15 (by decide) rfl rfl inX8 wd1620 dX8_doesNow_1 ?_
  refine lx_iconstv (v := 0) hC dX8_doesNow_4 rfl ?_
  refine lx_iaload hC ly1032 dX8_doesNow_5 ?_
  refine lx_istore_nN hC dX8_doesNow_6 rfl (by decide) (fun y1 => ?_)
  refine lx_aload_n hC dX8_doesNow_7 rfl 1 rfl ?_
  refine lx_getR (q := 1032) hC ly8 rfl 15 (by decide) rfl rfl inX8 wd1620 dX8_doesNow_8 ?_
  refine lx_iconstv (v := 1) hC dX8_doesNow_11 rfl ?_
  refine lx_iaload hC ly1032 dX8_doesNow_12 ?_
  refine lx_istore_nN hC dX8_doesNow_13 rfl (by decide) (fun y2 => ?_)
  refine lx_aload_n hC dX8_doesNow_14 rfl 2 rfl ?_
  refine lx_getI hC ly8 rfl 16 (by decide) rfl inX8 wd1621 dX8_doesNow_15 ?_
  refine lx_case (fun h3 => ?_) (fun h3 => ?_)
  · refine lx_tin hC 193 h3 dX8_doesNow_18 (by decide) (by decide) rfl (by decide) ?_
    refine lx_aload_n hC dX8_doesNow_193 rfl 2 rfl ?_
    refine lx_iload_n hC dX8_doesNow_194 rfl 1 rfl ?_
    refine lx_iload_n hC dX8_doesNow_195 rfl 0 rfl ?_
    refine lx_callX hC hx (sat_X8_names (xl X) hl y1 y2 s) (run_V (as := [.int y1, .int y2]) (rest := []) hC hE ly8 rfl cw_X8_names ci_X8_names wd1851 cs_X8_names ce_X8_names cd_X8_names (by decide) (by decide) (Nat.le_of_ble_eq_true rfl) dX8_doesNow_196 rfl) (fun v4 s5 _ => ?_)
    exact lx_iret hC rfl hr dX8_doesNow_199
  · skip
    refine lx_case (fun h6 => ?_) (fun h6 => ?_)
    · refine lx_tin hC 137 h6 dX8_doesNow_18 (by decide) (by decide) rfl (by decide) ?_
      refine lx_aload_n hC dX8_doesNow_137 rfl 2 rfl ?_
      refine lx_iload_n hC dX8_doesNow_138 rfl 1 rfl ?_
      refine lx_iload_n hC dX8_doesNow_139 rfl 0 rfl ?_
      refine lx_ineg hC dX8_doesNow_140 ?_
      refine lx_callX hC hx (sat_X8_changesPhantoms (xl X) hl y1 (-y2) s) (run_V (as := [.int y1, .int (-y2)]) (rest := []) hC hE ly8 rfl cw_X8_changesPhantoms ci_X8_changesPhantoms wd1720 cs_X8_changesPhantoms ce_X8_changesPhantoms cd_X8_changesPhantoms (by decide) (by decide) (Nat.le_of_ble_eq_true rfl) dX8_doesNow_141 rfl) (fun v7 s8 _ => ?_)
      exact lx_iret hC rfl hr dX8_doesNow_144
    · skip
      refine lx_case (fun h9 => ?_) (fun h9 => ?_)
      · refine lx_tin hC 145 h9 dX8_doesNow_18 (by decide) (by decide) rfl (by decide) ?_
        refine lx_aload_n hC dX8_doesNow_145 rfl 2 rfl ?_
        refine lx_iload_n hC dX8_doesNow_146 rfl 1 rfl ?_
        refine lx_iload_n hC dX8_doesNow_147 rfl 0 rfl ?_
        refine lx_callX hC hx (sat_X8_adds (xl X) hl y1 y2 s) (run_V (as := [.int y1, .int y2]) (rest := []) hC hE ly8 rfl cw_X8_adds ci_X8_adds wd1752 cs_X8_adds ce_X8_adds cd_X8_adds (by decide) (by decide) (Nat.le_of_ble_eq_true rfl) dX8_doesNow_148 rfl) (fun v10 s11 _ => ?_)
        exact lx_iret hC rfl hr dX8_doesNow_151
      · skip
        refine lx_case (fun h12 => ?_) (fun h12 => ?_)
        · refine lx_tin hC 165 h12 dX8_doesNow_18 (by decide) (by decide) rfl (by decide) ?_
          refine lx_aload_n hC dX8_doesNow_165 rfl 2 rfl ?_
          refine lx_iload_n hC dX8_doesNow_166 rfl 1 rfl ?_
          refine lx_iload_n hC dX8_doesNow_167 rfl 0 rfl ?_
          refine lx_callX hC hx (sat_X8_setsHeir (xl X) hl y1 y2 s) (run_V (as := [.int y1, .int y2]) (rest := []) hC hE ly8 rfl cw_X8_setsHeir ci_X8_setsHeir wd1804 cs_X8_setsHeir ce_X8_setsHeir cd_X8_setsHeir (by decide) (by decide) (Nat.le_of_ble_eq_true rfl) dX8_doesNow_168 rfl) (fun v13 s14 _ => ?_)
          exact lx_iret hC rfl hr dX8_doesNow_171
        · skip
          refine lx_case (fun h15 => ?_) (fun h15 => ?_)
          · refine lx_tin hC 179 h15 dX8_doesNow_18 (by decide) (by decide) rfl (by decide) ?_
            refine lx_aload_n hC dX8_doesNow_179 rfl 2 rfl ?_
            refine lx_iload_n hC dX8_doesNow_180 rfl 1 rfl ?_
            refine lx_iconstv (v := 1) hC dX8_doesNow_181 rfl ?_
            refine lx_callX hC hx (sat_X8_locks (xl X) hl y1 1 s) (run_V (as := [.int y1, .int 1]) (rest := []) hC hE ly8 rfl cw_X8_locks ci_X8_locks wd1828 cs_X8_locks ce_X8_locks cd_X8_locks (by decide) (by decide) (Nat.le_of_ble_eq_true rfl) dX8_doesNow_182 rfl) (fun v16 s17 _ => ?_)
            exact lx_iret hC rfl hr dX8_doesNow_185
          · skip
            refine lx_case (fun h18 => ?_) (fun h18 => ?_)
            · refine lx_tin hC 152 h18 dX8_doesNow_18 (by decide) (by decide) rfl (by decide) ?_
              refine lx_aload_n hC dX8_doesNow_152 rfl 2 rfl ?_
              refine lx_iload_n hC dX8_doesNow_153 rfl 1 rfl ?_
              refine lx_iload_n hC dX8_doesNow_154 rfl 0 rfl ?_
              refine lx_callX hC hx (sat_X8_moves (xl X) hl y1 y2 s) (run_V (as := [.int y1, .int y2]) (rest := []) hC hE ly8 rfl cw_X8_moves ci_X8_moves wd1772 cs_X8_moves ce_X8_moves cd_X8_moves (by decide) (by decide) (Nat.le_of_ble_eq_true rfl) dX8_doesNow_155 rfl) (fun v19 s20 _ => ?_)
              exact lx_iret hC rfl hr dX8_doesNow_158
            · skip
              refine lx_case (fun h21 => ?_) (fun h21 => ?_)
              · refine lx_tin hC 172 h21 dX8_doesNow_18 (by decide) (by decide) rfl (by decide) ?_
                refine lx_aload_n hC dX8_doesNow_172 rfl 2 rfl ?_
                refine lx_iload_n hC dX8_doesNow_173 rfl 1 rfl ?_
                refine lx_iconstv (v := (-1)) hC dX8_doesNow_174 rfl ?_
                refine lx_callX hC hx (sat_X8_setsHeir (xl X) hl y1 (-1) s) (run_V (as := [.int y1, .int (-1)]) (rest := []) hC hE ly8 rfl cw_X8_setsHeir ci_X8_setsHeir wd1804 cs_X8_setsHeir ce_X8_setsHeir cd_X8_setsHeir (by decide) (by decide) (Nat.le_of_ble_eq_true rfl) dX8_doesNow_175 rfl) (fun v22 s23 _ => ?_)
                exact lx_iret hC rfl hr dX8_doesNow_178
              · skip
                refine lx_case (fun h24 => ?_) (fun h24 => ?_)
                · refine lx_tin hC 130 h24 dX8_doesNow_18 (by decide) (by decide) rfl (by decide) ?_
                  refine lx_aload_n hC dX8_doesNow_130 rfl 2 rfl ?_
                  refine lx_iload_n hC dX8_doesNow_131 rfl 1 rfl ?_
                  refine lx_iload_n hC dX8_doesNow_132 rfl 0 rfl ?_
                  refine lx_callX hC hx (sat_X8_changesPhantoms (xl X) hl y1 y2 s) (run_V (as := [.int y1, .int y2]) (rest := []) hC hE ly8 rfl cw_X8_changesPhantoms ci_X8_changesPhantoms wd1720 cs_X8_changesPhantoms ce_X8_changesPhantoms cd_X8_changesPhantoms (by decide) (by decide) (Nat.le_of_ble_eq_true rfl) dX8_doesNow_133 rfl) (fun v25 s26 _ => ?_)
                  exact lx_iret hC rfl hr dX8_doesNow_136
                · skip
                  refine lx_case (fun h27 => ?_) (fun h27 => ?_)
                  · refine lx_tin hC 124 h27 dX8_doesNow_18 (by decide) (by decide) rfl (by decide) ?_
                    refine lx_aload_n hC dX8_doesNow_124 rfl 2 rfl ?_
                    refine lx_iload_n hC dX8_doesNow_125 rfl 1 rfl ?_
                    refine lx_callX hC hx (sat_X8_addsRow (xl X) hl y1 s) (run_V (as := [.int y1]) (rest := []) hC hE ly8 rfl cw_X8_addsRow ci_X8_addsRow wd1692 cs_X8_addsRow ce_X8_addsRow cd_X8_addsRow (by decide) (by decide) (Nat.le_of_ble_eq_true rfl) dX8_doesNow_126 rfl) (fun v28 s29 _ => ?_)
                    exact lx_iret hC rfl hr dX8_doesNow_129
                  · skip
                    refine lx_case (fun h30 => ?_) (fun h30 => ?_)
                    · refine lx_tin hC 186 h30 dX8_doesNow_18 (by decide) (by decide) rfl (by decide) ?_
                      refine lx_aload_n hC dX8_doesNow_186 rfl 2 rfl ?_
                      refine lx_iload_n hC dX8_doesNow_187 rfl 1 rfl ?_
                      refine lx_iconstv (v := 0) hC dX8_doesNow_188 rfl ?_
                      refine lx_callX hC hx (sat_X8_locks (xl X) hl y1 0 s) (run_V (as := [.int y1, .int 0]) (rest := []) hC hE ly8 rfl cw_X8_locks ci_X8_locks wd1828 cs_X8_locks ce_X8_locks cd_X8_locks (by decide) (by decide) (Nat.le_of_ble_eq_true rfl) dX8_doesNow_189 rfl) (fun v31 s32 _ => ?_)
                      exact lx_iret hC rfl hr dX8_doesNow_192
                    · skip
                      refine lx_case (fun h33 => ?_) (fun h33 => ?_)
                      · refine lx_tin hC 159 h33 dX8_doesNow_18 (by decide) (by decide) rfl (by decide) ?_
                        refine lx_aload_n hC dX8_doesNow_159 rfl 2 rfl ?_
                        refine lx_iload_n hC dX8_doesNow_160 rfl 1 rfl ?_
                        refine lx_callX hC hx (sat_X8_removes (xl X) hl y1 s) (run_V (as := [.int y1]) (rest := []) hC hE ly8 rfl cw_X8_removes ci_X8_removes wd1784 cs_X8_removes ce_X8_removes cd_X8_removes (by decide) (by decide) (Nat.le_of_ble_eq_true rfl) dX8_doesNow_161 rfl) (fun v34 s35 _ => ?_)
                        exact lx_iret hC rfl hr dX8_doesNow_164
                      · skip
                        refine lx_tdf hC 200 dX8_doesNow_18 (fun z zq1 zq2 ze => ?_) (by decide) ?_
                        · rcases (show z = 98 ∨ z = 99 ∨ z = 100 ∨ z = 101 ∨ z = 102 ∨ z = 103 ∨ z = 104 ∨ z = 105 ∨ z = 106 ∨ z = 107 ∨ z = 108 ∨ z = 109 ∨ z = 110 ∨ z = 111 ∨ z = 112 ∨ z = 113 ∨ z = 114 ∨ z = 115 ∨ z = 116 ∨ z = 117 ∨ z = 118 ∨ z = 119 ∨ z = 120 by omega) with rfl | rfl | rfl | rfl | rfl | rfl | rfl | rfl | rfl | rfl | rfl | rfl | rfl | rfl | rfl | rfl | rfl | rfl | rfl | rfl | rfl | rfl | rfl
                          · exact absurd ze (lv_neT h3 (by decide))
                          · rfl
                          · exact absurd ze (lv_neT h6 (by decide))
                          · exact absurd ze (lv_neT h9 (by decide))
                          · rfl
                          · rfl
                          · exact absurd ze (lv_neT h12 (by decide))
                          · rfl
                          · rfl
                          · rfl
                          · exact absurd ze (lv_neT h15 (by decide))
                          · exact absurd ze (lv_neT h18 (by decide))
                          · rfl
                          · exact absurd ze (lv_neT h21 (by decide))
                          · exact absurd ze (lv_neT h24 (by decide))
                          · rfl
                          · exact absurd ze (lv_neT h27 (by decide))
                          · rfl
                          · rfl
                          · exact absurd ze (lv_neT h30 (by decide))
                          · rfl
                          · rfl
                          · exact absurd ze (lv_neT h33 (by decide))
                        · skip
                          refine lx_aload_n hC dX8_doesNow_200 rfl 2 rfl ?_
                          refine lx_iload_n hC dX8_doesNow_201 rfl 1 rfl ?_
                          refine lx_callX hC hx (sat_X8_spreads (xl X) hl y1 s) (run_V (as := [.int y1]) (rest := []) hC hE ly8 rfl cw_X8_spreads ci_X8_spreads wd1863 cs_X8_spreads ce_X8_spreads cd_X8_spreads (by decide) (by decide) (Nat.le_of_ble_eq_true rfl) dX8_doesNow_202 rfl) (fun v36 s37 _ => ?_)
                          exact lx_iret hC rfl hr dX8_doesNow_205
set_option maxRecDepth 100000 in
set_option maxHeartbeats 2000000 in
theorem l_X8_doesAll_b12 {X : Cx} {V : Vx} {A : Nat → Prop} {adV : Nat → Nat} {c0 s0 : Nat} (hC : Cok X V A yX8_doesAll.cls cX8_doesAll 2) (hE : Env0 V adV A (xs X) (xs X).heap) (hl : (xl X).stackTraces = false) (hx : ∀ x ∈ (xc X).exceptionTable.toList, False) (hr : (xh X).sig.returnType = some .boolean) (s : Mem) (kf12 : (Int32 × Mem) → Res Int32) (hk12 : ∀ a, LX X V A 36 625 c0 s0 (FM X V A (fun x => some (.int x))) 12 [(0, .ref 8), (1, .int a.1)] [] a.2 (kf12 a)) (w1 : Int32) : LX X V A 36 625 c0 s0 (FM X V A (fun x => some (.int x))) 12 [(0, .ref 8), (1, .int w1)] [] s (m_X8_doesAll_b12 s kf12 w1 ) := by
  unfold m_X8_doesAll_b12
  refine lx_iload_n hC dX8_doesAll_12 rfl 1 rfl ?_
  refine lx_if_eq hC 55 dX8_doesAll_13 (by decide) ?_ ?_
  · skip
    refine lx_iconstv (v := 1) hC dX8_doesAll_55 rfl ?_
    exact lx_zret hC rfl hr rfl dX8_doesAll_56
  · skip
    refine lx_aload_n hC dX8_doesAll_16 rfl 0 rfl ?_
    refine lx_callX hC hx (sat_X8_readsCommand (xl X) hl s) (run_V (as := []) (rest := []) hC hE ly8 rfl cw_X8_readsCommand ci_X8_readsCommand wd2098 cs_X8_readsCommand ce_X8_readsCommand cd_X8_readsCommand (by decide) (by decide) (Nat.le_of_ble_eq_true rfl) dX8_doesAll_17 rfl) (fun v3 s4 _ => ?_)
    refine lx_pop_int hC dX8_doesAll_20 ?_
    refine lx_aload_n hC dX8_doesAll_21 rfl 0 rfl ?_
    refine lx_callP hC hx (sat_X8_notNow (xl X) hl s4) (run_V (as := []) (rest := []) hC hE ly8 rfl cw_X8_notNow ci_X8_notNow wd2150 cs_X8_notNow ce_X8_notNow cd_X8_notNow (by decide) (by decide) (Nat.le_of_ble_eq_true rfl) dX8_doesAll_22 rfl) (fun v5 _ => ?_)
    refine lx_if_eq hC 30 dX8_doesAll_25 (by decide) ?_ ?_
    · skip
      refine lx_aload_n hC dX8_doesAll_30 rfl 0 rfl ?_
      refine lx_callX hC hx (sat_X8_doesNow (xl X) hl s4) (run_V (as := []) (rest := []) hC hE ly8 rfl cw_X8_doesNow ci_X8_doesNow wd2154 cs_X8_doesNow ce_X8_doesNow cd_X8_doesNow (by decide) (by decide) (Nat.le_of_ble_eq_true rfl) dX8_doesAll_31 rfl) (fun v6 s7 _ => ?_)
      refine lx_pop_int hC dX8_doesAll_34 ?_
      refine lx_aload_n hC dX8_doesAll_35 rfl 0 rfl ?_
      refine lx_dup_ref hC dX8_doesAll_36 ?_
      refine lx_getI hC ly8 rfl 17 (by decide) rfl inX8 wd1622 dX8_doesAll_37 ?_
      refine lx_iconstv (v := 1) hC dX8_doesAll_40 rfl ?_
      refine lx_iadd hC dX8_doesAll_41 ?_
      refine lx_putI hC ly8 rfl 17 (by decide) rfl tyX8 tyX8_ok nmX8 rfl rfl rfl inX8 wd1622 dX8_doesAll_42 (fun s8 => ?_)
      refine lx_aload_n hC dX8_doesAll_45 rfl 0 rfl ?_
      refine lx_bipush (v := 59) hC dX8_doesAll_46 (by decide) ?_
      refine lx_callX hC hx (sat_X8_reads (xl X) hl 59 s8) (run_V (as := [.int 59]) (rest := []) hC hE ly8 rfl cw_X8_reads ci_X8_reads wd2106 cs_X8_reads ce_X8_reads cd_X8_reads (by decide) (by decide) (Nat.le_of_ble_eq_true rfl) dX8_doesAll_48 rfl) (fun v9 s10 _ => ?_)
      refine lx_istore_n hC dX8_doesAll_51 rfl (by decide) ?_
      refine lx_goto hC 12 dX8_doesAll_52 (by decide) ?_
      exact lx_sub [1, 0] rfl (hk12 (v9, s10))
    · skip
      refine lx_iconstv (v := 0) hC dX8_doesAll_28 rfl ?_
      exact lx_zret hC rfl hr rfl dX8_doesAll_29
set_option maxRecDepth 100000 in
set_option maxHeartbeats 2000000 in
theorem n_X8_doesAll_b12 (s : Mem) (kf12 : (Int32 × Mem) → Res Int32) (hm12 : ∀ a, Mn a.2 (kf12 a)) (w1 : Int32) : Mn s (m_X8_doesAll_b12 s kf12 w1 ) := by
  unfold m_X8_doesAll_b12
  refine mn_if ?_ ?_
  · skip
    exact mn_some
  · skip
    refine mn_bind (n_X8_readsCommand s) (fun v3 s4 => ?_)
    refine mn_bindP (fun v5 => ?_)
    refine mn_if ?_ ?_
    · skip
      refine mn_bind (n_X8_doesNow s4) (fun v6 s7 => ?_)
      refine mn_put (fun s8 => ?_)
      refine mn_bind (n_X8_reads 59 s8) (fun v9 s10 => ?_)
      exact hm12 (v9, s10)
    · skip
      exact mn_some
set_option maxRecDepth 100000 in
set_option maxHeartbeats 2000000 in
theorem n_X8_doesAll (s : Mem) : Mn s (m_X8_doesAll s) := by
  unfold m_X8_doesAll
  refine mn_put (fun s1 => ?_)
  refine mn_put (fun s2 => ?_)
  exact mn_lp (sg := fun a => a.2) (fun kf hq a => n_X8_doesAll_b12 a.2 kf hq a.1) FUEL (1, s2)
set_option maxRecDepth 100000 in
set_option maxHeartbeats 2000000 in
theorem sat_X8_doesAll (l : Launch) (hl : l.stackTraces = false) (s : Mem) : Sat l yX8_doesAll (.code yX8_doesAll cX8_doesAll 2 (some .boolean)) 36 625 (fun x => some (.int x)) [.ref 8] s (m_X8_doesAll s) := by
  refine sat_of hl (by decide) (Nat.le_of_ble_eq_true rfl) (fun X V A adV hxl hC hE hx hr => ?_) (n_X8_doesAll s)
  subst hxl
  show LX X V A 36 625 (nC s) (nS s) _ 0 [(0, .ref 8)] [] s _
  unfold m_X8_doesAll
  refine lx_aload_n hC dX8_doesAll_0 rfl 0 rfl ?_
  refine lx_iconstv (v := 0) hC dX8_doesAll_1 rfl ?_
  refine lx_putI hC ly8 rfl 17 (by decide) rfl tyX8 tyX8_ok nmX8 rfl rfl rfl inX8 wd1622 dX8_doesAll_2 (fun s1 => ?_)
  refine lx_aload_n hC dX8_doesAll_5 rfl 0 rfl ?_
  refine lx_iconstv (v := 0) hC dX8_doesAll_6 rfl ?_
  refine lx_putI hC ly8 rfl 12 (by decide) rfl tyX8 tyX8_ok nmX8 rfl rfl rfl inX8 wd1617 dX8_doesAll_7 (fun s2 => ?_)
  refine lx_iconstv (v := 1) hC dX8_doesAll_10 rfl ?_
  refine lx_istore_n hC dX8_doesAll_11 rfl (by decide) ?_
  refine lx_sub [1, 0] rfl ?_
  exact lx_lp (lv := fun a => [(0, .ref 8), (1, .int a.1)]) (st := fun _ => []) (sg := fun a => a.2) (fun kf hq a => l_X8_doesAll_b12 hC hE hl hx hr a.2 kf hq a.1) FUEL (1, s2)
