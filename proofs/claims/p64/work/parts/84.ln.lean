set_option maxRecDepth 100000 in
set_option maxHeartbeats 4000000 in
theorem n_L_acts (p1 : Int32) (s : Mem) : Mn s (m_L_acts p1 s) := by
  unfold m_L_acts
  refine mn_bindP (fun v1 => ?_)
  refine mn_bindP (fun v2 => ?_)
  refine mn_bindP (fun v3 => ?_)
  refine mn_if ?_ ?_
  · skip
    refine mn_bind (n_L_addRow (1 + (v1 - v1 / 12 * 12)) s) (fun v6 s5 => ?_)
    exact mn_some
  · skip
    refine mn_if ?_ ?_
    · skip
      refine mn_if ?_ mn_none
      refine mn_bind (n_L_addPhantoms (v1 - v1 / v2 * v2) (1 + ((v1 / 8) - (v1 / 8) / 3 * 3)) s) (fun v10 s9 => ?_)
      exact mn_some
    · skip
      refine mn_if ?_ ?_
      · skip
        refine mn_if ?_ mn_none
        refine mn_bind (n_L_addPhantoms (v1 - v1 / v2 * v2) (1 + ((v1 / 8) - (v1 / 8) / 3 * 3)) s) (fun v14 s13 => ?_)
        exact mn_some
      · skip
        refine mn_if ?_ ?_
        · skip
          refine mn_if ?_ mn_none
          refine mn_bind (n_L_removePhantoms (v1 - v1 / v2 * v2) (1 + ((v1 / 8) - (v1 / 8) / 3 * 3)) s) (fun v18 s17 => ?_)
          exact mn_some
        · skip
          refine mn_if ?_ ?_
          · skip
            refine mn_if ?_ mn_none
            refine mn_bind (n_L_add (v1 - v1 / v2 * v2) (1 + ((v1 / 8) - (v1 / 8) / 999 * 999)) s) (fun v22 s21 => ?_)
            exact mn_some
          · skip
            refine mn_if ?_ ?_
            · skip
              refine mn_if ?_ mn_none
              refine mn_bind (n_L_add (v1 - v1 / v2 * v2) (1 + ((v1 / 8) - (v1 / 8) / 999 * 999)) s) (fun v26 s25 => ?_)
              exact mn_some
            · skip
              refine mn_if ?_ ?_
              · skip
                refine mn_if ?_ mn_none
                refine mn_bind (n_L_add (v1 - v1 / v2 * v2) (1 + ((v1 / 8) - (v1 / 8) / 999 * 999)) s) (fun v30 s29 => ?_)
                exact mn_some
              · skip
                refine mn_if ?_ ?_
                · skip
                  refine mn_if ?_ mn_none
                  refine mn_bind (n_L_add (v1 - v1 / v2 * v2) (1 + ((v1 / 8) - (v1 / 8) / 999 * 999)) s) (fun v34 s33 => ?_)
                  exact mn_some
                · skip
                  refine mn_if ?_ ?_
                  · skip
                    refine mn_if ?_ mn_none
                    refine mn_bind (n_L_add (v1 - v1 / v2 * v2) (1 + ((v1 / 8) - (v1 / 8) / 999 * 999)) s) (fun v38 s37 => ?_)
                    exact mn_some
                  · skip
                    refine mn_if ?_ ?_
                    · skip
                      refine mn_bind (n_L_anId (v1 / 8) s) (fun v40 s41 => ?_)
                      refine mn_if ?_ mn_none
                      refine mn_bind (n_L_move v40 (v1 - v1 / v2 * v2) s41) (fun v44 s43 => ?_)
                      exact mn_some
                    · skip
                      refine mn_if ?_ ?_
                      · skip
                        refine mn_bind (n_L_anId (v1 / 8) s) (fun v46 s47 => ?_)
                        refine mn_if ?_ mn_none
                        refine mn_bind (n_L_move v46 (v1 - v1 / v2 * v2) s47) (fun v50 s49 => ?_)
                        exact mn_some
                      · skip
                        refine mn_if ?_ ?_
                        · skip
                          refine mn_bind (n_L_anId v1 s) (fun v52 s53 => ?_)
                          refine mn_bind (n_L_remove v52 s53) (fun v55 s54 => ?_)
                          exact mn_some
                        · skip
                          refine mn_if ?_ ?_
                          · skip
                            refine mn_bind (n_L_anId v1 s) (fun v57 s58 => ?_)
                            refine mn_bind (n_L_anId (v1 / 24) s58) (fun v59 s60 => ?_)
                            refine mn_bind (n_L_setHeir v57 v59 s60) (fun v62 s61 => ?_)
                            exact mn_some
                          · skip
                            refine mn_if ?_ ?_
                            · skip
                              refine mn_bind (n_L_anId v1 s) (fun v64 s65 => ?_)
                              refine mn_bind (n_L_anId (v1 / 24) s65) (fun v66 s67 => ?_)
                              refine mn_bind (n_L_setHeir v64 v66 s67) (fun v69 s68 => ?_)
                              exact mn_some
                            · skip
                              refine mn_if ?_ ?_
                              · skip
                                refine mn_bind (n_L_anId v1 s) (fun v71 s72 => ?_)
                                refine mn_bind (n_L_anId (v1 / 24) s72) (fun v73 s74 => ?_)
                                refine mn_bind (n_L_setHeir v71 v73 s74) (fun v76 s75 => ?_)
                                exact mn_some
                              · skip
                                refine mn_if ?_ ?_
                                · skip
                                  refine mn_bind (n_L_anId v1 s) (fun v78 s79 => ?_)
                                  refine mn_bind (n_L_clearHeir v78 s79) (fun v81 s80 => ?_)
                                  exact mn_some
                                · skip
                                  refine mn_if ?_ ?_
                                  · skip
                                    refine mn_if ?_ ?_
                                    · skip
                                      refine mn_if ?_ mn_none
                                      refine mn_bind (n_L_unlock ((v1 / 2) - (v1 / 2) / v2 * v2) s) (fun v85 s84 => ?_)
                                      exact mn_some
                                    · skip
                                      refine mn_if ?_ mn_none
                                      refine mn_bind (n_L_lock ((v1 / 2) - (v1 / 2) / v2 * v2) s) (fun v88 s87 => ?_)
                                      exact mn_some
                                  · skip
                                    refine mn_if ?_ ?_
                                    · skip
                                      refine mn_if ?_ mn_none
                                      refine mn_bind (n_L_nameRow (((97 + (v1 - v1 / 8 * 8)).toUInt32 % 65536).toInt32) ((v1 / 8) - (v1 / 8) / v2 * v2) s) (fun v92 s91 => ?_)
                                      exact mn_some
                                    · skip
                                      refine mn_if ?_ ?_
                                      · skip
                                        refine mn_if ?_ mn_none
                                        refine mn_bind (n_L_spread (v1 - v1 / v2 * v2) s) (fun v96 s95 => ?_)
                                        exact mn_some
                                      · skip
                                        refine mn_if ?_ mn_none
                                        refine mn_bind (n_L_runs (3046 + (v1 - v1 / 8 * 8).toNatClampNeg) s) (fun v98 s99 => ?_)
                                        exact mn_some
set_option maxRecDepth 100000 in
set_option maxHeartbeats 4000000 in
theorem sat_L_acts (l : Launch) (hl : l.stackTraces = false) (p1 : Int32) (s : Mem) : Sat l yL_acts (.code yL_acts cL_acts 4 (some .long)) 39 704 (fun x => some (.long x)) [.ref 0, .int p1] s (m_L_acts p1 s) := by
  refine sat_of hl (by decide) (Nat.le_of_ble_eq_true rfl) (fun X V A adV hxl hC hE hx hr => ?_) (n_L_acts p1 s)
  subst hxl
  show LX X V A 39 704 (nC s) (nS s) _ 0 [(0, .ref 0), (1, .int p1)] [] s _
  unfold m_L_acts
  refine lx_iload_n hC dL_acts_0 rfl 1 rfl ?_
  refine lx_bipush (v := 8) hC dL_acts_1 (by decide) ?_
  refine lx_ishr hC dL_acts_3 ?_
  refine lx_ldcw (v := 100000) hC wd1051 dL_acts_4 ?_
  refine lx_callP hC hx (sat_L_chosen (xl X) hl (p1 >>> (8 &&& 31)) 100000 s) (run_S (as := [.int (p1 >>> (8 &&& 31)), .int 100000]) (rest := []) hC hE cw_L_chosen ci_L_chosen wd642 cs_L_chosen cd_L_chosen (by decide) (by decide) (Nat.le_of_ble_eq_true rfl) dL_acts_7 rfl) (fun v1 _ => ?_)
  refine lx_istore_n hC dL_acts_10 rfl (by decide) ?_
  refine lx_aload_n hC dL_acts_11 rfl 1 rfl ?_
  refine lx_callP hC hx (sat_X7_rowCount (xl X) hl s) (run_V (as := []) (rest := []) hC hE ly0 rfl cw_X7_rowCount ci_X7_rowCount wd670 cs_X7_rowCount ce_X7_rowCount cd_X7_rowCount (by decide) (by decide) (Nat.le_of_ble_eq_true rfl) dL_acts_12 rfl) (fun v2 _ => ?_)
  refine lx_istore_n hC dL_acts_15 rfl (by decide) ?_
  refine lx_iload_n hC dL_acts_16 rfl 3 rfl ?_
  refine lx_bipush (v := 24) hC dL_acts_17 (by decide) ?_
  refine lx_callP hC hx (sat_L_chosen (xl X) hl p1 24 s) (run_S (as := [.int p1, .int 24]) (rest := []) hC hE cw_L_chosen ci_L_chosen wd642 cs_L_chosen cd_L_chosen (by decide) (by decide) (Nat.le_of_ble_eq_true rfl) dL_acts_19 rfl) (fun v3 _ => ?_)
  refine lx_case (fun h4 => ?_) (fun h4 => ?_)
  · refine lx_tin hC 112 h4 dL_acts_22 (by decide) (by decide) rfl (by decide) ?_
    refine lx_aload_n hC dL_acts_112 rfl 2 rfl ?_
    refine lx_iconstv (v := 1) hC dL_acts_113 rfl ?_
    refine lx_iload_n hC dL_acts_114 rfl 1 rfl ?_
    refine lx_bipush (v := 12) hC dL_acts_115 (by decide) ?_
    refine lx_irem hC dL_acts_117 (by decide) ?_
    refine lx_iadd hC dL_acts_118 ?_
    refine lx_callWR (as := [.ref 0, .int (1 + (v1 - v1 / 12 * 12))]) (rest := []) hC hE (sat_L_addRow (xl X) hl (1 + (v1 - v1 / 12 * 12)) s) (nt_wJ) cw_L_addRow ciL wd302 cs_L_addRow cd_L_addRow (by decide) (Nat.le_of_ble_eq_true rfl) (Nat.le_of_ble_eq_true rfl) dL_acts_119 rfl (fun v6 s5 _ => ?_)
    exact lx_lret hC rfl hr dL_acts_122
  · skip
    refine lx_case (fun h7 => ?_) (fun h7 => ?_)
    · refine lx_tin hC 123 h7 dL_acts_22 (by decide) (by decide) rfl (by decide) ?_
      refine lx_aload_n hC dL_acts_123 rfl 2 rfl ?_
      refine lx_iload_n hC dL_acts_124 rfl 1 rfl ?_
      refine lx_iload_n hC dL_acts_125 rfl 0 rfl ?_
      refine lx_if fun h8 => lx_irem hC dL_acts_126 h8 ?_
      refine lx_iconstv (v := 1) hC dL_acts_127 rfl ?_
      refine lx_iload_n hC dL_acts_128 rfl 1 rfl ?_
      refine lx_bipush (v := 8) hC dL_acts_129 (by decide) ?_
      refine lx_idiv hC dL_acts_131 (by decide) ?_
      refine lx_iconstv (v := 3) hC dL_acts_132 rfl ?_
      refine lx_irem hC dL_acts_133 (by decide) ?_
      refine lx_iadd hC dL_acts_134 ?_
      refine lx_callWR (as := [.ref 0, .int (v1 - v1 / v2 * v2), .int (1 + ((v1 / 8) - (v1 / 8) / 3 * 3))]) (rest := []) hC hE (sat_L_addPhantoms (xl X) hl (v1 - v1 / v2 * v2) (1 + ((v1 / 8) - (v1 / 8) / 3 * 3)) s) (nt_wJ) cw_L_addPhantoms ciL wd579 cs_L_addPhantoms cd_L_addPhantoms (by decide) (Nat.le_of_ble_eq_true rfl) (Nat.le_of_ble_eq_true rfl) dL_acts_135 rfl (fun v10 s9 _ => ?_)
      exact lx_lret hC rfl hr dL_acts_138
    · skip
      refine lx_case (fun h11 => ?_) (fun h11 => ?_)
      · refine lx_tin hC 123 h11 dL_acts_22 (by decide) (by decide) rfl (by decide) ?_
        refine lx_aload_n hC dL_acts_123 rfl 2 rfl ?_
        refine lx_iload_n hC dL_acts_124 rfl 1 rfl ?_
        refine lx_iload_n hC dL_acts_125 rfl 0 rfl ?_
        refine lx_if fun h12 => lx_irem hC dL_acts_126 h12 ?_
        refine lx_iconstv (v := 1) hC dL_acts_127 rfl ?_
        refine lx_iload_n hC dL_acts_128 rfl 1 rfl ?_
        refine lx_bipush (v := 8) hC dL_acts_129 (by decide) ?_
        refine lx_idiv hC dL_acts_131 (by decide) ?_
        refine lx_iconstv (v := 3) hC dL_acts_132 rfl ?_
        refine lx_irem hC dL_acts_133 (by decide) ?_
        refine lx_iadd hC dL_acts_134 ?_
        refine lx_callWR (as := [.ref 0, .int (v1 - v1 / v2 * v2), .int (1 + ((v1 / 8) - (v1 / 8) / 3 * 3))]) (rest := []) hC hE (sat_L_addPhantoms (xl X) hl (v1 - v1 / v2 * v2) (1 + ((v1 / 8) - (v1 / 8) / 3 * 3)) s) (nt_wJ) cw_L_addPhantoms ciL wd579 cs_L_addPhantoms cd_L_addPhantoms (by decide) (Nat.le_of_ble_eq_true rfl) (Nat.le_of_ble_eq_true rfl) dL_acts_135 rfl (fun v14 s13 _ => ?_)
        exact lx_lret hC rfl hr dL_acts_138
      · skip
        refine lx_case (fun h15 => ?_) (fun h15 => ?_)
        · refine lx_tin hC 139 h15 dL_acts_22 (by decide) (by decide) rfl (by decide) ?_
          refine lx_aload_n hC dL_acts_139 rfl 2 rfl ?_
          refine lx_iload_n hC dL_acts_140 rfl 1 rfl ?_
          refine lx_iload_n hC dL_acts_141 rfl 0 rfl ?_
          refine lx_if fun h16 => lx_irem hC dL_acts_142 h16 ?_
          refine lx_iconstv (v := 1) hC dL_acts_143 rfl ?_
          refine lx_iload_n hC dL_acts_144 rfl 1 rfl ?_
          refine lx_bipush (v := 8) hC dL_acts_145 (by decide) ?_
          refine lx_idiv hC dL_acts_147 (by decide) ?_
          refine lx_iconstv (v := 3) hC dL_acts_148 rfl ?_
          refine lx_irem hC dL_acts_149 (by decide) ?_
          refine lx_iadd hC dL_acts_150 ?_
          refine lx_callWR (as := [.ref 0, .int (v1 - v1 / v2 * v2), .int (1 + ((v1 / 8) - (v1 / 8) / 3 * 3))]) (rest := []) hC hE (sat_L_removePhantoms (xl X) hl (v1 - v1 / v2 * v2) (1 + ((v1 / 8) - (v1 / 8) / 3 * 3)) s) (nt_wJ) cw_L_removePhantoms ciL wd1052 cs_L_removePhantoms cd_L_removePhantoms (by decide) (Nat.le_of_ble_eq_true rfl) (Nat.le_of_ble_eq_true rfl) dL_acts_151 rfl (fun v18 s17 _ => ?_)
          exact lx_lret hC rfl hr dL_acts_154
        · skip
          refine lx_case (fun h19 => ?_) (fun h19 => ?_)
          · refine lx_tin hC 155 h19 dL_acts_22 (by decide) (by decide) rfl (by decide) ?_
            refine lx_aload_n hC dL_acts_155 rfl 2 rfl ?_
            refine lx_iload_n hC dL_acts_156 rfl 1 rfl ?_
            refine lx_iload_n hC dL_acts_157 rfl 0 rfl ?_
            refine lx_if fun h20 => lx_irem hC dL_acts_158 h20 ?_
            refine lx_iconstv (v := 1) hC dL_acts_159 rfl ?_
            refine lx_iload_n hC dL_acts_160 rfl 1 rfl ?_
            refine lx_bipush (v := 8) hC dL_acts_161 (by decide) ?_
            refine lx_idiv hC dL_acts_163 (by decide) ?_
            refine lx_sipush (v := 999) hC dL_acts_164 (by decide) ?_
            refine lx_irem hC dL_acts_167 (by decide) ?_
            refine lx_iadd hC dL_acts_168 ?_
            refine lx_callWR (as := [.ref 0, .int (v1 - v1 / v2 * v2), .int (1 + ((v1 / 8) - (v1 / 8) / 999 * 999))]) (rest := []) hC hE (sat_L_add (xl X) hl (v1 - v1 / v2 * v2) (1 + ((v1 / 8) - (v1 / 8) / 999 * 999)) s) (nt_wJ) cw_L_add ciL wd608 cs_L_add cd_L_add (by decide) (Nat.le_of_ble_eq_true rfl) (Nat.le_of_ble_eq_true rfl) dL_acts_169 rfl (fun v22 s21 _ => ?_)
            exact lx_lret hC rfl hr dL_acts_172
          · skip
            refine lx_case (fun h23 => ?_) (fun h23 => ?_)
            · refine lx_tin hC 155 h23 dL_acts_22 (by decide) (by decide) rfl (by decide) ?_
              refine lx_aload_n hC dL_acts_155 rfl 2 rfl ?_
              refine lx_iload_n hC dL_acts_156 rfl 1 rfl ?_
              refine lx_iload_n hC dL_acts_157 rfl 0 rfl ?_
              refine lx_if fun h24 => lx_irem hC dL_acts_158 h24 ?_
              refine lx_iconstv (v := 1) hC dL_acts_159 rfl ?_
              refine lx_iload_n hC dL_acts_160 rfl 1 rfl ?_
              refine lx_bipush (v := 8) hC dL_acts_161 (by decide) ?_
              refine lx_idiv hC dL_acts_163 (by decide) ?_
              refine lx_sipush (v := 999) hC dL_acts_164 (by decide) ?_
              refine lx_irem hC dL_acts_167 (by decide) ?_
              refine lx_iadd hC dL_acts_168 ?_
              refine lx_callWR (as := [.ref 0, .int (v1 - v1 / v2 * v2), .int (1 + ((v1 / 8) - (v1 / 8) / 999 * 999))]) (rest := []) hC hE (sat_L_add (xl X) hl (v1 - v1 / v2 * v2) (1 + ((v1 / 8) - (v1 / 8) / 999 * 999)) s) (nt_wJ) cw_L_add ciL wd608 cs_L_add cd_L_add (by decide) (Nat.le_of_ble_eq_true rfl) (Nat.le_of_ble_eq_true rfl) dL_acts_169 rfl (fun v26 s25 _ => ?_)
              exact lx_lret hC rfl hr dL_acts_172
            · skip
              refine lx_case (fun h27 => ?_) (fun h27 => ?_)
              · refine lx_tin hC 155 h27 dL_acts_22 (by decide) (by decide) rfl (by decide) ?_
                refine lx_aload_n hC dL_acts_155 rfl 2 rfl ?_
                refine lx_iload_n hC dL_acts_156 rfl 1 rfl ?_
                refine lx_iload_n hC dL_acts_157 rfl 0 rfl ?_
                refine lx_if fun h28 => lx_irem hC dL_acts_158 h28 ?_
                refine lx_iconstv (v := 1) hC dL_acts_159 rfl ?_
                refine lx_iload_n hC dL_acts_160 rfl 1 rfl ?_
                refine lx_bipush (v := 8) hC dL_acts_161 (by decide) ?_
                refine lx_idiv hC dL_acts_163 (by decide) ?_
                refine lx_sipush (v := 999) hC dL_acts_164 (by decide) ?_
                refine lx_irem hC dL_acts_167 (by decide) ?_
                refine lx_iadd hC dL_acts_168 ?_
                refine lx_callWR (as := [.ref 0, .int (v1 - v1 / v2 * v2), .int (1 + ((v1 / 8) - (v1 / 8) / 999 * 999))]) (rest := []) hC hE (sat_L_add (xl X) hl (v1 - v1 / v2 * v2) (1 + ((v1 / 8) - (v1 / 8) / 999 * 999)) s) (nt_wJ) cw_L_add ciL wd608 cs_L_add cd_L_add (by decide) (Nat.le_of_ble_eq_true rfl) (Nat.le_of_ble_eq_true rfl) dL_acts_169 rfl (fun v30 s29 _ => ?_)
                exact lx_lret hC rfl hr dL_acts_172
              · skip
                refine lx_case (fun h31 => ?_) (fun h31 => ?_)
                · refine lx_tin hC 155 h31 dL_acts_22 (by decide) (by decide) rfl (by decide) ?_
                  refine lx_aload_n hC dL_acts_155 rfl 2 rfl ?_
                  refine lx_iload_n hC dL_acts_156 rfl 1 rfl ?_
                  refine lx_iload_n hC dL_acts_157 rfl 0 rfl ?_
                  refine lx_if fun h32 => lx_irem hC dL_acts_158 h32 ?_
                  refine lx_iconstv (v := 1) hC dL_acts_159 rfl ?_
                  refine lx_iload_n hC dL_acts_160 rfl 1 rfl ?_
                  refine lx_bipush (v := 8) hC dL_acts_161 (by decide) ?_
                  refine lx_idiv hC dL_acts_163 (by decide) ?_
                  refine lx_sipush (v := 999) hC dL_acts_164 (by decide) ?_
                  refine lx_irem hC dL_acts_167 (by decide) ?_
                  refine lx_iadd hC dL_acts_168 ?_
                  refine lx_callWR (as := [.ref 0, .int (v1 - v1 / v2 * v2), .int (1 + ((v1 / 8) - (v1 / 8) / 999 * 999))]) (rest := []) hC hE (sat_L_add (xl X) hl (v1 - v1 / v2 * v2) (1 + ((v1 / 8) - (v1 / 8) / 999 * 999)) s) (nt_wJ) cw_L_add ciL wd608 cs_L_add cd_L_add (by decide) (Nat.le_of_ble_eq_true rfl) (Nat.le_of_ble_eq_true rfl) dL_acts_169 rfl (fun v34 s33 _ => ?_)
                  exact lx_lret hC rfl hr dL_acts_172
                · skip
                  refine lx_case (fun h35 => ?_) (fun h35 => ?_)
                  · refine lx_tin hC 155 h35 dL_acts_22 (by decide) (by decide) rfl (by decide) ?_
                    refine lx_aload_n hC dL_acts_155 rfl 2 rfl ?_
                    refine lx_iload_n hC dL_acts_156 rfl 1 rfl ?_
                    refine lx_iload_n hC dL_acts_157 rfl 0 rfl ?_
                    refine lx_if fun h36 => lx_irem hC dL_acts_158 h36 ?_
                    refine lx_iconstv (v := 1) hC dL_acts_159 rfl ?_
                    refine lx_iload_n hC dL_acts_160 rfl 1 rfl ?_
                    refine lx_bipush (v := 8) hC dL_acts_161 (by decide) ?_
                    refine lx_idiv hC dL_acts_163 (by decide) ?_
                    refine lx_sipush (v := 999) hC dL_acts_164 (by decide) ?_
                    refine lx_irem hC dL_acts_167 (by decide) ?_
                    refine lx_iadd hC dL_acts_168 ?_
                    refine lx_callWR (as := [.ref 0, .int (v1 - v1 / v2 * v2), .int (1 + ((v1 / 8) - (v1 / 8) / 999 * 999))]) (rest := []) hC hE (sat_L_add (xl X) hl (v1 - v1 / v2 * v2) (1 + ((v1 / 8) - (v1 / 8) / 999 * 999)) s) (nt_wJ) cw_L_add ciL wd608 cs_L_add cd_L_add (by decide) (Nat.le_of_ble_eq_true rfl) (Nat.le_of_ble_eq_true rfl) dL_acts_169 rfl (fun v38 s37 _ => ?_)
                    exact lx_lret hC rfl hr dL_acts_172
                  · skip
                    refine lx_case (fun h39 => ?_) (fun h39 => ?_)
                    · refine lx_tin hC 173 h39 dL_acts_22 (by decide) (by decide) rfl (by decide) ?_
                      refine lx_aload_n hC dL_acts_173 rfl 2 rfl ?_
                      refine lx_aload_n hC dL_acts_174 rfl 2 rfl ?_
                      refine lx_iload_n hC dL_acts_175 rfl 1 rfl ?_
                      refine lx_bipush (v := 8) hC dL_acts_176 (by decide) ?_
                      refine lx_idiv hC dL_acts_178 (by decide) ?_
                      refine lx_callX hC hx (sat_L_anId (xl X) hl (v1 / 8) s) (run_S (as := [.ref 0, .int (v1 / 8)]) (rest := [.ref 0]) hC hE cw_L_anId ci_L_anId wd1059 cs_L_anId cd_L_anId (by decide) (by decide) (Nat.le_of_ble_eq_true rfl) dL_acts_179 rfl) (fun v40 s41 _ => ?_)
                      refine lx_iload_n hC dL_acts_182 rfl 1 rfl ?_
                      refine lx_iload_n hC dL_acts_183 rfl 0 rfl ?_
                      refine lx_if fun h42 => lx_irem hC dL_acts_184 h42 ?_
                      refine lx_callWR (as := [.ref 0, .int v40, .int (v1 - v1 / v2 * v2)]) (rest := []) hC hE (sat_L_move (xl X) hl v40 (v1 - v1 / v2 * v2) s41) (nt_wJ) cw_L_move ciL wd1062 cs_L_move cd_L_move (by decide) (Nat.le_of_ble_eq_true rfl) (Nat.le_of_ble_eq_true rfl) dL_acts_185 rfl (fun v44 s43 _ => ?_)
                      exact lx_lret hC rfl hr dL_acts_188
                    · skip
                      refine lx_case (fun h45 => ?_) (fun h45 => ?_)
                      · refine lx_tin hC 173 h45 dL_acts_22 (by decide) (by decide) rfl (by decide) ?_
                        refine lx_aload_n hC dL_acts_173 rfl 2 rfl ?_
                        refine lx_aload_n hC dL_acts_174 rfl 2 rfl ?_
                        refine lx_iload_n hC dL_acts_175 rfl 1 rfl ?_
                        refine lx_bipush (v := 8) hC dL_acts_176 (by decide) ?_
                        refine lx_idiv hC dL_acts_178 (by decide) ?_
                        refine lx_callX hC hx (sat_L_anId (xl X) hl (v1 / 8) s) (run_S (as := [.ref 0, .int (v1 / 8)]) (rest := [.ref 0]) hC hE cw_L_anId ci_L_anId wd1059 cs_L_anId cd_L_anId (by decide) (by decide) (Nat.le_of_ble_eq_true rfl) dL_acts_179 rfl) (fun v46 s47 _ => ?_)
                        refine lx_iload_n hC dL_acts_182 rfl 1 rfl ?_
                        refine lx_iload_n hC dL_acts_183 rfl 0 rfl ?_
                        refine lx_if fun h48 => lx_irem hC dL_acts_184 h48 ?_
                        refine lx_callWR (as := [.ref 0, .int v46, .int (v1 - v1 / v2 * v2)]) (rest := []) hC hE (sat_L_move (xl X) hl v46 (v1 - v1 / v2 * v2) s47) (nt_wJ) cw_L_move ciL wd1062 cs_L_move cd_L_move (by decide) (Nat.le_of_ble_eq_true rfl) (Nat.le_of_ble_eq_true rfl) dL_acts_185 rfl (fun v50 s49 _ => ?_)
                        exact lx_lret hC rfl hr dL_acts_188
                      · skip
                        refine lx_case (fun h51 => ?_) (fun h51 => ?_)
                        · refine lx_tin hC 189 h51 dL_acts_22 (by decide) (by decide) rfl (by decide) ?_
                          refine lx_aload_n hC dL_acts_189 rfl 2 rfl ?_
                          refine lx_aload_n hC dL_acts_190 rfl 2 rfl ?_
                          refine lx_iload_n hC dL_acts_191 rfl 1 rfl ?_
                          refine lx_callX hC hx (sat_L_anId (xl X) hl v1 s) (run_S (as := [.ref 0, .int v1]) (rest := [.ref 0]) hC hE cw_L_anId ci_L_anId wd1059 cs_L_anId cd_L_anId (by decide) (by decide) (Nat.le_of_ble_eq_true rfl) dL_acts_192 rfl) (fun v52 s53 _ => ?_)
                          refine lx_callWR (as := [.ref 0, .int v52]) (rest := []) hC hE (sat_L_remove (xl X) hl v52 s53) (nt_wJ) cw_L_remove ciL wd1069 cs_L_remove cd_L_remove (by decide) (Nat.le_of_ble_eq_true rfl) (Nat.le_of_ble_eq_true rfl) dL_acts_195 rfl (fun v55 s54 _ => ?_)
                          exact lx_lret hC rfl hr dL_acts_198
                        · skip
                          refine lx_case (fun h56 => ?_) (fun h56 => ?_)
                          · refine lx_tin hC 199 h56 dL_acts_22 (by decide) (by decide) rfl (by decide) ?_
                            refine lx_aload_n hC dL_acts_199 rfl 2 rfl ?_
                            refine lx_aload_n hC dL_acts_200 rfl 2 rfl ?_
                            refine lx_iload_n hC dL_acts_201 rfl 1 rfl ?_
                            refine lx_callX hC hx (sat_L_anId (xl X) hl v1 s) (run_S (as := [.ref 0, .int v1]) (rest := [.ref 0]) hC hE cw_L_anId ci_L_anId wd1059 cs_L_anId cd_L_anId (by decide) (by decide) (Nat.le_of_ble_eq_true rfl) dL_acts_202 rfl) (fun v57 s58 _ => ?_)
                            refine lx_aload_n hC dL_acts_205 rfl 2 rfl ?_
                            refine lx_iload_n hC dL_acts_206 rfl 1 rfl ?_
                            refine lx_bipush (v := 24) hC dL_acts_207 (by decide) ?_
                            refine lx_idiv hC dL_acts_209 (by decide) ?_
                            refine lx_callX hC hx (sat_L_anId (xl X) hl (v1 / 24) s58) (run_S (as := [.ref 0, .int (v1 / 24)]) (rest := [.int v57, .ref 0]) hC hE cw_L_anId ci_L_anId wd1059 cs_L_anId cd_L_anId (by decide) (by decide) (Nat.le_of_ble_eq_true rfl) dL_acts_210 rfl) (fun v59 s60 _ => ?_)
                            refine lx_callWR (as := [.ref 0, .int v57, .int v59]) (rest := []) hC hE (sat_L_setHeir (xl X) hl v57 v59 s60) (nt_wJ) cw_L_setHeir ciL wd1076 cs_L_setHeir cd_L_setHeir (by decide) (Nat.le_of_ble_eq_true rfl) (Nat.le_of_ble_eq_true rfl) dL_acts_213 rfl (fun v62 s61 _ => ?_)
                            exact lx_lret hC rfl hr dL_acts_216
                          · skip
                            refine lx_case (fun h63 => ?_) (fun h63 => ?_)
                            · refine lx_tin hC 199 h63 dL_acts_22 (by decide) (by decide) rfl (by decide) ?_
                              refine lx_aload_n hC dL_acts_199 rfl 2 rfl ?_
                              refine lx_aload_n hC dL_acts_200 rfl 2 rfl ?_
                              refine lx_iload_n hC dL_acts_201 rfl 1 rfl ?_
                              refine lx_callX hC hx (sat_L_anId (xl X) hl v1 s) (run_S (as := [.ref 0, .int v1]) (rest := [.ref 0]) hC hE cw_L_anId ci_L_anId wd1059 cs_L_anId cd_L_anId (by decide) (by decide) (Nat.le_of_ble_eq_true rfl) dL_acts_202 rfl) (fun v64 s65 _ => ?_)
                              refine lx_aload_n hC dL_acts_205 rfl 2 rfl ?_
                              refine lx_iload_n hC dL_acts_206 rfl 1 rfl ?_
                              refine lx_bipush (v := 24) hC dL_acts_207 (by decide) ?_
                              refine lx_idiv hC dL_acts_209 (by decide) ?_
                              refine lx_callX hC hx (sat_L_anId (xl X) hl (v1 / 24) s65) (run_S (as := [.ref 0, .int (v1 / 24)]) (rest := [.int v64, .ref 0]) hC hE cw_L_anId ci_L_anId wd1059 cs_L_anId cd_L_anId (by decide) (by decide) (Nat.le_of_ble_eq_true rfl) dL_acts_210 rfl) (fun v66 s67 _ => ?_)
                              refine lx_callWR (as := [.ref 0, .int v64, .int v66]) (rest := []) hC hE (sat_L_setHeir (xl X) hl v64 v66 s67) (nt_wJ) cw_L_setHeir ciL wd1076 cs_L_setHeir cd_L_setHeir (by decide) (Nat.le_of_ble_eq_true rfl) (Nat.le_of_ble_eq_true rfl) dL_acts_213 rfl (fun v69 s68 _ => ?_)
                              exact lx_lret hC rfl hr dL_acts_216
                            · skip
                              refine lx_case (fun h70 => ?_) (fun h70 => ?_)
                              · refine lx_tin hC 199 h70 dL_acts_22 (by decide) (by decide) rfl (by decide) ?_
                                refine lx_aload_n hC dL_acts_199 rfl 2 rfl ?_
                                refine lx_aload_n hC dL_acts_200 rfl 2 rfl ?_
                                refine lx_iload_n hC dL_acts_201 rfl 1 rfl ?_
                                refine lx_callX hC hx (sat_L_anId (xl X) hl v1 s) (run_S (as := [.ref 0, .int v1]) (rest := [.ref 0]) hC hE cw_L_anId ci_L_anId wd1059 cs_L_anId cd_L_anId (by decide) (by decide) (Nat.le_of_ble_eq_true rfl) dL_acts_202 rfl) (fun v71 s72 _ => ?_)
                                refine lx_aload_n hC dL_acts_205 rfl 2 rfl ?_
                                refine lx_iload_n hC dL_acts_206 rfl 1 rfl ?_
                                refine lx_bipush (v := 24) hC dL_acts_207 (by decide) ?_
                                refine lx_idiv hC dL_acts_209 (by decide) ?_
                                refine lx_callX hC hx (sat_L_anId (xl X) hl (v1 / 24) s72) (run_S (as := [.ref 0, .int (v1 / 24)]) (rest := [.int v71, .ref 0]) hC hE cw_L_anId ci_L_anId wd1059 cs_L_anId cd_L_anId (by decide) (by decide) (Nat.le_of_ble_eq_true rfl) dL_acts_210 rfl) (fun v73 s74 _ => ?_)
                                refine lx_callWR (as := [.ref 0, .int v71, .int v73]) (rest := []) hC hE (sat_L_setHeir (xl X) hl v71 v73 s74) (nt_wJ) cw_L_setHeir ciL wd1076 cs_L_setHeir cd_L_setHeir (by decide) (Nat.le_of_ble_eq_true rfl) (Nat.le_of_ble_eq_true rfl) dL_acts_213 rfl (fun v76 s75 _ => ?_)
                                exact lx_lret hC rfl hr dL_acts_216
                              · skip
                                refine lx_case (fun h77 => ?_) (fun h77 => ?_)
                                · refine lx_tin hC 217 h77 dL_acts_22 (by decide) (by decide) rfl (by decide) ?_
                                  refine lx_aload_n hC dL_acts_217 rfl 2 rfl ?_
                                  refine lx_aload_n hC dL_acts_218 rfl 2 rfl ?_
                                  refine lx_iload_n hC dL_acts_219 rfl 1 rfl ?_
                                  refine lx_callX hC hx (sat_L_anId (xl X) hl v1 s) (run_S (as := [.ref 0, .int v1]) (rest := [.ref 0]) hC hE cw_L_anId ci_L_anId wd1059 cs_L_anId cd_L_anId (by decide) (by decide) (Nat.le_of_ble_eq_true rfl) dL_acts_220 rfl) (fun v78 s79 _ => ?_)
                                  refine lx_callWR (as := [.ref 0, .int v78]) (rest := []) hC hE (sat_L_clearHeir (xl X) hl v78 s79) (nt_wJ) cw_L_clearHeir ciL wd1083 cs_L_clearHeir cd_L_clearHeir (by decide) (Nat.le_of_ble_eq_true rfl) (Nat.le_of_ble_eq_true rfl) dL_acts_223 rfl (fun v81 s80 _ => ?_)
                                  exact lx_lret hC rfl hr dL_acts_226
                                · skip
                                  refine lx_case (fun h82 => ?_) (fun h82 => ?_)
                                  · refine lx_tin hC 227 h82 dL_acts_22 (by decide) (by decide) rfl (by decide) ?_
                                    refine lx_iload_n hC dL_acts_227 rfl 1 rfl ?_
                                    refine lx_iconstv (v := 2) hC dL_acts_228 rfl ?_
                                    refine lx_irem hC dL_acts_229 (by decide) ?_
                                    refine lx_if_ne hC 245 dL_acts_230 (by decide) ?_ ?_
                                    · skip
                                      refine lx_aload_n hC dL_acts_245 rfl 2 rfl ?_
                                      refine lx_iload_n hC dL_acts_246 rfl 1 rfl ?_
                                      refine lx_iconstv (v := 2) hC dL_acts_247 rfl ?_
                                      refine lx_idiv hC dL_acts_248 (by decide) ?_
                                      refine lx_iload_n hC dL_acts_249 rfl 0 rfl ?_
                                      refine lx_if fun h83 => lx_irem hC dL_acts_250 h83 ?_
                                      refine lx_callWR (as := [.ref 0, .int ((v1 / 2) - (v1 / 2) / v2 * v2)]) (rest := []) hC hE (sat_L_unlock (xl X) hl ((v1 / 2) - (v1 / 2) / v2 * v2) s) (nt_wJ) cw_L_unlock ciL wd1097 cs_L_unlock cd_L_unlock (by decide) (Nat.le_of_ble_eq_true rfl) (Nat.le_of_ble_eq_true rfl) dL_acts_251 rfl (fun v85 s84 _ => ?_)
                                      exact lx_lret hC rfl hr dL_acts_254
                                    · skip
                                      refine lx_aload_n hC dL_acts_233 rfl 2 rfl ?_
                                      refine lx_iload_n hC dL_acts_234 rfl 1 rfl ?_
                                      refine lx_iconstv (v := 2) hC dL_acts_235 rfl ?_
                                      refine lx_idiv hC dL_acts_236 (by decide) ?_
                                      refine lx_iload_n hC dL_acts_237 rfl 0 rfl ?_
                                      refine lx_if fun h86 => lx_irem hC dL_acts_238 h86 ?_
                                      refine lx_callWR (as := [.ref 0, .int ((v1 / 2) - (v1 / 2) / v2 * v2)]) (rest := []) hC hE (sat_L_lock (xl X) hl ((v1 / 2) - (v1 / 2) / v2 * v2) s) (nt_wJ) cw_L_lock ciL wd1090 cs_L_lock cd_L_lock (by decide) (Nat.le_of_ble_eq_true rfl) (Nat.le_of_ble_eq_true rfl) dL_acts_239 rfl (fun v88 s87 _ => ?_)
                                      refine lx_goto hC 254 dL_acts_242 (by decide) ?_
                                      exact lx_lret hC rfl hr dL_acts_254
                                  · skip
                                    refine lx_case (fun h89 => ?_) (fun h89 => ?_)
                                    · refine lx_tin hC 255 h89 dL_acts_22 (by decide) (by decide) rfl (by decide) ?_
                                      refine lx_aload_n hC dL_acts_255 rfl 2 rfl ?_
                                      refine lx_bipush (v := 97) hC dL_acts_256 (by decide) ?_
                                      refine lx_iload_n hC dL_acts_258 rfl 1 rfl ?_
                                      refine lx_bipush (v := 8) hC dL_acts_259 (by decide) ?_
                                      refine lx_irem hC dL_acts_261 (by decide) ?_
                                      refine lx_iadd hC dL_acts_262 ?_
                                      refine lx_i2c hC dL_acts_263 ?_
                                      refine lx_iload_n hC dL_acts_264 rfl 1 rfl ?_
                                      refine lx_bipush (v := 8) hC dL_acts_265 (by decide) ?_
                                      refine lx_idiv hC dL_acts_267 (by decide) ?_
                                      refine lx_iload_n hC dL_acts_268 rfl 0 rfl ?_
                                      refine lx_if fun h90 => lx_irem hC dL_acts_269 h90 ?_
                                      refine lx_callWR (as := [.ref 0, .int (((97 + (v1 - v1 / 8 * 8)).toUInt32 % 65536).toInt32), .int ((v1 / 8) - (v1 / 8) / v2 * v2)]) (rest := []) hC hE (sat_L_nameRow (xl X) hl (((97 + (v1 - v1 / 8 * 8)).toUInt32 % 65536).toInt32) ((v1 / 8) - (v1 / 8) / v2 * v2) s) (nt_wJ) cw_L_nameRow ciL wd1104 cs_L_nameRow cd_L_nameRow (by decide) (Nat.le_of_ble_eq_true rfl) (Nat.le_of_ble_eq_true rfl) dL_acts_270 rfl (fun v92 s91 _ => ?_)
                                      exact lx_lret hC rfl hr dL_acts_273
                                    · skip
                                      refine lx_case (fun h93 => ?_) (fun h93 => ?_)
                                      · refine lx_tin hC 274 h93 dL_acts_22 (by decide) (by decide) rfl (by decide) ?_
                                        refine lx_aload_n hC dL_acts_274 rfl 2 rfl ?_
                                        refine lx_iload_n hC dL_acts_275 rfl 1 rfl ?_
                                        refine lx_iload_n hC dL_acts_276 rfl 0 rfl ?_
                                        refine lx_if fun h94 => lx_irem hC dL_acts_277 h94 ?_
                                        refine lx_callWR (as := [.ref 0, .int (v1 - v1 / v2 * v2)]) (rest := []) hC hE (sat_L_spread (xl X) hl (v1 - v1 / v2 * v2) s) (nt_wJ) cw_L_spread ciL wd1111 cs_L_spread cd_L_spread (by decide) (Nat.le_of_ble_eq_true rfl) (Nat.le_of_ble_eq_true rfl) dL_acts_278 rfl (fun v96 s95 _ => ?_)
                                        exact lx_lret hC rfl hr dL_acts_281
                                      · skip
                                        refine lx_tdf hC 282 dL_acts_22 (fun z zq1 zq2 ze => ?_) (by decide) ?_
                                        · rcases (show z = 0 ∨ z = 1 ∨ z = 2 ∨ z = 3 ∨ z = 4 ∨ z = 5 ∨ z = 6 ∨ z = 7 ∨ z = 8 ∨ z = 9 ∨ z = 10 ∨ z = 11 ∨ z = 12 ∨ z = 13 ∨ z = 14 ∨ z = 15 ∨ z = 16 ∨ z = 17 ∨ z = 18 by omega) with rfl | rfl | rfl | rfl | rfl | rfl | rfl | rfl | rfl | rfl | rfl | rfl | rfl | rfl | rfl | rfl | rfl | rfl | rfl
                                          · exact absurd ze (lv_neT h4 (by decide))
                                          · exact absurd ze (lv_neT h7 (by decide))
                                          · exact absurd ze (lv_neT h11 (by decide))
                                          · exact absurd ze (lv_neT h15 (by decide))
                                          · exact absurd ze (lv_neT h19 (by decide))
                                          · exact absurd ze (lv_neT h23 (by decide))
                                          · exact absurd ze (lv_neT h27 (by decide))
                                          · exact absurd ze (lv_neT h31 (by decide))
                                          · exact absurd ze (lv_neT h35 (by decide))
                                          · exact absurd ze (lv_neT h39 (by decide))
                                          · exact absurd ze (lv_neT h45 (by decide))
                                          · exact absurd ze (lv_neT h51 (by decide))
                                          · exact absurd ze (lv_neT h56 (by decide))
                                          · exact absurd ze (lv_neT h63 (by decide))
                                          · exact absurd ze (lv_neT h70 (by decide))
                                          · exact absurd ze (lv_neT h77 (by decide))
                                          · exact absurd ze (lv_neT h82 (by decide))
                                          · exact absurd ze (lv_neT h89 (by decide))
                                          · exact absurd ze (lv_neT h93 (by decide))
                                        · skip
                                          refine lx_aload_n hC dL_acts_282 rfl 2 rfl ?_
                                          refine lx_getTX hC hE wd1118 dL_acts_283 ?_
                                          refine lx_iload_n hC dL_acts_286 rfl 1 rfl ?_
                                          refine lx_bipush (v := 8) hC dL_acts_287 (by decide) ?_
                                          refine lx_irem hC dL_acts_289 (by decide) ?_
                                          refine lx_aaTX hC hE dL_acts_290 (fun h97 => ?_)
                                          refine lx_callX hC hx (sat_L_runs (xl X) hl (3046 + (v1 - v1 / 8 * 8).toNatClampNeg) (isStr_tx h97) s) (run_S (as := [.ref 0, .ref (3046 + (v1 - v1 / 8 * 8).toNatClampNeg)]) (rest := []) hC hE cw_L_runs ci_L_runs wd1120 cs_L_runs cd_L_runs (by decide) (by decide) (Nat.le_of_ble_eq_true rfl) dL_acts_291 rfl) (fun v98 s99 _ => ?_)
                                          exact lx_lret hC rfl hr dL_acts_294
set_option maxRecDepth 100000 in
set_option maxHeartbeats 4000000 in
theorem l_L_spreads_j150 {X : Cx} {V : Vx} {A : Nat → Prop} {adV : Nat → Nat} {c0 s0 : Nat} (hC : Cok X V A yL_spreads.cls cL_spreads 10) (hE : Env0 V adV A (xs X) (xs X).heap) (hl : (xl X).stackTraces = false) (hx : ∀ x ∈ (xc X).exceptionTable.toList, False) (hr : (xh X).sig.returnType = some .boolean) (x15 : Int64) (x16 : Int32) (s : Mem) : LX X V A 38 682 c0 s0 (FM X V A (fun x => some (.int x))) 150 [(0, .ref 0), (2, .long x15)] [.int x16] s (m_L_spreads_j150 x15 x16 s ) := by
  unfold m_L_spreads_j150
  refine lx_istore hC dL_spreads_150 (by decide) ?_
  refine lx_aload_n hC dL_spreads_152 rfl 1 rfl ?_
  refine lx_callWR (as := [.ref 0]) (rest := []) hC hE (sat_L_undo (xl X) hl s) (nt_wJ) cw_L_undo ciL wd615 cs_L_undo cd_L_undo (by decide) (Nat.le_of_ble_eq_true rfl) (Nat.le_of_ble_eq_true rfl) dL_spreads_153 rfl (fun v18 s17 _ => ?_)
  refine lx_pop2 hC dL_spreads_156 ?_
  refine lx_iload hC dL_spreads_157 0 rfl ?_
  refine lx_if_eq hC 175 dL_spreads_159 (by decide) ?_ ?_
  · skip
    refine lx_iconstv (v := 0) hC dL_spreads_175 rfl ?_
    exact lx_zret hC rfl hr rfl dL_spreads_176
  · skip
    refine lx_aload_n hC dL_spreads_162 rfl 1 rfl ?_
    refine lx_callX hC hx (sat_L_mark (xl X) hl s17) (run_S (as := [.ref 0]) (rest := []) hC hE cw_L_mark ci_L_mark wd646 cs_L_mark cd_L_mark (by decide) (by decide) (Nat.le_of_ble_eq_true rfl) dL_spreads_163 rfl) (fun v19 s20 _ => ?_)
    refine lx_lload_n hC dL_spreads_166 rfl 2 rfl ?_
    refine lx_lcmp hC dL_spreads_167 ?_
    refine lx_if_ne hC 175 dL_spreads_168 (by decide) ?_ ?_
    · skip
      refine lx_iconstv (v := 0) hC dL_spreads_175 rfl ?_
      exact lx_zret hC rfl hr rfl dL_spreads_176
    · skip
      refine lx_iconstv (v := 1) hC dL_spreads_171 rfl ?_
      refine lx_goto hC 176 dL_spreads_172 (by decide) ?_
      exact lx_zret hC rfl hr rfl dL_spreads_176
set_option maxRecDepth 100000 in
set_option maxHeartbeats 4000000 in
theorem n_L_spreads_j150 (x15 : Int64) (x16 : Int32) (s : Mem) : Mn s (m_L_spreads_j150 x15 x16 s ) := by
  unfold m_L_spreads_j150
  refine mn_bind (n_L_undo s) (fun v18 s17 => ?_)
  refine mn_if ?_ ?_
  · skip
    exact mn_some
  · skip
    refine mn_bind (n_L_mark s17) (fun v19 s20 => ?_)
    refine mn_if ?_ ?_
    · skip
      exact mn_some
    · skip
      exact mn_some
set_option maxRecDepth 100000 in
set_option maxHeartbeats 4000000 in
theorem l_L_spreads_j149 {X : Cx} {V : Vx} {A : Nat → Prop} {adV : Nat → Nat} {c0 s0 : Nat} (hC : Cok X V A yL_spreads.cls cL_spreads 10) (hE : Env0 V adV A (xs X) (xs X).heap) (hl : (xl X).stackTraces = false) (hx : ∀ x ∈ (xc X).exceptionTable.toList, False) (hr : (xh X).sig.returnType = some .boolean) (x14 : Int64) (s : Mem) : LX X V A 38 682 c0 s0 (FM X V A (fun x => some (.int x))) 149 [(0, .ref 0), (2, .long x14)] [] s (m_L_spreads_j149 x14 s ) := by
  unfold m_L_spreads_j149
  refine lx_iconstv (v := 0) hC dL_spreads_149 rfl ?_
  exact lx_sub [0, 1] rfl (l_L_spreads_j150 hC hE hl hx hr x14 0 s )
set_option maxRecDepth 100000 in
set_option maxHeartbeats 4000000 in
theorem n_L_spreads_j149 (x14 : Int64) (s : Mem) : Mn s (m_L_spreads_j149 x14 s ) := by
  unfold m_L_spreads_j149
  exact n_L_spreads_j150 x14 0 s 
set_option maxRecDepth 100000 in
set_option maxHeartbeats 4000000 in
theorem l_L_spreads_j138 {X : Cx} {V : Vx} {A : Nat → Prop} {adV : Nat → Nat} {c0 s0 : Nat} (hC : Cok X V A yL_spreads.cls cL_spreads 10) (hE : Env0 V adV A (xs X) (xs X).heap) (hl : (xl X).stackTraces = false) (hx : ∀ x ∈ (xc X).exceptionTable.toList, False) (hr : (xh X).sig.returnType = some .boolean) (x26 : Int64) (s : Mem) : LX X V A 38 682 c0 s0 (FM X V A (fun x => some (.int x))) 138 [(0, .ref 0), (2, .long x26)] [] s (m_L_spreads_j138 x26 s ) := by
  unfold m_L_spreads_j138
  refine lx_aload_n hC dL_spreads_138 rfl 0 rfl ?_
  refine lx_callX hC hx (sat_X7_isConsistent (xl X) hl s) (run_V (as := []) (rest := []) hC hE ly0 rfl cw_X7_isConsistent ci_X7_isConsistent wd1232 cs_X7_isConsistent ce_X7_isConsistent cd_X7_isConsistent (by decide) (by decide) (Nat.le_of_ble_eq_true rfl) dL_spreads_139 rfl) (fun v27 s28 _ => ?_)
  refine lx_if_eq hC 149 dL_spreads_142 (by decide) ?_ ?_
  · skip
    exact lx_sub [0, 1] rfl (l_L_spreads_j149 hC hE hl hx hr x26 s28 )
  · skip
    refine lx_iconstv (v := 1) hC dL_spreads_145 rfl ?_
    refine lx_goto hC 150 dL_spreads_146 (by decide) ?_
    exact lx_sub [0, 1] rfl (l_L_spreads_j150 hC hE hl hx hr x26 1 s28 )
set_option maxRecDepth 100000 in
set_option maxHeartbeats 4000000 in
theorem n_L_spreads_j138 (x26 : Int64) (s : Mem) : Mn s (m_L_spreads_j138 x26 s ) := by
  unfold m_L_spreads_j138
  refine mn_bind (n_X7_isConsistent s) (fun v27 s28 => ?_)
  refine mn_if ?_ ?_
  · skip
    exact n_L_spreads_j149 x26 s28 
  · skip
    exact n_L_spreads_j150 x26 1 s28 
set_option maxRecDepth 100000 in
set_option maxHeartbeats 4000000 in
theorem l_L_spreads_b57 {X : Cx} {V : Vx} {A : Nat → Prop} {adV : Nat → Nat} {c0 s0 : Nat} (hC : Cok X V A yL_spreads.cls cL_spreads 10) (hE : Env0 V adV A (xs X) (xs X).heap) (hl : (xl X).stackTraces = false) (hx : ∀ x ∈ (xc X).exceptionTable.toList, False) (hr : (xh X).sig.returnType = some .boolean) (x7 : Int32) (x8 : Int64) (x9 : Int64) (x10 : Int64) (s : Mem) (kf57 : (Int32 × Int32 × Mem) → Res Int32) (hk57 : ∀ a, LX X V A 38 682 c0 s0 (FM X V A (fun x => some (.int x))) 57 [(0, .ref 0), (1, .int x7), (2, .long x8), (4, .long x9), (6, .long x10), (8, .int a.1), (9, .int a.2.1)] [] a.2.2 (kf57 a)) (w8 : Int32) (w9 : Int32) : LX X V A 38 682 c0 s0 (FM X V A (fun x => some (.int x))) 57 [(0, .ref 0), (1, .int x7), (2, .long x8), (4, .long x9), (6, .long x10), (8, .int w8), (9, .int w9)] [] s (m_L_spreads_b57 x7 x8 x9 x10 s kf57 w8 w9 ) := by
  unfold m_L_spreads_b57
  refine lx_iload hC dL_spreads_57 6 rfl ?_
  refine lx_aload_n hC dL_spreads_59 rfl 0 rfl ?_
  refine lx_callP hC hx (sat_X7_rowCount (xl X) hl s) (run_V (as := []) (rest := [.int w9]) hC hE ly0 rfl cw_X7_rowCount ci_X7_rowCount wd670 cs_X7_rowCount ce_X7_rowCount cd_X7_rowCount (by decide) (by decide) (Nat.le_of_ble_eq_true rfl) dL_spreads_60 rfl) (fun v11 _ => ?_)
  refine lx_icmp_ge hC 109 dL_spreads_63 (by decide) ?_ ?_
  · skip
    refine lx_aload_n hC dL_spreads_109 rfl 0 rfl ?_
    refine lx_iload_n hC dL_spreads_110 rfl 1 rfl ?_
    refine lx_callWR (as := [.ref 0, .int x7]) (rest := []) hC hE (sat_L_occupancy (xl X) hl x7 s) (nt_wJ) cw_L_occupancy ciL wd1304 cs_L_occupancy cd_L_occupancy (by decide) (Nat.le_of_ble_eq_true rfl) (Nat.le_of_ble_eq_true rfl) dL_spreads_111 rfl (fun v13 s12 _ => ?_)
    refine lx_lload hC dL_spreads_114 3 rfl ?_
    refine lx_lload hC dL_spreads_116 4 rfl ?_
    refine lx_lsub hC dL_spreads_118 ?_
    refine lx_lcmp hC dL_spreads_119 ?_
    refine lx_if_ne hC 149 dL_spreads_120 (by decide) ?_ ?_
    · skip
      exact lx_sub [0, 2] rfl (l_L_spreads_j149 hC hE hl hx hr x8 s12 )
    · skip
      refine lx_aload_n hC dL_spreads_123 rfl 0 rfl ?_
      refine lx_iload_n hC dL_spreads_124 rfl 1 rfl ?_
      refine lx_callWR (as := [.ref 0, .int x7]) (rest := []) hC hE (sat_L_isCrowded (xl X) hl x7 s12) (nt_wZ) cw_L_isCrowded ciL wd1325 cs_L_isCrowded cd_L_isCrowded (by decide) (Nat.le_of_ble_eq_true rfl) (Nat.le_of_ble_eq_true rfl) dL_spreads_125 rfl (fun v25 s24 _ => ?_)
      refine lx_lconst (v := 0) hC dL_spreads_128 (by decide) ?_
      refine lx_lcmp hC dL_spreads_129 ?_
      refine lx_if_eq hC 138 dL_spreads_130 (by decide) ?_ ?_
      · skip
        exact lx_sub [0, 2] rfl (l_L_spreads_j138 hC hE hl hx hr x8 s24 )
      · skip
        refine lx_iload hC dL_spreads_133 5 rfl ?_
        refine lx_if_ne hC 149 dL_spreads_135 (by decide) ?_ ?_
        · skip
          exact lx_sub [0, 2] rfl (l_L_spreads_j149 hC hE hl hx hr x8 s24 )
        · skip
          exact lx_sub [0, 2] rfl (l_L_spreads_j138 hC hE hl hx hr x8 s24 )
  · skip
    refine lx_iload hC dL_spreads_66 5 rfl ?_
    refine lx_aload_n hC dL_spreads_68 rfl 0 rfl ?_
    refine lx_iload hC dL_spreads_69 6 rfl ?_
    refine lx_callWR (as := [.ref 0, .int w9]) (rest := [.int w8]) hC hE (sat_L_isLocked (xl X) hl w9 s) (nt_wZ) cw_L_isLocked ciL wd1311 cs_L_isLocked cd_L_isLocked (by decide) (Nat.le_of_ble_eq_true rfl) (Nat.le_of_ble_eq_true rfl) dL_spreads_71 rfl (fun v36 s35 _ => ?_)
    refine lx_lconst (v := 0) hC dL_spreads_74 (by decide) ?_
    refine lx_lcmp hC dL_spreads_75 ?_
    refine lx_if_ne hC 99 dL_spreads_76 (by decide) ?_ ?_
    · skip
      refine lx_iconstv (v := 0) hC dL_spreads_99 rfl ?_
      refine lx_ior hC dL_spreads_100 ?_
      refine lx_istoreN hC dL_spreads_101 (by decide) (fun y37 => ?_)
      refine lx_iincN (v := 1) hC dL_spreads_103 6 rfl (by decide) rfl (fun y38 => ?_)
      refine lx_goto hC 57 dL_spreads_106 (by decide) ?_
      exact lx_sub [2, 3, 4, 5, 6, 1, 0] rfl (hk57 (y37, y38, s35))
    · skip
      refine lx_aload_n hC dL_spreads_79 rfl 0 rfl ?_
      refine lx_iload hC dL_spreads_80 6 rfl ?_
      refine lx_callWR (as := [.ref 0, .int w9]) (rest := [.int w8]) hC hE (sat_L_occupancy (xl X) hl w9 s35) (nt_wJ) cw_L_occupancy ciL wd1304 cs_L_occupancy cd_L_occupancy (by decide) (Nat.le_of_ble_eq_true rfl) (Nat.le_of_ble_eq_true rfl) dL_spreads_82 rfl (fun v40 s39 _ => ?_)
      refine lx_aload_n hC dL_spreads_85 rfl 0 rfl ?_
      refine lx_iload hC dL_spreads_86 6 rfl ?_
      refine lx_callWR (as := [.ref 0, .int w9]) (rest := [.long v40, .int w8]) hC hE (sat_L_capacity (xl X) hl w9 s39) (nt_wJ) cw_L_capacity ciL wd1318 cs_L_capacity cd_L_capacity (by decide) (Nat.le_of_ble_eq_true rfl) (Nat.le_of_ble_eq_true rfl) dL_spreads_88 rfl (fun v42 s41 _ => ?_)
      refine lx_lcmp hC dL_spreads_91 ?_
      refine lx_if_ge hC 99 dL_spreads_92 (by decide) ?_ ?_
      · skip
        refine lx_iconstv (v := 0) hC dL_spreads_99 rfl ?_
        refine lx_ior hC dL_spreads_100 ?_
        refine lx_istoreN hC dL_spreads_101 (by decide) (fun y43 => ?_)
        refine lx_iincN (v := 1) hC dL_spreads_103 6 rfl (by decide) rfl (fun y44 => ?_)
        refine lx_goto hC 57 dL_spreads_106 (by decide) ?_
        exact lx_sub [2, 3, 4, 5, 6, 1, 0] rfl (hk57 (y43, y44, s41))
      · skip
        refine lx_iconstv (v := 1) hC dL_spreads_95 rfl ?_
        refine lx_goto hC 100 dL_spreads_96 (by decide) ?_
        refine lx_ior hC dL_spreads_100 ?_
        refine lx_istoreN hC dL_spreads_101 (by decide) (fun y45 => ?_)
        refine lx_iincN (v := 1) hC dL_spreads_103 6 rfl (by decide) rfl (fun y46 => ?_)
        refine lx_goto hC 57 dL_spreads_106 (by decide) ?_
        exact lx_sub [2, 3, 4, 5, 6, 1, 0] rfl (hk57 (y45, y46, s41))
set_option maxRecDepth 100000 in
set_option maxHeartbeats 4000000 in
theorem n_L_spreads_b57 (x7 : Int32) (x8 : Int64) (x9 : Int64) (x10 : Int64) (s : Mem) (kf57 : (Int32 × Int32 × Mem) → Res Int32) (hm57 : ∀ a, Mn a.2.2 (kf57 a)) (w8 : Int32) (w9 : Int32) : Mn s (m_L_spreads_b57 x7 x8 x9 x10 s kf57 w8 w9 ) := by
  unfold m_L_spreads_b57
  refine mn_bindP (fun v11 => ?_)
  refine mn_if ?_ ?_
  · skip
    refine mn_bind (n_L_occupancy x7 s) (fun v13 s12 => ?_)
    refine mn_if ?_ ?_
    · skip
      exact n_L_spreads_j149 x8 s12 
    · skip
      refine mn_bind (n_L_isCrowded x7 s12) (fun v25 s24 => ?_)
      refine mn_if ?_ ?_
      · skip
        exact n_L_spreads_j138 x8 s24 
      · skip
        refine mn_if ?_ ?_
        · skip
          exact n_L_spreads_j149 x8 s24 
        · skip
          exact n_L_spreads_j138 x8 s24 
  · skip
    refine mn_bind (n_L_isLocked w9 s) (fun v36 s35 => ?_)
    refine mn_if ?_ ?_
    · skip
      refine mn_vl (fun y37 => ?_)
      refine mn_vl (fun y38 => ?_)
      exact hm57 (y37, y38, s35)
    · skip
      refine mn_bind (n_L_occupancy w9 s35) (fun v40 s39 => ?_)
      refine mn_bind (n_L_capacity w9 s39) (fun v42 s41 => ?_)
      refine mn_if ?_ ?_
      · skip
        refine mn_vl (fun y43 => ?_)
        refine mn_vl (fun y44 => ?_)
        exact hm57 (y43, y44, s41)
      · skip
        refine mn_vl (fun y45 => ?_)
        refine mn_vl (fun y46 => ?_)
        exact hm57 (y45, y46, s41)
set_option maxRecDepth 100000 in
set_option maxHeartbeats 4000000 in
theorem n_L_spreads (p1 : Int32) (s : Mem) : Mn s (m_L_spreads p1 s) := by
  unfold m_L_spreads
  refine mn_bind (n_L_mark s) (fun v1 s2 => ?_)
  refine mn_bind (n_L_occupancy p1 s2) (fun v4 s3 => ?_)
  refine mn_bind (n_L_spread p1 s3) (fun v6 s5 => ?_)
  refine mn_if ?_ ?_
  · skip
    exact mn_lp (sg := fun a => a.2.2) (fun kf hq a => n_L_spreads_b57 p1 v1 v4 v6 a.2.2 kf hq a.1 a.2.1) FUEL (0, 0, s5)
  · skip
    refine mn_bind (n_L_isLocked p1 s5) (fun v48 s47 => ?_)
    refine mn_if ?_ ?_
    · skip
      exact mn_some
    · skip
      refine mn_bind (n_L_mark s47) (fun v49 s50 => ?_)
      refine mn_if ?_ ?_
      · skip
        exact mn_some
      · skip
        exact mn_some
set_option maxRecDepth 100000 in
set_option maxHeartbeats 4000000 in
theorem sat_L_spreads (l : Launch) (hl : l.stackTraces = false) (p1 : Int32) (s : Mem) : Sat l yL_spreads (.code yL_spreads cL_spreads 10 (some .boolean)) 38 682 (fun x => some (.int x)) [.ref 0, .int p1] s (m_L_spreads p1 s) := by
  refine sat_of hl (by decide) (Nat.le_of_ble_eq_true rfl) (fun X V A adV hxl hC hE hx hr => ?_) (n_L_spreads p1 s)
  subst hxl
  show LX X V A 38 682 (nC s) (nS s) _ 0 [(0, .ref 0), (1, .int p1)] [] s _
  unfold m_L_spreads
  refine lx_aload_n hC dL_spreads_0 rfl 0 rfl ?_
  refine lx_callX hC hx (sat_L_mark (xl X) hl s) (run_S (as := [.ref 0]) (rest := []) hC hE cw_L_mark ci_L_mark wd646 cs_L_mark cd_L_mark (by decide) (by decide) (Nat.le_of_ble_eq_true rfl) dL_spreads_1 rfl) (fun v1 s2 _ => ?_)
  refine lx_lstore_n hC dL_spreads_4 rfl (by decide) ?_
  refine lx_aload_n hC dL_spreads_5 rfl 1 rfl ?_
  refine lx_iload_n hC dL_spreads_6 rfl 2 rfl ?_
  refine lx_callWR (as := [.ref 0, .int p1]) (rest := []) hC hE (sat_L_occupancy (xl X) hl p1 s2) (nt_wJ) cw_L_occupancy ciL wd1304 cs_L_occupancy cd_L_occupancy (by decide) (Nat.le_of_ble_eq_true rfl) (Nat.le_of_ble_eq_true rfl) dL_spreads_7 rfl (fun v4 s3 _ => ?_)
  refine lx_lstore hC dL_spreads_10 (by decide) ?_
  refine lx_aload_n hC dL_spreads_12 rfl 2 rfl ?_
  refine lx_iload_n hC dL_spreads_13 rfl 3 rfl ?_
  refine lx_callWR (as := [.ref 0, .int p1]) (rest := []) hC hE (sat_L_spread (xl X) hl p1 s3) (nt_wJ) cw_L_spread ciL wd1111 cs_L_spread cd_L_spread (by decide) (Nat.le_of_ble_eq_true rfl) (Nat.le_of_ble_eq_true rfl) dL_spreads_14 rfl (fun v6 s5 _ => ?_)
  refine lx_lstore hC dL_spreads_17 (by decide) ?_
  refine lx_lload hC dL_spreads_19 0 rfl ?_
  refine lx_lconst (v := 0) hC dL_spreads_21 (by decide) ?_
  refine lx_lcmp hC dL_spreads_22 ?_
  refine lx_if_ge hC 51 dL_spreads_23 (by decide) ?_ ?_
  · skip
    refine lx_iconstv (v := 0) hC dL_spreads_51 rfl ?_
    refine lx_istore hC dL_spreads_52 (by decide) ?_
    refine lx_iconstv (v := 0) hC dL_spreads_54 rfl ?_
    refine lx_istore hC dL_spreads_55 (by decide) ?_
    refine lx_sub [5, 6, 4, 3, 2, 1, 0] rfl ?_
    exact lx_lp (lv := fun a => [(0, .ref 0), (1, .int p1), (2, .long v1), (4, .long v4), (6, .long v6), (8, .int a.1), (9, .int a.2.1)]) (st := fun _ => []) (sg := fun a => a.2.2) (fun kf hq a => l_L_spreads_b57 hC hE hl hx hr p1 v1 v4 v6 a.2.2 kf hq a.1 a.2.1) FUEL (0, 0, s5)
  · skip
    refine lx_aload_n hC dL_spreads_26 rfl 3 rfl ?_
    refine lx_iload_n hC dL_spreads_27 rfl 4 rfl ?_
    refine lx_callWR (as := [.ref 0, .int p1]) (rest := []) hC hE (sat_L_isLocked (xl X) hl p1 s5) (nt_wZ) cw_L_isLocked ciL wd1311 cs_L_isLocked cd_L_isLocked (by decide) (Nat.le_of_ble_eq_true rfl) (Nat.le_of_ble_eq_true rfl) dL_spreads_28 rfl (fun v48 s47 _ => ?_)
    refine lx_lconst (v := 1) hC dL_spreads_31 (by decide) ?_
    refine lx_lcmp hC dL_spreads_32 ?_
    refine lx_if_ne hC 49 dL_spreads_33 (by decide) ?_ ?_
    · skip
      refine lx_iconstv (v := 0) hC dL_spreads_49 rfl ?_
      exact lx_zret hC rfl hr rfl dL_spreads_50
    · skip
      refine lx_aload_n hC dL_spreads_36 rfl 3 rfl ?_
      refine lx_callX hC hx (sat_L_mark (xl X) hl s47) (run_S (as := [.ref 0]) (rest := []) hC hE cw_L_mark ci_L_mark wd646 cs_L_mark cd_L_mark (by decide) (by decide) (Nat.le_of_ble_eq_true rfl) dL_spreads_37 rfl) (fun v49 s50 _ => ?_)
      refine lx_lload_n hC dL_spreads_40 rfl 2 rfl ?_
      refine lx_lcmp hC dL_spreads_41 ?_
      refine lx_if_ne hC 49 dL_spreads_42 (by decide) ?_ ?_
      · skip
        refine lx_iconstv (v := 0) hC dL_spreads_49 rfl ?_
        exact lx_zret hC rfl hr rfl dL_spreads_50
      · skip
        refine lx_iconstv (v := 1) hC dL_spreads_45 rfl ?_
        refine lx_goto hC 50 dL_spreads_46 (by decide) ?_
        exact lx_zret hC rfl hr rfl dL_spreads_50
set_option maxRecDepth 100000 in
set_option maxHeartbeats 4000000 in
theorem l_L_removes_j255 {X : Cx} {V : Vx} {A : Nat → Prop} {adV : Nat → Nat} {c0 s0 : Nat} (hC : Cok X V A yL_removes.cls cL_removes 17) (hE : Env0 V adV A (xs X) (xs X).heap) (hl : (xl X).stackTraces = false) (hx : ∀ x ∈ (xc X).exceptionTable.toList, False) (hr : (xh X).sig.returnType = some .boolean) (x60 : Int64) (x61 : Int32) (x62 : Int32) (s : Mem) : LX X V A 38 682 c0 s0 (FM X V A (fun x => some (.int x))) 255 [(0, .ref 0), (2, .long x60)] [.int x61, .int x62] s (m_L_removes_j255 x60 x61 x62 s ) := by
  unfold m_L_removes_j255
  refine lx_iand hC dL_removes_255 ?_
  refine lx_istoreN hC dL_removes_256 (by decide) (fun y63 => ?_)
  refine lx_aload_n hC dL_removes_258 rfl 1 rfl ?_
  refine lx_callWR (as := [.ref 0]) (rest := []) hC hE (sat_L_undo (xl X) hl s) (nt_wJ) cw_L_undo ciL wd615 cs_L_undo cd_L_undo (by decide) (Nat.le_of_ble_eq_true rfl) (Nat.le_of_ble_eq_true rfl) dL_removes_259 rfl (fun v65 s64 _ => ?_)
  refine lx_pop2 hC dL_removes_262 ?_
  refine lx_iload hC dL_removes_263 0 rfl ?_
  refine lx_if_eq hC 281 dL_removes_265 (by decide) ?_ ?_
  · skip
    refine lx_iconstv (v := 0) hC dL_removes_281 rfl ?_
    exact lx_zret hC rfl hr rfl dL_removes_282
  · skip
    refine lx_aload_n hC dL_removes_268 rfl 1 rfl ?_
    refine lx_callX hC hx (sat_L_mark (xl X) hl s64) (run_S (as := [.ref 0]) (rest := []) hC hE cw_L_mark ci_L_mark wd646 cs_L_mark cd_L_mark (by decide) (by decide) (Nat.le_of_ble_eq_true rfl) dL_removes_269 rfl) (fun v66 s67 _ => ?_)
    refine lx_lload_n hC dL_removes_272 rfl 2 rfl ?_
    refine lx_lcmp hC dL_removes_273 ?_
    refine lx_if_ne hC 281 dL_removes_274 (by decide) ?_ ?_
    · skip
      refine lx_iconstv (v := 0) hC dL_removes_281 rfl ?_
      exact lx_zret hC rfl hr rfl dL_removes_282
    · skip
      refine lx_iconstv (v := 1) hC dL_removes_277 rfl ?_
      refine lx_goto hC 282 dL_removes_278 (by decide) ?_
      exact lx_zret hC rfl hr rfl dL_removes_282
set_option maxRecDepth 100000 in
set_option maxHeartbeats 4000000 in
theorem n_L_removes_j255 (x60 : Int64) (x61 : Int32) (x62 : Int32) (s : Mem) : Mn s (m_L_removes_j255 x60 x61 x62 s ) := by
  unfold m_L_removes_j255
  refine mn_vl (fun y63 => ?_)
  refine mn_bind (n_L_undo s) (fun v65 s64 => ?_)
  refine mn_if ?_ ?_
  · skip
    exact mn_some
  · skip
    refine mn_bind (n_L_mark s64) (fun v66 s67 => ?_)
    refine mn_if ?_ ?_
    · skip
      exact mn_some
    · skip
      exact mn_some
set_option maxRecDepth 100000 in
set_option maxHeartbeats 4000000 in
theorem l_L_removes_j254 {X : Cx} {V : Vx} {A : Nat → Prop} {adV : Nat → Nat} {c0 s0 : Nat} (hC : Cok X V A yL_removes.cls cL_removes 17) (hE : Env0 V adV A (xs X) (xs X).heap) (hl : (xl X).stackTraces = false) (hx : ∀ x ∈ (xc X).exceptionTable.toList, False) (hr : (xh X).sig.returnType = some .boolean) (x58 : Int64) (x59 : Int32) (s : Mem) : LX X V A 38 682 c0 s0 (FM X V A (fun x => some (.int x))) 254 [(0, .ref 0), (2, .long x58)] [.int x59] s (m_L_removes_j254 x58 x59 s ) := by
  unfold m_L_removes_j254
  refine lx_iconstv (v := 0) hC dL_removes_254 rfl ?_
  exact lx_sub [0, 1] rfl (l_L_removes_j255 hC hE hl hx hr x58 0 x59 s )
set_option maxRecDepth 100000 in
set_option maxHeartbeats 4000000 in
theorem n_L_removes_j254 (x58 : Int64) (x59 : Int32) (s : Mem) : Mn s (m_L_removes_j254 x58 x59 s ) := by
  unfold m_L_removes_j254
  exact n_L_removes_j255 x58 0 x59 s 
set_option maxRecDepth 100000 in
set_option maxHeartbeats 4000000 in
theorem l_L_removes_j221 {X : Cx} {V : Vx} {A : Nat → Prop} {adV : Nat → Nat} {c0 s0 : Nat} (hC : Cok X V A yL_removes.cls cL_removes 17) (hE : Env0 V adV A (xs X) (xs X).heap) (hl : (xl X).stackTraces = false) (hx : ∀ x ∈ (xc X).exceptionTable.toList, False) (hr : (xh X).sig.returnType = some .boolean) (x54 : Int32) (x55 : Int64) (x56 : Int32) (s : Mem) : LX X V A 38 682 c0 s0 (FM X V A (fun x => some (.int x))) 221 [(0, .ref 0), (1, .int x54), (2, .long x55)] [.int x56] s (m_L_removes_j221 x54 x55 x56 s ) := by
  unfold m_L_removes_j221
  refine lx_istore hC dL_removes_221 (by decide) ?_
  refine lx_iload hC dL_removes_223 0 rfl ?_
  refine lx_aload_n hC dL_removes_225 rfl 1 rfl ?_
  refine lx_iload_n hC dL_removes_226 rfl 2 rfl ?_
  refine lx_callP hC hx (sat_X7_isActive (xl X) hl x54 s) (run_V (as := [.int x54]) (rest := [.int x56]) hC hE ly0 rfl cw_X7_isActive ci_X7_isActive wd1433 cs_X7_isActive ce_X7_isActive cd_X7_isActive (by decide) (by decide) (Nat.le_of_ble_eq_true rfl) dL_removes_227 rfl) (fun v57 _ => ?_)
  refine lx_if_ne hC 254 dL_removes_230 (by decide) ?_ ?_
  · skip
    exact lx_sub [1, 3] rfl (l_L_removes_j254 hC hE hl hx hr x55 x56 s )
  · skip
    refine lx_aload_n hC dL_removes_233 rfl 1 rfl ?_
    refine lx_callP hC hx (sat_X7_addedLoudness (xl X) hl s) (run_V (as := []) (rest := [.int x56]) hC hE ly0 rfl cw_X7_addedLoudness ci_X7_addedLoudness wd661 cs_X7_addedLoudness ce_X7_addedLoudness cd_X7_addedLoudness (by decide) (by decide) (Nat.le_of_ble_eq_true rfl) dL_removes_234 rfl) (fun v73 _ => ?_)
    refine lx_aload_n hC dL_removes_237 rfl 1 rfl ?_
    refine lx_callP hC hx (sat_X7_activeLoudness (xl X) hl s) (run_V (as := []) (rest := [.long v73, .int x56]) hC hE ly0 rfl cw_X7_activeLoudness ci_X7_activeLoudness wd1437 cs_X7_activeLoudness ce_X7_activeLoudness cd_X7_activeLoudness (by decide) (by decide) (Nat.le_of_ble_eq_true rfl) dL_removes_238 rfl) (fun v74 _ => ?_)
    refine lx_aload_n hC dL_removes_241 rfl 1 rfl ?_
    refine lx_callP hC hx (sat_X7_lostLoudness (xl X) hl s) (run_V (as := []) (rest := [.long v74, .long v73, .int x56]) hC hE ly0 rfl cw_X7_lostLoudness ci_X7_lostLoudness wd666 cs_X7_lostLoudness ce_X7_lostLoudness cd_X7_lostLoudness (by decide) (by decide) (Nat.le_of_ble_eq_true rfl) dL_removes_242 rfl) (fun v75 _ => ?_)
    refine lx_ladd hC dL_removes_245 ?_
    refine lx_lcmp hC dL_removes_246 ?_
    refine lx_if_ne hC 254 dL_removes_247 (by decide) ?_ ?_
    · skip
      exact lx_sub [1, 3] rfl (l_L_removes_j254 hC hE hl hx hr x55 x56 s )
    · skip
      refine lx_iconstv (v := 1) hC dL_removes_250 rfl ?_
      refine lx_goto hC 255 dL_removes_251 (by decide) ?_
      exact lx_sub [1, 3] rfl (l_L_removes_j255 hC hE hl hx hr x55 1 x56 s )
set_option maxRecDepth 100000 in
set_option maxHeartbeats 4000000 in
theorem n_L_removes_j221 (x54 : Int32) (x55 : Int64) (x56 : Int32) (s : Mem) : Mn s (m_L_removes_j221 x54 x55 x56 s ) := by
  unfold m_L_removes_j221
  refine mn_bindP (fun v57 => ?_)
  refine mn_if ?_ ?_
  · skip
    exact n_L_removes_j254 x55 x56 s 
  · skip
    refine mn_bindP (fun v73 => ?_)
    refine mn_bindP (fun v74 => ?_)
    refine mn_bindP (fun v75 => ?_)
    refine mn_if ?_ ?_
    · skip
      exact n_L_removes_j254 x55 x56 s 
    · skip
      exact n_L_removes_j255 x55 1 x56 s 
set_option maxRecDepth 100000 in
set_option maxHeartbeats 4000000 in
theorem l_L_removes_j220 {X : Cx} {V : Vx} {A : Nat → Prop} {adV : Nat → Nat} {c0 s0 : Nat} (hC : Cok X V A yL_removes.cls cL_removes 17) (hE : Env0 V adV A (xs X) (xs X).heap) (hl : (xl X).stackTraces = false) (hx : ∀ x ∈ (xc X).exceptionTable.toList, False) (hr : (xh X).sig.returnType = some .boolean) (x52 : Int32) (x53 : Int64) (s : Mem) : LX X V A 38 682 c0 s0 (FM X V A (fun x => some (.int x))) 220 [(0, .ref 0), (1, .int x52), (2, .long x53)] [] s (m_L_removes_j220 x52 x53 s ) := by
  unfold m_L_removes_j220
  refine lx_iconstv (v := 0) hC dL_removes_220 rfl ?_
  exact lx_sub [0, 1, 2] rfl (l_L_removes_j221 hC hE hl hx hr x52 x53 0 s )
set_option maxRecDepth 100000 in
set_option maxHeartbeats 4000000 in
theorem n_L_removes_j220 (x52 : Int32) (x53 : Int64) (s : Mem) : Mn s (m_L_removes_j220 x52 x53 s ) := by
  unfold m_L_removes_j220
  exact n_L_removes_j221 x52 x53 0 s 
set_option maxRecDepth 100000 in
set_option maxHeartbeats 4000000 in
theorem l_L_removes_j98 {X : Cx} {V : Vx} {A : Nat → Prop} {adV : Nat → Nat} {c0 s0 : Nat} (hC : Cok X V A yL_removes.cls cL_removes 17) (hE : Env0 V adV A (xs X) (xs X).heap) (hl : (xl X).stackTraces = false) (hx : ∀ x ∈ (xc X).exceptionTable.toList, False) (hr : (xh X).sig.returnType = some .boolean) (x36 : Int32) (x37 : Int64) (x38 : Int64) (x39 : Int64) (x40 : Int64) (x41 : Int64) (x42 : Int32) (x43 : Int32) (s : Mem) : LX X V A 38 682 c0 s0 (FM X V A (fun x => some (.int x))) 98 [(0, .ref 0), (1, .int x36), (2, .long x37), (4, .long x38), (6, .long x39), (10, .long x40), (12, .long x41)] [.int x42, .int x43] s (m_L_removes_j98 x36 x37 x38 x39 x40 x41 x42 x43 s ) := by
  unfold m_L_removes_j98
  refine lx_icmp_ne hC 115 dL_removes_98 (by decide) ?_ ?_
  · skip
    refine lx_iconstv (v := 0) hC dL_removes_115 rfl ?_
    exact lx_zret hC rfl hr rfl dL_removes_116
  · skip
    refine lx_aload_n hC dL_removes_101 rfl 0 rfl ?_
    refine lx_iload_n hC dL_removes_102 rfl 1 rfl ?_
    refine lx_callWR (as := [.ref 0, .int x36]) (rest := []) hC hE (sat_L_lastHeir (xl X) hl x36 s) (nt_wJ) cw_L_lastHeir ciL wd1419 cs_L_lastHeir cd_L_lastHeir (by decide) (Nat.le_of_ble_eq_true rfl) (Nat.le_of_ble_eq_true rfl) dL_removes_103 rfl (fun v45 s44 _ => ?_)
    refine lx_aload_n hC dL_removes_106 rfl 0 rfl ?_
    refine lx_iload_n hC dL_removes_107 rfl 1 rfl ?_
    refine lx_callWR (as := [.ref 0, .int x36]) (rest := [.long v45]) hC hE (sat_L_lastHeirByDoubling (xl X) hl x36 s44) (nt_wJ) cw_L_lastHeirByDoubling ciL wd1426 cs_L_lastHeirByDoubling cd_L_lastHeirByDoubling (by decide) (Nat.le_of_ble_eq_true rfl) (Nat.le_of_ble_eq_true rfl) dL_removes_108 rfl (fun v47 s46 _ => ?_)
    refine lx_lcmp hC dL_removes_111 ?_
    refine lx_if_eq hC 117 dL_removes_112 (by decide) ?_ ?_
    · skip
      refine lx_aload_n hC dL_removes_117 rfl 0 rfl ?_
      refine lx_iload_n hC dL_removes_118 rfl 1 rfl ?_
      refine lx_callWR (as := [.ref 0, .int x36]) (rest := []) hC hE (sat_L_remove (xl X) hl x36 s46) (nt_wJ) cw_L_remove ciL wd1069 cs_L_remove cd_L_remove (by decide) (Nat.le_of_ble_eq_true rfl) (Nat.le_of_ble_eq_true rfl) dL_removes_119 rfl (fun v49 s48 _ => ?_)
      refine lx_lstore hC dL_removes_122 (by decide) ?_
      refine lx_lload hC dL_removes_124 0 rfl ?_
      refine lx_lconst (v := 0) hC dL_removes_126 (by decide) ?_
      refine lx_lcmp hC dL_removes_127 ?_
      refine lx_if_ge hC 161 dL_removes_128 (by decide) ?_ ?_
      · skip
        refine lx_lload hC dL_removes_161 5 rfl ?_
        refine lx_lconst (v := 0) hC dL_removes_163 (by decide) ?_
        refine lx_lcmp hC dL_removes_164 ?_
        refine lx_if_ge hC 184 dL_removes_165 (by decide) ?_ ?_
        · skip
          refine lx_aload_n hC dL_removes_184 rfl 1 rfl ?_
          refine lx_lload hC dL_removes_185 5 rfl ?_
          refine lx_l2i hC dL_removes_187 ?_
          refine lx_callWR (as := [.ref 0, .int (Int64.toInt32 x39)]) (rest := []) hC hE (sat_L_loudness (xl X) hl (Int64.toInt32 x39) s48) (nt_wJ) cw_L_loudness ciL wd1382 cs_L_loudness cd_L_loudness (by decide) (Nat.le_of_ble_eq_true rfl) (Nat.le_of_ble_eq_true rfl) dL_removes_188 rfl (fun v51 s50 _ => ?_)
          refine lx_lload hC dL_removes_191 6 rfl ?_
          refine lx_lload hC dL_removes_193 4 rfl ?_
          refine lx_ladd hC dL_removes_195 ?_
          refine lx_lload hC dL_removes_196 0 rfl ?_
          refine lx_lsub hC dL_removes_198 ?_
          refine lx_lcmp hC dL_removes_199 ?_
          refine lx_if_ne hC 220 dL_removes_200 (by decide) ?_ ?_
          · skip
            exact lx_sub [1, 2, 3] rfl (l_L_removes_j220 hC hE hl hx hr x36 x37 s50 )
          · skip
            refine lx_aload_n hC dL_removes_203 rfl 1 rfl ?_
            refine lx_lload hC dL_removes_204 5 rfl ?_
            refine lx_l2i hC dL_removes_206 ?_
            refine lx_callWR (as := [.ref 0, .int (Int64.toInt32 x39)]) (rest := []) hC hE (sat_L_bequeathers (xl X) hl (Int64.toInt32 x39) s50) (nt_wJ) cw_L_bequeathers ciL wd1408 cs_L_bequeathers cd_L_bequeathers (by decide) (Nat.le_of_ble_eq_true rfl) (Nat.le_of_ble_eq_true rfl) dL_removes_207 rfl (fun v87 s86 _ => ?_)
            refine lx_lload hC dL_removes_210 7 rfl ?_
            refine lx_lcmp hC dL_removes_212 ?_
            refine lx_if_ne hC 220 dL_removes_213 (by decide) ?_ ?_
            · skip
              exact lx_sub [1, 2, 3] rfl (l_L_removes_j220 hC hE hl hx hr x36 x37 s86 )
            · skip
              refine lx_iconstv (v := 1) hC dL_removes_216 rfl ?_
              refine lx_goto hC 221 dL_removes_217 (by decide) ?_
              exact lx_sub [1, 2, 3] rfl (l_L_removes_j221 hC hE hl hx hr x36 x37 1 s86 )
        · skip
          refine lx_lload hC dL_removes_168 0 rfl ?_
          refine lx_lload hC dL_removes_170 4 rfl ?_
          refine lx_lcmp hC dL_removes_172 ?_
          refine lx_if_ne hC 180 dL_removes_173 (by decide) ?_ ?_
          · skip
            refine lx_iconstv (v := 0) hC dL_removes_180 rfl ?_
            refine lx_goto hC 221 dL_removes_181 (by decide) ?_
            exact lx_sub [1, 2, 3] rfl (l_L_removes_j221 hC hE hl hx hr x36 x37 0 s48 )
          · skip
            refine lx_iconstv (v := 1) hC dL_removes_176 rfl ?_
            refine lx_goto hC 221 dL_removes_177 (by decide) ?_
            exact lx_sub [1, 2, 3] rfl (l_L_removes_j221 hC hE hl hx hr x36 x37 1 s48 )
      · skip
        refine lx_aload_n hC dL_removes_131 rfl 1 rfl ?_
        refine lx_aload_n hC dL_removes_132 rfl 1 rfl ?_
        refine lx_iload_n hC dL_removes_133 rfl 2 rfl ?_
        refine lx_callWR (as := [.ref 0, .int x36]) (rest := [.ref 0]) hC hE (sat_L_rowOf (xl X) hl x36 s48) (nt_wJ) cw_L_rowOf ciL wd1356 cs_L_rowOf cd_L_rowOf (by decide) (Nat.le_of_ble_eq_true rfl) (Nat.le_of_ble_eq_true rfl) dL_removes_134 rfl (fun v100 s99 _ => ?_)
        refine lx_l2i hC dL_removes_137 ?_
        refine lx_callWR (as := [.ref 0, .int (Int64.toInt32 v100)]) (rest := []) hC hE (sat_L_isLocked (xl X) hl (Int64.toInt32 v100) s99) (nt_wZ) cw_L_isLocked ciL wd1311 cs_L_isLocked cd_L_isLocked (by decide) (Nat.le_of_ble_eq_true rfl) (Nat.le_of_ble_eq_true rfl) dL_removes_138 rfl (fun v102 s101 _ => ?_)
        refine lx_lconst (v := 1) hC dL_removes_141 (by decide) ?_
        refine lx_lcmp hC dL_removes_142 ?_
        refine lx_if_ne hC 159 dL_removes_143 (by decide) ?_ ?_
        · skip
          refine lx_iconstv (v := 0) hC dL_removes_159 rfl ?_
          exact lx_zret hC rfl hr rfl dL_removes_160
        · skip
          refine lx_aload_n hC dL_removes_146 rfl 1 rfl ?_
          refine lx_callX hC hx (sat_L_mark (xl X) hl s101) (run_S (as := [.ref 0]) (rest := []) hC hE cw_L_mark ci_L_mark wd646 cs_L_mark cd_L_mark (by decide) (by decide) (Nat.le_of_ble_eq_true rfl) dL_removes_147 rfl) (fun v103 s104 _ => ?_)
          refine lx_lload_n hC dL_removes_150 rfl 3 rfl ?_
          refine lx_lcmp hC dL_removes_151 ?_
          refine lx_if_ne hC 159 dL_removes_152 (by decide) ?_ ?_
          · skip
            refine lx_iconstv (v := 0) hC dL_removes_159 rfl ?_
            exact lx_zret hC rfl hr rfl dL_removes_160
          · skip
            refine lx_iconstv (v := 1) hC dL_removes_155 rfl ?_
            refine lx_goto hC 160 dL_removes_156 (by decide) ?_
            exact lx_zret hC rfl hr rfl dL_removes_160
    · skip
      refine lx_iconstv (v := 0) hC dL_removes_115 rfl ?_
      exact lx_zret hC rfl hr rfl dL_removes_116
set_option maxRecDepth 100000 in
set_option maxHeartbeats 4000000 in
theorem n_L_removes_j98 (x36 : Int32) (x37 : Int64) (x38 : Int64) (x39 : Int64) (x40 : Int64) (x41 : Int64) (x42 : Int32) (x43 : Int32) (s : Mem) : Mn s (m_L_removes_j98 x36 x37 x38 x39 x40 x41 x42 x43 s ) := by
  unfold m_L_removes_j98
  refine mn_if ?_ ?_
  · skip
    exact mn_some
  · skip
    refine mn_bind (n_L_lastHeir x36 s) (fun v45 s44 => ?_)
    refine mn_bind (n_L_lastHeirByDoubling x36 s44) (fun v47 s46 => ?_)
    refine mn_if ?_ ?_
    · skip
      refine mn_bind (n_L_remove x36 s46) (fun v49 s48 => ?_)
      refine mn_if ?_ ?_
      · skip
        refine mn_if ?_ ?_
        · skip
          refine mn_bind (n_L_loudness (Int64.toInt32 x39) s48) (fun v51 s50 => ?_)
          refine mn_if ?_ ?_
          · skip
            exact n_L_removes_j220 x36 x37 s50 
          · skip
            refine mn_bind (n_L_bequeathers (Int64.toInt32 x39) s50) (fun v87 s86 => ?_)
            refine mn_if ?_ ?_
            · skip
              exact n_L_removes_j220 x36 x37 s86 
            · skip
              exact n_L_removes_j221 x36 x37 1 s86 
        · skip
          refine mn_if ?_ ?_
          · skip
            exact n_L_removes_j221 x36 x37 0 s48 
          · skip
            exact n_L_removes_j221 x36 x37 1 s48 
      · skip
        refine mn_bind (n_L_rowOf x36 s48) (fun v100 s99 => ?_)
        refine mn_bind (n_L_isLocked (Int64.toInt32 v100) s99) (fun v102 s101 => ?_)
        refine mn_if ?_ ?_
        · skip
          exact mn_some
        · skip
          refine mn_bind (n_L_mark s101) (fun v103 s104 => ?_)
          refine mn_if ?_ ?_
          · skip
            exact mn_some
          · skip
            exact mn_some
    · skip
      exact mn_some
set_option maxRecDepth 100000 in
set_option maxHeartbeats 4000000 in
theorem l_L_removes_j86 {X : Cx} {V : Vx} {A : Nat → Prop} {adV : Nat → Nat} {c0 s0 : Nat} (hC : Cok X V A yL_removes.cls cL_removes 17) (hE : Env0 V adV A (xs X) (xs X).heap) (hl : (xl X).stackTraces = false) (hx : ∀ x ∈ (xc X).exceptionTable.toList, False) (hr : (xh X).sig.returnType = some .boolean) (x28 : Int32) (x29 : Int64) (x30 : Int64) (x31 : Int64) (x32 : Int64) (x33 : Int64) (x34 : Int64) (x35 : Int32) (s : Mem) : LX X V A 38 682 c0 s0 (FM X V A (fun x => some (.int x))) 86 [(0, .ref 0), (1, .int x28), (2, .long x29), (4, .long x30), (6, .long x31), (8, .long x32), (10, .long x33), (12, .long x34)] [.int x35] s (m_L_removes_j86 x28 x29 x30 x31 x32 x33 x34 x35 s ) := by
  unfold m_L_removes_j86
  refine lx_lload hC dL_removes_86 5 rfl ?_
  refine lx_lconst (v := 0) hC dL_removes_88 (by decide) ?_
  refine lx_lcmp hC dL_removes_89 ?_
  refine lx_if_ne hC 97 dL_removes_90 (by decide) ?_ ?_
  · skip
    refine lx_iconstv (v := 0) hC dL_removes_97 rfl ?_
    exact lx_sub [0, 1, 2, 3, 4, 6, 7] rfl (l_L_removes_j98 hC hE hl hx hr x28 x29 x30 x31 x33 x34 0 x35 s )
  · skip
    refine lx_iconstv (v := 1) hC dL_removes_93 rfl ?_
    refine lx_goto hC 98 dL_removes_94 (by decide) ?_
    exact lx_sub [0, 1, 2, 3, 4, 6, 7] rfl (l_L_removes_j98 hC hE hl hx hr x28 x29 x30 x31 x33 x34 1 x35 s )
set_option maxRecDepth 100000 in
set_option maxHeartbeats 4000000 in
theorem n_L_removes_j86 (x28 : Int32) (x29 : Int64) (x30 : Int64) (x31 : Int64) (x32 : Int64) (x33 : Int64) (x34 : Int64) (x35 : Int32) (s : Mem) : Mn s (m_L_removes_j86 x28 x29 x30 x31 x32 x33 x34 x35 s ) := by
  unfold m_L_removes_j86
  refine mn_if ?_ ?_
  · skip
    exact n_L_removes_j98 x28 x29 x30 x31 x33 x34 0 x35 s 
  · skip
    exact n_L_removes_j98 x28 x29 x30 x31 x33 x34 1 x35 s 
set_option maxRecDepth 100000 in
set_option maxHeartbeats 4000000 in
theorem l_L_removes_j72 {X : Cx} {V : Vx} {A : Nat → Prop} {adV : Nat → Nat} {c0 s0 : Nat} (hC : Cok X V A yL_removes.cls cL_removes 17) (hE : Env0 V adV A (xs X) (xs X).heap) (hl : (xl X).stackTraces = false) (hx : ∀ x ∈ (xc X).exceptionTable.toList, False) (hr : (xh X).sig.returnType = some .boolean) (x21 : Int32) (x22 : Int64) (x23 : Int64) (x24 : Int64) (x25 : Int64) (x26 : Int64) (x27 : Int64) (s : Mem) : LX X V A 38 682 c0 s0 (FM X V A (fun x => some (.int x))) 72 [(0, .ref 0), (1, .int x21), (2, .long x22), (4, .long x23), (6, .long x24), (8, .long x25), (10, .long x26)] [.long x27] s (m_L_removes_j72 x21 x22 x23 x24 x25 x26 x27 s ) := by
  unfold m_L_removes_j72
  refine lx_lstore hC dL_removes_72 (by decide) ?_
  refine lx_lload hC dL_removes_74 5 rfl ?_
  refine lx_lconst (v := 0) hC dL_removes_76 (by decide) ?_
  refine lx_lcmp hC dL_removes_77 ?_
  refine lx_if_ge hC 85 dL_removes_78 (by decide) ?_ ?_
  · skip
    refine lx_iconstv (v := 0) hC dL_removes_85 rfl ?_
    exact lx_sub [1, 2, 3, 4, 5, 6, 7, 0] rfl (l_L_removes_j86 hC hE hl hx hr x21 x22 x23 x24 x25 x26 x27 0 s )
  · skip
    refine lx_iconstv (v := 1) hC dL_removes_81 rfl ?_
    refine lx_goto hC 86 dL_removes_82 (by decide) ?_
    exact lx_sub [1, 2, 3, 4, 5, 6, 7, 0] rfl (l_L_removes_j86 hC hE hl hx hr x21 x22 x23 x24 x25 x26 x27 1 s )
set_option maxRecDepth 100000 in
set_option maxHeartbeats 4000000 in
theorem n_L_removes_j72 (x21 : Int32) (x22 : Int64) (x23 : Int64) (x24 : Int64) (x25 : Int64) (x26 : Int64) (x27 : Int64) (s : Mem) : Mn s (m_L_removes_j72 x21 x22 x23 x24 x25 x26 x27 s ) := by
  unfold m_L_removes_j72
  refine mn_if ?_ ?_
  · skip
    exact n_L_removes_j86 x21 x22 x23 x24 x25 x26 x27 0 s 
  · skip
    exact n_L_removes_j86 x21 x22 x23 x24 x25 x26 x27 1 s 
set_option maxRecDepth 100000 in
set_option maxHeartbeats 4000000 in
theorem l_L_removes_j44 {X : Cx} {V : Vx} {A : Nat → Prop} {adV : Nat → Nat} {c0 s0 : Nat} (hC : Cok X V A yL_removes.cls cL_removes 17) (hE : Env0 V adV A (xs X) (xs X).heap) (hl : (xl X).stackTraces = false) (hx : ∀ x ∈ (xc X).exceptionTable.toList, False) (hr : (xh X).sig.returnType = some .boolean) (x11 : Int32) (x12 : Int64) (x13 : Int64) (x14 : Int64) (x15 : Int64) (x16 : Int64) (s : Mem) : LX X V A 38 682 c0 s0 (FM X V A (fun x => some (.int x))) 44 [(0, .ref 0), (1, .int x11), (2, .long x12), (4, .long x13), (6, .long x14), (8, .long x15)] [.long x16] s (m_L_removes_j44 x11 x12 x13 x14 x15 x16 s ) := by
  unfold m_L_removes_j44
  refine lx_lstore hC dL_removes_44 (by decide) ?_
  refine lx_lload hC dL_removes_46 5 rfl ?_
  refine lx_lconst (v := 0) hC dL_removes_48 (by decide) ?_
  refine lx_lcmp hC dL_removes_49 ?_
  refine lx_if_ge hC 57 dL_removes_50 (by decide) ?_ ?_
  · skip
    refine lx_aload_n hC dL_removes_57 rfl 1 rfl ?_
    refine lx_lload hC dL_removes_58 5 rfl ?_
    refine lx_l2i hC dL_removes_60 ?_
    refine lx_callWR (as := [.ref 0, .int (Int64.toInt32 x14)]) (rest := []) hC hE (sat_L_bequeathers (xl X) hl (Int64.toInt32 x14) s) (nt_wJ) cw_L_bequeathers ciL wd1408 cs_L_bequeathers cd_L_bequeathers (by decide) (Nat.le_of_ble_eq_true rfl) (Nat.le_of_ble_eq_true rfl) dL_removes_61 rfl (fun v18 s17 _ => ?_)
    refine lx_aload_n hC dL_removes_64 rfl 1 rfl ?_
    refine lx_iload_n hC dL_removes_65 rfl 2 rfl ?_
    refine lx_callWR (as := [.ref 0, .int x11]) (rest := [.long v18]) hC hE (sat_L_bequeathers (xl X) hl x11 s17) (nt_wJ) cw_L_bequeathers ciL wd1408 cs_L_bequeathers cd_L_bequeathers (by decide) (Nat.le_of_ble_eq_true rfl) (Nat.le_of_ble_eq_true rfl) dL_removes_66 rfl (fun v20 s19 _ => ?_)
    refine lx_ladd hC dL_removes_69 ?_
    refine lx_lconst (v := 1) hC dL_removes_70 (by decide) ?_
    refine lx_lsub hC dL_removes_71 ?_
    exact lx_sub [1, 2, 3, 4, 5, 6, 0] rfl (l_L_removes_j72 hC hE hl hx hr x11 x12 x13 x14 x15 x16 ((v18 + v20) - 1) s19 )
  · skip
    refine lx_lconst (v := 0) hC dL_removes_53 (by decide) ?_
    refine lx_goto hC 72 dL_removes_54 (by decide) ?_
    exact lx_sub [1, 2, 3, 4, 5, 6, 0] rfl (l_L_removes_j72 hC hE hl hx hr x11 x12 x13 x14 x15 x16 0 s )
set_option maxRecDepth 100000 in
set_option maxHeartbeats 4000000 in
theorem n_L_removes_j44 (x11 : Int32) (x12 : Int64) (x13 : Int64) (x14 : Int64) (x15 : Int64) (x16 : Int64) (s : Mem) : Mn s (m_L_removes_j44 x11 x12 x13 x14 x15 x16 s ) := by
  unfold m_L_removes_j44
  refine mn_if ?_ ?_
  · skip
    refine mn_bind (n_L_bequeathers (Int64.toInt32 x14) s) (fun v18 s17 => ?_)
    refine mn_bind (n_L_bequeathers x11 s17) (fun v20 s19 => ?_)
    exact n_L_removes_j72 x11 x12 x13 x14 x15 x16 ((v18 + v20) - 1) s19 
  · skip
    exact n_L_removes_j72 x11 x12 x13 x14 x15 x16 0 s 
set_option maxRecDepth 100000 in
set_option maxHeartbeats 4000000 in
theorem n_L_removes (p1 : Int32) (s : Mem) : Mn s (m_L_removes p1 s) := by
  unfold m_L_removes
  refine mn_bind (n_L_mark s) (fun v1 s2 => ?_)
  refine mn_bind (n_L_loudness p1 s2) (fun v4 s3 => ?_)
  refine mn_bind (n_L_heir p1 s3) (fun v6 s5 => ?_)
  refine mn_bind (n_L_stepsToLastHeir p1 s5) (fun v8 s7 => ?_)
  refine mn_if ?_ ?_
  · skip
    refine mn_bind (n_L_loudness (Int64.toInt32 v6) s7) (fun v10 s9 => ?_)
    exact n_L_removes_j44 p1 v1 v4 v6 v8 v10 s9 
  · skip
    exact n_L_removes_j44 p1 v1 v4 v6 v8 0 s7 
set_option maxRecDepth 100000 in
set_option maxHeartbeats 4000000 in
theorem sat_L_removes (l : Launch) (hl : l.stackTraces = false) (p1 : Int32) (s : Mem) : Sat l yL_removes (.code yL_removes cL_removes 17 (some .boolean)) 38 682 (fun x => some (.int x)) [.ref 0, .int p1] s (m_L_removes p1 s) := by
  refine sat_of hl (by decide) (Nat.le_of_ble_eq_true rfl) (fun X V A adV hxl hC hE hx hr => ?_) (n_L_removes p1 s)
  subst hxl
  show LX X V A 38 682 (nC s) (nS s) _ 0 [(0, .ref 0), (1, .int p1)] [] s _
  unfold m_L_removes
  refine lx_aload_n hC dL_removes_0 rfl 0 rfl ?_
  refine lx_callX hC hx (sat_L_mark (xl X) hl s) (run_S (as := [.ref 0]) (rest := []) hC hE cw_L_mark ci_L_mark wd646 cs_L_mark cd_L_mark (by decide) (by decide) (Nat.le_of_ble_eq_true rfl) dL_removes_1 rfl) (fun v1 s2 _ => ?_)
  refine lx_lstore_n hC dL_removes_4 rfl (by decide) ?_
  refine lx_aload_n hC dL_removes_5 rfl 1 rfl ?_
  refine lx_iload_n hC dL_removes_6 rfl 2 rfl ?_
  refine lx_callWR (as := [.ref 0, .int p1]) (rest := []) hC hE (sat_L_loudness (xl X) hl p1 s2) (nt_wJ) cw_L_loudness ciL wd1382 cs_L_loudness cd_L_loudness (by decide) (Nat.le_of_ble_eq_true rfl) (Nat.le_of_ble_eq_true rfl) dL_removes_7 rfl (fun v4 s3 _ => ?_)
  refine lx_lstore hC dL_removes_10 (by decide) ?_
  refine lx_aload_n hC dL_removes_12 rfl 2 rfl ?_
  refine lx_iload_n hC dL_removes_13 rfl 3 rfl ?_
  refine lx_callWR (as := [.ref 0, .int p1]) (rest := []) hC hE (sat_L_heir (xl X) hl p1 s3) (nt_wJ) cw_L_heir ciL wd1389 cs_L_heir cd_L_heir (by decide) (Nat.le_of_ble_eq_true rfl) (Nat.le_of_ble_eq_true rfl) dL_removes_14 rfl (fun v6 s5 _ => ?_)
  refine lx_lstore hC dL_removes_17 (by decide) ?_
  refine lx_aload_n hC dL_removes_19 rfl 3 rfl ?_
  refine lx_iload_n hC dL_removes_20 rfl 4 rfl ?_
  refine lx_callWR (as := [.ref 0, .int p1]) (rest := []) hC hE (sat_L_stepsToLastHeir (xl X) hl p1 s5) (nt_wJ) cw_L_stepsToLastHeir ciL wd1397 cs_L_stepsToLastHeir cd_L_stepsToLastHeir (by decide) (Nat.le_of_ble_eq_true rfl) (Nat.le_of_ble_eq_true rfl) dL_removes_21 rfl (fun v8 s7 _ => ?_)
  refine lx_lstore hC dL_removes_24 (by decide) ?_
  refine lx_lload hC dL_removes_26 1 rfl ?_
  refine lx_lconst (v := 0) hC dL_removes_28 (by decide) ?_
  refine lx_lcmp hC dL_removes_29 ?_
  refine lx_if_ge hC 37 dL_removes_30 (by decide) ?_ ?_
  · skip
    refine lx_aload_n hC dL_removes_37 rfl 4 rfl ?_
    refine lx_lload hC dL_removes_38 1 rfl ?_
    refine lx_l2i hC dL_removes_40 ?_
    refine lx_callWR (as := [.ref 0, .int (Int64.toInt32 v6)]) (rest := []) hC hE (sat_L_loudness (xl X) hl (Int64.toInt32 v6) s7) (nt_wJ) cw_L_loudness ciL wd1382 cs_L_loudness cd_L_loudness (by decide) (Nat.le_of_ble_eq_true rfl) (Nat.le_of_ble_eq_true rfl) dL_removes_41 rfl (fun v10 s9 _ => ?_)
    exact lx_sub [4, 5, 3, 2, 1, 0] rfl (l_L_removes_j44 hC hE hl hx hr p1 v1 v4 v6 v8 v10 s9 )
  · skip
    refine lx_lconst (v := 0) hC dL_removes_33 (by decide) ?_
    refine lx_goto hC 44 dL_removes_34 (by decide) ?_
    exact lx_sub [4, 5, 3, 2, 1, 0] rfl (l_L_removes_j44 hC hE hl hx hr p1 v1 v4 v6 v8 0 s7 )
set_option maxRecDepth 100000 in
set_option maxHeartbeats 4000000 in
theorem l_L_fits_b37 {X : Cx} {V : Vx} {A : Nat → Prop} {adV : Nat → Nat} {c0 s0 : Nat} (hC : Cok X V A yL_fits.cls cL_fits 4) (hE : Env0 V adV A (xs X) (xs X).heap) (hl : (xl X).stackTraces = false) (hx : ∀ x ∈ (xc X).exceptionTable.toList, False) (hr : (xh X).sig.returnType = some .boolean) (x5 : Int32) (s : Mem) (kf37 : (Int32 × Mem) → Res Int32) (hk37 : ∀ a, LX X V A 39 718 c0 s0 (FM X V A (fun x => some (.int x))) 37 [(0, .ref 0), (1, .int x5), (2, .int a.1)] [] a.2 (kf37 a)) (w2 : Int32) : LX X V A 39 718 c0 s0 (FM X V A (fun x => some (.int x))) 37 [(0, .ref 0), (1, .int x5), (2, .int w2)] [] s (m_L_fits_b37 x5 s kf37 w2 ) := by
  unfold m_L_fits_b37
  refine lx_iload_n hC dL_fits_37 rfl 2 rfl ?_
  refine lx_aload_n hC dL_fits_38 rfl 0 rfl ?_
  refine lx_callP hC hx (sat_X7_echoCount (xl X) hl s) (run_V (as := []) (rest := [.int w2]) hC hE ly0 rfl cw_X7_echoCount ci_X7_echoCount wd278 cs_X7_echoCount ce_X7_echoCount cd_X7_echoCount (by decide) (by decide) (Nat.le_of_ble_eq_true rfl) dL_fits_39 rfl) (fun v6 _ => ?_)
  refine lx_icmp_ge hC 112 dL_fits_42 (by decide) ?_ ?_
  · skip
    refine lx_iload_n hC dL_fits_112 rfl 1 rfl ?_
    refine lx_aload_n hC dL_fits_113 rfl 0 rfl ?_
    refine lx_callP hC hx (sat_X7_rowCount (xl X) hl s) (run_V (as := []) (rest := [.int x5]) hC hE ly0 rfl cw_X7_rowCount ci_X7_rowCount wd670 cs_X7_rowCount ce_X7_rowCount cd_X7_rowCount (by decide) (by decide) (Nat.le_of_ble_eq_true rfl) dL_fits_114 rfl) (fun v7 _ => ?_)
    refine lx_callP hC hx (sat_L_chosen (xl X) hl x5 v7 s) (run_S (as := [.int x5, .int v7]) (rest := []) hC hE cw_L_chosen ci_L_chosen wd642 cs_L_chosen cd_L_chosen (by decide) (by decide) (Nat.le_of_ble_eq_true rfl) dL_fits_117 rfl) (fun v8 _ => ?_)
    refine lx_istore_n hC dL_fits_120 rfl (by decide) ?_
    refine lx_aload_n hC dL_fits_121 rfl 1 rfl ?_
    refine lx_callP hC hx (sat_X7_rowCount (xl X) hl s) (run_V (as := []) (rest := []) hC hE ly0 rfl cw_X7_rowCount ci_X7_rowCount wd670 cs_X7_rowCount ce_X7_rowCount cd_X7_rowCount (by decide) (by decide) (Nat.le_of_ble_eq_true rfl) dL_fits_122 rfl) (fun v9 _ => ?_)
    refine lx_iconstv (v := 1) hC dL_fits_125 rfl ?_
    refine lx_isub hC dL_fits_126 ?_
    refine lx_istore_nN hC dL_fits_127 rfl (by decide) (fun y10 => ?_)
    refine lx_aload_n hC dL_fits_128 rfl 2 rfl ?_
    refine lx_iload_n hC dL_fits_129 rfl 1 rfl ?_
    refine lx_iload_n hC dL_fits_130 rfl 0 rfl ?_
    refine lx_callWR (as := [.ref 0, .int v8, .int y10]) (rest := []) hC hE (sat_L_countInRows (xl X) hl v8 y10 s) (nt_wJ) cw_L_countInRows ciL wd1441 cs_L_countInRows cd_L_countInRows (by decide) (Nat.le_of_ble_eq_true rfl) (Nat.le_of_ble_eq_true rfl) dL_fits_131 rfl (fun v12 s11 _ => ?_)
    refine lx_aload_n hC dL_fits_134 rfl 2 rfl ?_
    refine lx_iload_n hC dL_fits_135 rfl 1 rfl ?_
    refine lx_iload_n hC dL_fits_136 rfl 0 rfl ?_
    refine lx_callWR (as := [.ref 0, .int v8, .int y10]) (rest := [.long v12]) hC hE (sat_L_countInRowsByTree (xl X) hl v8 y10 s11) (nt_wJ) cw_L_countInRowsByTree ciL wd1453 cs_L_countInRowsByTree cd_L_countInRowsByTree (by decide) (Nat.le_of_ble_eq_true rfl) (Nat.le_of_ble_eq_true rfl) dL_fits_137 rfl (fun v14 s13 _ => ?_)
    refine lx_lcmp hC dL_fits_140 ?_
    refine lx_if_ne hC 178 dL_fits_141 (by decide) ?_ ?_
    · skip
      refine lx_iconstv (v := 0) hC dL_fits_178 rfl ?_
      exact lx_zret hC rfl hr rfl dL_fits_179
    · skip
      refine lx_aload_n hC dL_fits_144 rfl 2 rfl ?_
      refine lx_callP hC hx (sat_X7_echoCount (xl X) hl s13) (run_V (as := []) (rest := []) hC hE ly0 rfl cw_X7_echoCount ci_X7_echoCount wd278 cs_X7_echoCount ce_X7_echoCount cd_X7_echoCount (by decide) (by decide) (Nat.le_of_ble_eq_true rfl) dL_fits_145 rfl) (fun v15 _ => ?_)
      refine lx_if_eq hC 174 dL_fits_148 (by decide) ?_ ?_
      · skip
        refine lx_iconstv (v := 1) hC dL_fits_174 rfl ?_
        refine lx_goto hC 179 dL_fits_175 (by decide) ?_
        exact lx_zret hC rfl hr rfl dL_fits_179
      · skip
        refine lx_aload_n hC dL_fits_151 rfl 2 rfl ?_
        refine lx_aload_n hC dL_fits_152 rfl 2 rfl ?_
        refine lx_callWR (as := [.ref 0]) (rest := [.ref 0]) hC hE (sat_L_loudest (xl X) hl s13) (nt_wJ) cw_L_loudest ciL wd1460 cs_L_loudest cd_L_loudest (by decide) (Nat.le_of_ble_eq_true rfl) (Nat.le_of_ble_eq_true rfl) dL_fits_153 rfl (fun v17 s16 _ => ?_)
        refine lx_l2i hC dL_fits_156 ?_
        refine lx_callWR (as := [.ref 0, .int (Int64.toInt32 v17)]) (rest := []) hC hE (sat_L_loudness (xl X) hl (Int64.toInt32 v17) s16) (nt_wJ) cw_L_loudness ciL wd1382 cs_L_loudness cd_L_loudness (by decide) (Nat.le_of_ble_eq_true rfl) (Nat.le_of_ble_eq_true rfl) dL_fits_157 rfl (fun v19 s18 _ => ?_)
        refine lx_aload_n hC dL_fits_160 rfl 2 rfl ?_
        refine lx_aload_n hC dL_fits_161 rfl 2 rfl ?_
        refine lx_iconstv (v := 0) hC dL_fits_162 rfl ?_
        refine lx_callWR (as := [.ref 0, .int 0]) (rest := [.ref 0, .long v19]) hC hE (sat_L_idByRank (xl X) hl 0 s18) (nt_wJ) cw_L_idByRank ciL wd1000 cs_L_idByRank cd_L_idByRank (by decide) (Nat.le_of_ble_eq_true rfl) (Nat.le_of_ble_eq_true rfl) dL_fits_163 rfl (fun v21 s20 _ => ?_)
        refine lx_l2i hC dL_fits_166 ?_
        refine lx_callWR (as := [.ref 0, .int (Int64.toInt32 v21)]) (rest := [.long v19]) hC hE (sat_L_loudness (xl X) hl (Int64.toInt32 v21) s20) (nt_wJ) cw_L_loudness ciL wd1382 cs_L_loudness cd_L_loudness (by decide) (Nat.le_of_ble_eq_true rfl) (Nat.le_of_ble_eq_true rfl) dL_fits_167 rfl (fun v23 s22 _ => ?_)
        refine lx_lcmp hC dL_fits_170 ?_
        refine lx_if_lt hC 178 dL_fits_171 (by decide) ?_ ?_
        · skip
          refine lx_iconstv (v := 0) hC dL_fits_178 rfl ?_
          exact lx_zret hC rfl hr rfl dL_fits_179
        · skip
          refine lx_iconstv (v := 1) hC dL_fits_174 rfl ?_
          refine lx_goto hC 179 dL_fits_175 (by decide) ?_
          exact lx_zret hC rfl hr rfl dL_fits_179
  · skip
    refine lx_aload_n hC dL_fits_45 rfl 0 rfl ?_
    refine lx_iload_n hC dL_fits_46 rfl 2 rfl ?_
    refine lx_callWR (as := [.ref 0, .int w2]) (rest := []) hC hE (sat_L_idByRank (xl X) hl w2 s) (nt_wJ) cw_L_idByRank ciL wd1000 cs_L_idByRank cd_L_idByRank (by decide) (Nat.le_of_ble_eq_true rfl) (Nat.le_of_ble_eq_true rfl) dL_fits_47 rfl (fun v25 s24 _ => ?_)
    refine lx_l2i hC dL_fits_50 ?_
    refine lx_istore_nN hC dL_fits_51 rfl (by decide) (fun y26 => ?_)
    refine lx_aload_n hC dL_fits_52 rfl 1 rfl ?_
    refine lx_iload_n hC dL_fits_53 rfl 3 rfl ?_
    refine lx_callWR (as := [.ref 0, .int w2]) (rest := []) hC hE (sat_L_idByRankByTree (xl X) hl w2 s24) (nt_wJ) cw_L_idByRankByTree ciL wd1333 cs_L_idByRankByTree cd_L_idByRankByTree (by decide) (Nat.le_of_ble_eq_true rfl) (Nat.le_of_ble_eq_true rfl) dL_fits_54 rfl (fun v28 s27 _ => ?_)
    refine lx_iload_n hC dL_fits_57 rfl 0 rfl ?_
    refine lx_i2l hC dL_fits_58 ?_
    refine lx_lcmp hC dL_fits_59 ?_
    refine lx_if_ne hC 104 dL_fits_60 (by decide) ?_ ?_
    · skip
      refine lx_iconstv (v := 0) hC dL_fits_104 rfl ?_
      exact lx_zret hC rfl hr rfl dL_fits_105
    · skip
      refine lx_aload_n hC dL_fits_63 rfl 1 rfl ?_
      refine lx_iload_n hC dL_fits_64 rfl 0 rfl ?_
      refine lx_callWR (as := [.ref 0, .int y26]) (rest := []) hC hE (sat_L_rank (xl X) hl y26 s27) (nt_wJ) cw_L_rank ciL wd1340 cs_L_rank cd_L_rank (by decide) (Nat.le_of_ble_eq_true rfl) (Nat.le_of_ble_eq_true rfl) dL_fits_65 rfl (fun v30 s29 _ => ?_)
      refine lx_iload_n hC dL_fits_68 rfl 3 rfl ?_
      refine lx_i2l hC dL_fits_69 ?_
      refine lx_lcmp hC dL_fits_70 ?_
      refine lx_if_ne hC 104 dL_fits_71 (by decide) ?_ ?_
      · skip
        refine lx_iconstv (v := 0) hC dL_fits_104 rfl ?_
        exact lx_zret hC rfl hr rfl dL_fits_105
      · skip
        refine lx_aload_n hC dL_fits_74 rfl 1 rfl ?_
        refine lx_aload_n hC dL_fits_75 rfl 1 rfl ?_
        refine lx_iload_n hC dL_fits_76 rfl 0 rfl ?_
        refine lx_callWR (as := [.ref 0, .int y26]) (rest := [.ref 0]) hC hE (sat_L_rowOf (xl X) hl y26 s29) (nt_wJ) cw_L_rowOf ciL wd1356 cs_L_rowOf cd_L_rowOf (by decide) (Nat.le_of_ble_eq_true rfl) (Nat.le_of_ble_eq_true rfl) dL_fits_77 rfl (fun v32 s31 _ => ?_)
        refine lx_l2i hC dL_fits_80 ?_
        refine lx_aload_n hC dL_fits_81 rfl 1 rfl ?_
        refine lx_iload_n hC dL_fits_82 rfl 0 rfl ?_
        refine lx_callWR (as := [.ref 0, .int y26]) (rest := [.int (Int64.toInt32 v32), .ref 0]) hC hE (sat_L_positionInRow (xl X) hl y26 s31) (nt_wJ) cw_L_positionInRow ciL wd1363 cs_L_positionInRow cd_L_positionInRow (by decide) (Nat.le_of_ble_eq_true rfl) (Nat.le_of_ble_eq_true rfl) dL_fits_83 rfl (fun v34 s33 _ => ?_)
        refine lx_l2i hC dL_fits_86 ?_
        refine lx_callWR (as := [.ref 0, .int (Int64.toInt32 v32), .int (Int64.toInt32 v34)]) (rest := []) hC hE (sat_L_idInRow (xl X) hl (Int64.toInt32 v32) (Int64.toInt32 v34) s33) (nt_wJ) cw_L_idInRow ciL wd1371 cs_L_idInRow cd_L_idInRow (by decide) (Nat.le_of_ble_eq_true rfl) (Nat.le_of_ble_eq_true rfl) dL_fits_87 rfl (fun v36 s35 _ => ?_)
        refine lx_iload_n hC dL_fits_90 rfl 0 rfl ?_
        refine lx_i2l hC dL_fits_91 ?_
        refine lx_lcmp hC dL_fits_92 ?_
        refine lx_if_ne hC 104 dL_fits_93 (by decide) ?_ ?_
        · skip
          refine lx_iconstv (v := 0) hC dL_fits_104 rfl ?_
          exact lx_zret hC rfl hr rfl dL_fits_105
        · skip
          refine lx_aload_n hC dL_fits_96 rfl 1 rfl ?_
          refine lx_iload_n hC dL_fits_97 rfl 0 rfl ?_
          refine lx_callX hC hx (sat_L_removes (xl X) hl y26 s35) (run_S (as := [.ref 0, .int y26]) (rest := []) hC hE cw_L_removes ci_L_removes wd1379 cs_L_removes cd_L_removes (by decide) (by decide) (Nat.le_of_ble_eq_true rfl) dL_fits_98 rfl) (fun v37 s38 _ => ?_)
          refine lx_if_ne hC 106 dL_fits_101 (by decide) ?_ ?_
          · skip
            refine lx_iincN (v := 1) hC dL_fits_106 3 rfl (by decide) rfl (fun y39 => ?_)
            refine lx_goto hC 37 dL_fits_109 (by decide) ?_
            exact lx_sub [2, 3, 0] rfl (hk37 (y39, s38))
          · skip
            refine lx_iconstv (v := 0) hC dL_fits_104 rfl ?_
            exact lx_zret hC rfl hr rfl dL_fits_105
set_option maxRecDepth 100000 in
set_option maxHeartbeats 4000000 in
theorem n_L_fits_b37 (x5 : Int32) (s : Mem) (kf37 : (Int32 × Mem) → Res Int32) (hm37 : ∀ a, Mn a.2 (kf37 a)) (w2 : Int32) : Mn s (m_L_fits_b37 x5 s kf37 w2 ) := by
  unfold m_L_fits_b37
  refine mn_bindP (fun v6 => ?_)
  refine mn_if ?_ ?_
  · skip
    refine mn_bindP (fun v7 => ?_)
    refine mn_bindP (fun v8 => ?_)
    refine mn_bindP (fun v9 => ?_)
    refine mn_vl (fun y10 => ?_)
    refine mn_bind (n_L_countInRows v8 y10 s) (fun v12 s11 => ?_)
    refine mn_bind (n_L_countInRowsByTree v8 y10 s11) (fun v14 s13 => ?_)
    refine mn_if ?_ ?_
    · skip
      exact mn_some
    · skip
      refine mn_bindP (fun v15 => ?_)
      refine mn_if ?_ ?_
      · skip
        exact mn_some
      · skip
        refine mn_bind (n_L_loudest s13) (fun v17 s16 => ?_)
        refine mn_bind (n_L_loudness (Int64.toInt32 v17) s16) (fun v19 s18 => ?_)
        refine mn_bind (n_L_idByRank 0 s18) (fun v21 s20 => ?_)
        refine mn_bind (n_L_loudness (Int64.toInt32 v21) s20) (fun v23 s22 => ?_)
        refine mn_if ?_ ?_
        · skip
          exact mn_some
        · skip
          exact mn_some
  · skip
    refine mn_bind (n_L_idByRank w2 s) (fun v25 s24 => ?_)
    refine mn_vl (fun y26 => ?_)
    refine mn_bind (n_L_idByRankByTree w2 s24) (fun v28 s27 => ?_)
    refine mn_if ?_ ?_
    · skip
      exact mn_some
    · skip
      refine mn_bind (n_L_rank y26 s27) (fun v30 s29 => ?_)
      refine mn_if ?_ ?_
      · skip
        exact mn_some
      · skip
        refine mn_bind (n_L_rowOf y26 s29) (fun v32 s31 => ?_)
        refine mn_bind (n_L_positionInRow y26 s31) (fun v34 s33 => ?_)
        refine mn_bind (n_L_idInRow (Int64.toInt32 v32) (Int64.toInt32 v34) s33) (fun v36 s35 => ?_)
        refine mn_if ?_ ?_
        · skip
          exact mn_some
        · skip
          refine mn_bind (n_L_removes y26 s35) (fun v37 s38 => ?_)
          refine mn_if ?_ ?_
          · skip
            refine mn_vl (fun y39 => ?_)
            exact hm37 (y39, s38)
          · skip
            exact mn_some
set_option maxRecDepth 100000 in
set_option maxHeartbeats 4000000 in
theorem l_L_fits_b11 {X : Cx} {V : Vx} {A : Nat → Prop} {adV : Nat → Nat} {c0 s0 : Nat} (hC : Cok X V A yL_fits.cls cL_fits 4) (hE : Env0 V adV A (xs X) (xs X).heap) (hl : (xl X).stackTraces = false) (hx : ∀ x ∈ (xc X).exceptionTable.toList, False) (hr : (xh X).sig.returnType = some .boolean) (x3 : Int32) (s : Mem) (kf11 : (Int32 × Mem) → Res Int32) (hk11 : ∀ a, LX X V A 39 718 c0 s0 (FM X V A (fun x => some (.int x))) 11 [(0, .ref 0), (1, .int x3), (2, .int a.1)] [] a.2 (kf11 a)) (w2 : Int32) : LX X V A 39 718 c0 s0 (FM X V A (fun x => some (.int x))) 11 [(0, .ref 0), (1, .int x3), (2, .int w2)] [] s (m_L_fits_b11 x3 s kf11 w2 ) := by
  unfold m_L_fits_b11
  refine lx_iload_n hC dL_fits_11 rfl 2 rfl ?_
  refine lx_aload_n hC dL_fits_12 rfl 0 rfl ?_
  refine lx_callP hC hx (sat_X7_rowCount (xl X) hl s) (run_V (as := []) (rest := [.int w2]) hC hE ly0 rfl cw_X7_rowCount ci_X7_rowCount wd670 cs_X7_rowCount ce_X7_rowCount cd_X7_rowCount (by decide) (by decide) (Nat.le_of_ble_eq_true rfl) dL_fits_13 rfl) (fun v4 _ => ?_)
  refine lx_icmp_ge hC 35 dL_fits_16 (by decide) ?_ ?_
  · skip
    refine lx_iconstv (v := 0) hC dL_fits_35 rfl ?_
    refine lx_istore_n hC dL_fits_36 rfl (by decide) ?_
    refine lx_sub [1, 2, 0] rfl ?_
    exact lx_lp (lv := fun a => [(0, .ref 0), (1, .int x3), (2, .int a.1)]) (st := fun _ => []) (sg := fun a => a.2) (fun kf hq a => l_L_fits_b37 hC hE hl hx hr x3 a.2 kf hq a.1) FUEL (0, s)
  · skip
    refine lx_aload_n hC dL_fits_19 rfl 0 rfl ?_
    refine lx_iload_n hC dL_fits_20 rfl 2 rfl ?_
    refine lx_callX hC hx (sat_L_spreads (xl X) hl w2 s) (run_S (as := [.ref 0, .int w2]) (rest := []) hC hE cw_L_spreads ci_L_spreads wd1301 cs_L_spreads cd_L_spreads (by decide) (by decide) (Nat.le_of_ble_eq_true rfl) dL_fits_21 rfl) (fun v40 s41 _ => ?_)
    refine lx_if_ne hC 29 dL_fits_24 (by decide) ?_ ?_
    · skip
      refine lx_iincN (v := 1) hC dL_fits_29 2 rfl (by decide) rfl (fun y42 => ?_)
      refine lx_goto hC 11 dL_fits_32 (by decide) ?_
      exact lx_sub [1, 2, 0] rfl (hk11 (y42, s41))
    · skip
      refine lx_iconstv (v := 0) hC dL_fits_27 rfl ?_
      exact lx_zret hC rfl hr rfl dL_fits_28
set_option maxRecDepth 100000 in
set_option maxHeartbeats 4000000 in
theorem n_L_fits_b11 (x3 : Int32) (s : Mem) (kf11 : (Int32 × Mem) → Res Int32) (hm11 : ∀ a, Mn a.2 (kf11 a)) (w2 : Int32) : Mn s (m_L_fits_b11 x3 s kf11 w2 ) := by
  unfold m_L_fits_b11
  refine mn_bindP (fun v4 => ?_)
  refine mn_if ?_ ?_
  · skip
    exact mn_lp (sg := fun a => a.2) (fun kf hq a => n_L_fits_b37 x3 a.2 kf hq a.1) FUEL (0, s)
  · skip
    refine mn_bind (n_L_spreads w2 s) (fun v40 s41 => ?_)
    refine mn_if ?_ ?_
    · skip
      refine mn_vl (fun y42 => ?_)
      exact hm11 (y42, s41)
    · skip
      exact mn_some
set_option maxRecDepth 100000 in
set_option maxHeartbeats 4000000 in
theorem n_L_fits (p1 : Int32) (s : Mem) : Mn s (m_L_fits p1 s) := by
  unfold m_L_fits
  refine mn_bind (n_X7_isConsistent s) (fun v1 s2 => ?_)
  refine mn_if ?_ ?_
  · skip
    exact mn_lp (sg := fun a => a.2) (fun kf hq a => n_L_fits_b11 p1 a.2 kf hq a.1) FUEL (0, s2)
  · skip
    exact mn_some
set_option maxRecDepth 100000 in
set_option maxHeartbeats 4000000 in
theorem sat_L_fits (l : Launch) (hl : l.stackTraces = false) (p1 : Int32) (s : Mem) : Sat l yL_fits (.code yL_fits cL_fits 4 (some .boolean)) 39 718 (fun x => some (.int x)) [.ref 0, .int p1] s (m_L_fits p1 s) := by
  refine sat_of hl (by decide) (Nat.le_of_ble_eq_true rfl) (fun X V A adV hxl hC hE hx hr => ?_) (n_L_fits p1 s)
  subst hxl
  show LX X V A 39 718 (nC s) (nS s) _ 0 [(0, .ref 0), (1, .int p1)] [] s _
  unfold m_L_fits
  refine lx_aload_n hC dL_fits_0 rfl 0 rfl ?_
  refine lx_callX hC hx (sat_X7_isConsistent (xl X) hl s) (run_V (as := []) (rest := []) hC hE ly0 rfl cw_X7_isConsistent ci_X7_isConsistent wd1232 cs_X7_isConsistent ce_X7_isConsistent cd_X7_isConsistent (by decide) (by decide) (Nat.le_of_ble_eq_true rfl) dL_fits_1 rfl) (fun v1 s2 _ => ?_)
  refine lx_if_ne hC 9 dL_fits_4 (by decide) ?_ ?_
  · skip
    refine lx_iconstv (v := 0) hC dL_fits_9 rfl ?_
    refine lx_istore_n hC dL_fits_10 rfl (by decide) ?_
    refine lx_sub [1, 2, 0] rfl ?_
    exact lx_lp (lv := fun a => [(0, .ref 0), (1, .int p1), (2, .int a.1)]) (st := fun _ => []) (sg := fun a => a.2) (fun kf hq a => l_L_fits_b11 hC hE hl hx hr p1 a.2 kf hq a.1) FUEL (0, s2)
  · skip
    refine lx_iconstv (v := 0) hC dL_fits_7 rfl ?_
    exact lx_zret hC rfl hr rfl dL_fits_8
