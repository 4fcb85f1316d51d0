def m_X8_notNow (s : Mem) : Option Int32 := if ib 0 2 then vl (gI s 1032 0.toNatClampNeg) (fun y1 => if ib 1 2 then vl (gI s 1032 1.toNatClampNeg) (fun y2 => if gI s 8 16 = 98 then (bindO (m_X8_notName y1 y2 s) (fun v4 => some v4)) else if gI s 8 16 = 100 then (bindO (m_X8_notRemovePhantoms y1 y2 s) (fun v6 => some v6)) else if gI s 8 16 = 101 then (bindO (m_X8_notAdd y1 y2 s) (fun v8 => some v8)) else if gI s 8 16 = 104 then (bindO (m_X8_notSetHeir y1 y2 s) (fun v10 => some v10)) else if gI s 8 16 = 108 then (bindO (m_X8_notLock y1 1 s) (fun v12 => some v12)) else if gI s 8 16 = 109 then (bindO (m_X8_notMove y1 y2 s) (fun v14 => some v14)) else if gI s 8 16 = 111 then (bindO (m_X8_notClearHeir y1 s) (fun v16 => some v16)) else if gI s 8 16 = 112 then (bindO (m_X8_notAddPhantoms y1 y2 s) (fun v18 => some v18)) else if gI s 8 16 = 114 then (bindO (m_X8_notAddRow y1 s) (fun v20 => some v20)) else if gI s 8 16 = 117 then (bindO (m_X8_notLock y1 0 s) (fun v22 => some v22)) else if gI s 8 16 = 120 then (bindO (m_X8_notRemove y1 s) (fun v24 => some v24)) else (bindO (m_X8_notSpread y1 s) (fun v26 => some v26))) else none) else none
set_option maxRecDepth 100000 in
set_option maxHeartbeats 2000000 in
theorem sat_X8_notNow (l : Launch) (hl : l.stackTraces = false) (s : Mem) : Sat l yX8_notNow (.code yX8_notNow cX8_notNow 3 (some .int)) 34 590 (fun x => some (.int x)) [.ref 8] s (pur s (m_X8_notNow s)) := by
  refine sat_of hl (by decide) (Nat.le_of_ble_eq_true rfl) (fun X V A adV hxl hC hE hx hr => ?_) pur_mono
  subst hxl
  show LX X V A 34 590 (nC s) (nS s) _ 0 [(0, .ref 8)] [] s _
  unfold m_X8_notNow
  refine lx_aload_n hC dX8_notNow_0 rfl 0 rfl ?_
  refine lx_getR (q := 1032) hC ly8 rfl 15 (by decide) rfl rfl inX8 wd1620 dX8_notNow_1 ?_
  refine lx_iconstv (v := 0) hC dX8_notNow_4 rfl ?_
  refine lq_iaload hC ly1032 dX8_notNow_5 ?_
  refine lq_istore_nN hC dX8_notNow_6 rfl (by decide) (fun y1 => ?_)
  refine lx_aload_n hC dX8_notNow_7 rfl 1 rfl ?_
  refine lx_getR (q := 1032) hC ly8 rfl 15 (by decide) rfl rfl inX8 wd1620 dX8_notNow_8 ?_
  refine lx_iconstv (v := 1) hC dX8_notNow_11 rfl ?_
  refine lq_iaload hC ly1032 dX8_notNow_12 ?_
  refine lq_istore_nN hC dX8_notNow_13 rfl (by decide) (fun y2 => ?_)
  refine lx_aload_n hC dX8_notNow_14 rfl 2 rfl ?_
  refine lx_getI hC ly8 rfl 16 (by decide) rfl inX8 wd1621 dX8_notNow_15 ?_
  refine lq_case (fun h3 => ?_) (fun h3 => ?_)
  · refine lx_tin hC 191 h3 dX8_notNow_18 (by decide) (by decide) rfl (by decide) ?_
    refine lx_aload_n hC dX8_notNow_191 rfl 2 rfl ?_
    refine lx_iload_n hC dX8_notNow_192 rfl 1 rfl ?_
    refine lx_iload_n hC dX8_notNow_193 rfl 0 rfl ?_
    refine lq_call hC hx (sat_X8_notName (xl X) hl y1 y2 s) (run_V (as := [.int y1, .int y2]) (rest := []) hC hE ly8 rfl cw_X8_notName ci_X8_notName wd1844 cs_X8_notName ce_X8_notName cd_X8_notName (by decide) (by decide) (Nat.le_of_ble_eq_true rfl) dX8_notNow_194 rfl) (fun v4 _ => ?_)
    exact lx_iret hC rfl hr dX8_notNow_197
  · skip
    refine lq_case (fun h5 => ?_) (fun h5 => ?_)
    · refine lx_tin hC 137 h5 dX8_notNow_18 (by decide) (by decide) rfl (by decide) ?_
      refine lx_aload_n hC dX8_notNow_137 rfl 2 rfl ?_
      refine lx_iload_n hC dX8_notNow_138 rfl 1 rfl ?_
      refine lx_iload_n hC dX8_notNow_139 rfl 0 rfl ?_
      refine lq_call hC hx (sat_X8_notRemovePhantoms (xl X) hl y1 y2 s) (run_V (as := [.int y1, .int y2]) (rest := []) hC hE ly8 rfl cw_X8_notRemovePhantoms ci_X8_notRemovePhantoms wd1728 cs_X8_notRemovePhantoms ce_X8_notRemovePhantoms cd_X8_notRemovePhantoms (by decide) (by decide) (Nat.le_of_ble_eq_true rfl) dX8_notNow_140 rfl) (fun v6 _ => ?_)
      exact lx_iret hC rfl hr dX8_notNow_143
    · skip
      refine lq_case (fun h7 => ?_) (fun h7 => ?_)
      · refine lx_tin hC 144 h7 dX8_notNow_18 (by decide) (by decide) rfl (by decide) ?_
        refine lx_aload_n hC dX8_notNow_144 rfl 2 rfl ?_
        refine lx_iload_n hC dX8_notNow_145 rfl 1 rfl ?_
        refine lx_iload_n hC dX8_notNow_146 rfl 0 rfl ?_
        refine lq_call hC hx (sat_X8_notAdd (xl X) hl y1 y2 s) (run_V (as := [.int y1, .int y2]) (rest := []) hC hE ly8 rfl cw_X8_notAdd ci_X8_notAdd wd1748 cs_X8_notAdd ce_X8_notAdd cd_X8_notAdd (by decide) (by decide) (Nat.le_of_ble_eq_true rfl) dX8_notNow_147 rfl) (fun v8 _ => ?_)
        exact lx_iret hC rfl hr dX8_notNow_150
      · skip
        refine lq_case (fun h9 => ?_) (fun h9 => ?_)
        · refine lx_tin hC 164 h9 dX8_notNow_18 (by decide) (by decide) rfl (by decide) ?_
          refine lx_aload_n hC dX8_notNow_164 rfl 2 rfl ?_
          refine lx_iload_n hC dX8_notNow_165 rfl 1 rfl ?_
          refine lx_iload_n hC dX8_notNow_166 rfl 0 rfl ?_
          refine lq_call hC hx (sat_X8_notSetHeir (xl X) hl y1 y2 s) (run_V (as := [.int y1, .int y2]) (rest := []) hC hE ly8 rfl cw_X8_notSetHeir ci_X8_notSetHeir wd1796 cs_X8_notSetHeir ce_X8_notSetHeir cd_X8_notSetHeir (by decide) (by decide) (Nat.le_of_ble_eq_true rfl) dX8_notNow_167 rfl) (fun v10 _ => ?_)
          exact lx_iret hC rfl hr dX8_notNow_170
        · skip
          refine lq_case (fun h11 => ?_) (fun h11 => ?_)
          · refine lx_tin hC 177 h11 dX8_notNow_18 (by decide) (by decide) rfl (by decide) ?_
            refine lx_aload_n hC dX8_notNow_177 rfl 2 rfl ?_
            refine lx_iload_n hC dX8_notNow_178 rfl 1 rfl ?_
            refine lx_iconstv (v := 1) hC dX8_notNow_179 rfl ?_
            refine lq_call hC hx (sat_X8_notLock (xl X) hl y1 1 s) (run_V (as := [.int y1, .int 1]) (rest := []) hC hE ly8 rfl cw_X8_notLock ci_X8_notLock wd1824 cs_X8_notLock ce_X8_notLock cd_X8_notLock (by decide) (by decide) (Nat.le_of_ble_eq_true rfl) dX8_notNow_180 rfl) (fun v12 _ => ?_)
            exact lx_iret hC rfl hr dX8_notNow_183
          · skip
            refine lq_case (fun h13 => ?_) (fun h13 => ?_)
            · refine lx_tin hC 151 h13 dX8_notNow_18 (by decide) (by decide) rfl (by decide) ?_
              refine lx_aload_n hC dX8_notNow_151 rfl 2 rfl ?_
              refine lx_iload_n hC dX8_notNow_152 rfl 1 rfl ?_
              refine lx_iload_n hC dX8_notNow_153 rfl 0 rfl ?_
              refine lq_call hC hx (sat_X8_notMove (xl X) hl y1 y2 s) (run_V (as := [.int y1, .int y2]) (rest := []) hC hE ly8 rfl cw_X8_notMove ci_X8_notMove wd1764 cs_X8_notMove ce_X8_notMove cd_X8_notMove (by decide) (by decide) (Nat.le_of_ble_eq_true rfl) dX8_notNow_154 rfl) (fun v14 _ => ?_)
              exact lx_iret hC rfl hr dX8_notNow_157
            · skip
              refine lq_case (fun h15 => ?_) (fun h15 => ?_)
              · refine lx_tin hC 171 h15 dX8_notNow_18 (by decide) (by decide) rfl (by decide) ?_
                refine lx_aload_n hC dX8_notNow_171 rfl 2 rfl ?_
                refine lx_iload_n hC dX8_notNow_172 rfl 1 rfl ?_
                refine lq_call hC hx (sat_X8_notClearHeir (xl X) hl y1 s) (run_V (as := [.int y1]) (rest := []) hC hE ly8 rfl cw_X8_notClearHeir ci_X8_notClearHeir wd1812 cs_X8_notClearHeir ce_X8_notClearHeir cd_X8_notClearHeir (by decide) (by decide) (Nat.le_of_ble_eq_true rfl) dX8_notNow_173 rfl) (fun v16 _ => ?_)
                exact lx_iret hC rfl hr dX8_notNow_176
              · skip
                refine lq_case (fun h17 => ?_) (fun h17 => ?_)
                · refine lx_tin hC 130 h17 dX8_notNow_18 (by decide) (by decide) rfl (by decide) ?_
                  refine lx_aload_n hC dX8_notNow_130 rfl 2 rfl ?_
                  refine lx_iload_n hC dX8_notNow_131 rfl 1 rfl ?_
                  refine lx_iload_n hC dX8_notNow_132 rfl 0 rfl ?_
                  refine lq_call hC hx (sat_X8_notAddPhantoms (xl X) hl y1 y2 s) (run_V (as := [.int y1, .int y2]) (rest := []) hC hE ly8 rfl cw_X8_notAddPhantoms ci_X8_notAddPhantoms wd1704 cs_X8_notAddPhantoms ce_X8_notAddPhantoms cd_X8_notAddPhantoms (by decide) (by decide) (Nat.le_of_ble_eq_true rfl) dX8_notNow_133 rfl) (fun v18 _ => ?_)
                  exact lx_iret hC rfl hr dX8_notNow_136
                · skip
                  refine lq_case (fun h19 => ?_) (fun h19 => ?_)
                  · refine lx_tin hC 124 h19 dX8_notNow_18 (by decide) (by decide) rfl (by decide) ?_
                    refine lx_aload_n hC dX8_notNow_124 rfl 2 rfl ?_
                    refine lx_iload_n hC dX8_notNow_125 rfl 1 rfl ?_
                    refine lq_call hC hx (sat_X8_notAddRow (xl X) hl y1 s) (run_V (as := [.int y1]) (rest := []) hC hE ly8 rfl cw_X8_notAddRow ci_X8_notAddRow wd1669 cs_X8_notAddRow ce_X8_notAddRow cd_X8_notAddRow (by decide) (by decide) (Nat.le_of_ble_eq_true rfl) dX8_notNow_126 rfl) (fun v20 _ => ?_)
                    exact lx_iret hC rfl hr dX8_notNow_129
                  · skip
                    refine lq_case (fun h21 => ?_) (fun h21 => ?_)
                    · refine lx_tin hC 184 h21 dX8_notNow_18 (by decide) (by decide) rfl (by decide) ?_
                      refine lx_aload_n hC dX8_notNow_184 rfl 2 rfl ?_
                      refine lx_iload_n hC dX8_notNow_185 rfl 1 rfl ?_
                      refine lx_iconstv (v := 0) hC dX8_notNow_186 rfl ?_
                      refine lq_call hC hx (sat_X8_notLock (xl X) hl y1 0 s) (run_V (as := [.int y1, .int 0]) (rest := []) hC hE ly8 rfl cw_X8_notLock ci_X8_notLock wd1824 cs_X8_notLock ce_X8_notLock cd_X8_notLock (by decide) (by decide) (Nat.le_of_ble_eq_true rfl) dX8_notNow_187 rfl) (fun v22 _ => ?_)
                      exact lx_iret hC rfl hr dX8_notNow_190
                    · skip
                      refine lq_case (fun h23 => ?_) (fun h23 => ?_)
                      · refine lx_tin hC 158 h23 dX8_notNow_18 (by decide) (by decide) rfl (by decide) ?_
                        refine lx_aload_n hC dX8_notNow_158 rfl 2 rfl ?_
                        refine lx_iload_n hC dX8_notNow_159 rfl 1 rfl ?_
                        refine lq_call hC hx (sat_X8_notRemove (xl X) hl y1 s) (run_V (as := [.int y1]) (rest := []) hC hE ly8 rfl cw_X8_notRemove ci_X8_notRemove wd1780 cs_X8_notRemove ce_X8_notRemove cd_X8_notRemove (by decide) (by decide) (Nat.le_of_ble_eq_true rfl) dX8_notNow_160 rfl) (fun v24 _ => ?_)
                        exact lx_iret hC rfl hr dX8_notNow_163
                      · skip
                        refine lx_tdf hC 198 dX8_notNow_18 (fun z h1 h2 e => ?_) (by decide) ?_
                        · rcases (show z = 98 ∨ z = 99 ∨ z = 100 ∨ z = 101 ∨ z = 102 ∨ z = 103 ∨ z = 104 ∨ z = 105 ∨ z = 106 ∨ z = 107 ∨ z = 108 ∨ z = 109 ∨ z = 110 ∨ z = 111 ∨ z = 112 ∨ z = 113 ∨ z = 114 ∨ z = 115 ∨ z = 116 ∨ z = 117 ∨ z = 118 ∨ z = 119 ∨ z = 120 by omega) with rfl | rfl | rfl | rfl | rfl | rfl | rfl | rfl | rfl | rfl | rfl | rfl | rfl | rfl | rfl | rfl | rfl | rfl | rfl | rfl | rfl | rfl | rfl
                          · exact absurd e (lv_neT h3 (by decide))
                          · rfl
                          · exact absurd e (lv_neT h5 (by decide))
                          · exact absurd e (lv_neT h7 (by decide))
                          · rfl
                          · rfl
                          · exact absurd e (lv_neT h9 (by decide))
                          · rfl
                          · rfl
                          · rfl
                          · exact absurd e (lv_neT h11 (by decide))
                          · exact absurd e (lv_neT h13 (by decide))
                          · rfl
                          · exact absurd e (lv_neT h15 (by decide))
                          · exact absurd e (lv_neT h17 (by decide))
                          · rfl
                          · exact absurd e (lv_neT h19 (by decide))
                          · rfl
                          · rfl
                          · exact absurd e (lv_neT h21 (by decide))
                          · rfl
                          · rfl
                          · exact absurd e (lv_neT h23 (by decide))
                        · skip
                          refine lx_aload_n hC dX8_notNow_198 rfl 2 rfl ?_
                          refine lx_iload_n hC dX8_notNow_199 rfl 1 rfl ?_
                          refine lq_call hC hx (sat_X8_notSpread (xl X) hl y1 s) (run_V (as := [.int y1]) (rest := []) hC hE ly8 rfl cw_X8_notSpread ci_X8_notSpread wd1859 cs_X8_notSpread ce_X8_notSpread cd_X8_notSpread (by decide) (by decide) (Nat.le_of_ble_eq_true rfl) dX8_notNow_200 rfl) (fun v26 _ => ?_)
                          exact lx_iret hC rfl hr dX8_notNow_203
def m_X8_doesNow (s : Mem) : Res Int32 := if ib 0 2 then vl (gI s 1032 0.toNatClampNeg) (fun y1 => if ib 1 2 then vl (gI s 1032 1.toNatClampNeg) (fun y2 => if gI s 8 16 = 98 then (bindR (m_X8_names y1 y2 s) (fun v4 s5 => some (.inl v4, s5))) else if gI s 8 16 = 100 then (bindR (m_X8_changesPhantoms y1 (-y2) s) (fun v7 s8 => some (.inl v7, s8))) else if gI s 8 16 = 101 then (bindR (m_X8_adds y1 y2 s) (fun v10 s11 => some (.inl v10, s11))) else if gI s 8 16 = 104 then (bindR (m_X8_setsHeir y1 y2 s) (fun v13 s14 => some (.inl v13, s14))) else if gI s 8 16 = 108 then (bindR (m_X8_locks y1 1 s) (fun v16 s17 => some (.inl v16, s17))) else if gI s 8 16 = 109 then (bindR (m_X8_moves y1 y2 s) (fun v19 s20 => some (.inl v19, s20))) else if gI s 8 16 = 111 then (bindR (m_X8_setsHeir y1 (-1) s) (fun v22 s23 => some (.inl v22, s23))) else if gI s 8 16 = 112 then (bindR (m_X8_changesPhantoms y1 y2 s) (fun v25 s26 => some (.inl v25, s26))) else if gI s 8 16 = 114 then (bindR (m_X8_addsRow y1 s) (fun v28 s29 => some (.inl v28, s29))) else if gI s 8 16 = 117 then (bindR (m_X8_locks y1 0 s) (fun v31 s32 => some (.inl v31, s32))) else if gI s 8 16 = 120 then (bindR (m_X8_removes y1 s) (fun v34 s35 => some (.inl v34, s35))) else (bindR (m_X8_spreads y1 s) (fun v38 s39 => some (.inl v38, s39)))) else none) else none
set_option maxRecDepth 100000 in
set_option maxHeartbeats 2000000 in
theorem n_X8_doesNow (s : Mem) : Mn s (m_X8_doesNow s) := by
  unfold m_X8_doesNow
  refine mn_if ?_ mn_none
  refine mn_vl (fun y1 => ?_)
  refine mn_if ?_ mn_none
  refine mn_vl (fun y2 => ?_)
  refine mn_if ?_ ?_
  · skip
    refine mn_bind (n_X8_names y1 y2 s) (fun v4 s5 => ?_)
    exact mn_some
  · skip
    refine mn_if ?_ ?_
    · skip
      refine mn_bind (n_X8_changesPhantoms y1 (-y2) s) (fun v7 s8 => ?_)
      exact mn_some
    · skip
      refine mn_if ?_ ?_
      · skip
        refine mn_bind (n_X8_adds y1 y2 s) (fun v10 s11 => ?_)
        exact mn_some
      · skip
        refine mn_if ?_ ?_
        · skip
          refine mn_bind (n_X8_setsHeir y1 y2 s) (fun v13 s14 => ?_)
          exact mn_some
        · skip
          refine mn_if ?_ ?_
          · skip
            refine mn_bind (n_X8_locks y1 1 s) (fun v16 s17 => ?_)
            exact mn_some
          · skip
            refine mn_if ?_ ?_
            · skip
              refine mn_bind (n_X8_moves y1 y2 s) (fun v19 s20 => ?_)
              exact mn_some
            · skip
              refine mn_if ?_ ?_
              · skip
                refine mn_bind (n_X8_setsHeir y1 (-1) s) (fun v22 s23 => ?_)
                exact mn_some
              · skip
                refine mn_if ?_ ?_
                · skip
                  refine mn_bind (n_X8_changesPhantoms y1 y2 s) (fun v25 s26 => ?_)
                  exact mn_some
                · skip
                  refine mn_if ?_ ?_
                  · skip
                    refine mn_bind (n_X8_addsRow y1 s) (fun v28 s29 => ?_)
                    exact mn_some
                  · skip
                    refine mn_if ?_ ?_
                    · skip
                      refine mn_bind (n_X8_locks y1 0 s) (fun v31 s32 => ?_)
                      exact mn_some
                    · skip
                      refine mn_if ?_ ?_
                      · skip
                        refine mn_bind (n_X8_removes y1 s) (fun v34 s35 => ?_)
                        exact mn_some
                      · skip
                          refine mn_bind (n_X8_spreads y1 s) (fun v38 s39 => ?_)
                          exact mn_some
set_option maxRecDepth 100000 in
set_option maxHeartbeats 2000000 in
theorem sat_X8_doesNow (l : Launch) (hl : l.stackTraces = false) (s : Mem) : Sat l yX8_doesNow (.code yX8_doesNow cX8_doesNow 3 (some .int)) 34 590 (fun x => some (.int x)) [.ref 8] s (m_X8_doesNow s) := by
  refine sat_of hl (by decide) (Nat.le_of_ble_eq_true rfl) (fun X V A adV hxl hC hE hx hr => ?_) (n_X8_doesNow s)
  subst hxl
  show LX X V A 34 590 (nC s) (nS s) _ 0 [(0, .ref 8)] [] s _
  unfold m_X8_doesNow
  refine lx_aload_n hC dX8_doesNow_0 rfl 0 rfl ?_
  refine lx_getR (q := 1032) hC ly8 rfl 15 (by decide) rfl rfl inX8 wd1620 dX8_doesNow_1 ?_
  refine lx_iconstv (v := 0) hC dX8_doesNow_4 rfl ?_
  refine lx_iaload hC ly1032 dX8_doesNow_5 ?_
  refine lx_istore_nN hC dX8_doesNow_6 rfl (by decide) (fun y1 => ?_)
  refine lx_aload_n hC dX8_doesNow_7 rfl 1 rfl ?_
  refine lx_getR (q := 1032) hC ly8 rfl 15 (by decide) rfl rfl inX8 wd1620 dX8_doesNow_8 ?_
  refine lx_iconstv (v := 1) hC dX8_doesNow_11 rfl ?_
  refine lx_iaload hC ly1032 dX8_doesNow_12 ?_
  refine lx_istore_nN hC dX8_doesNow_13 rfl (by decide) (fun y2 => ?_)
  refine lx_aload_n hC dX8_doesNow_14 rfl 2 rfl ?_
  refine lx_getI hC ly8 rfl 16 (by decide) rfl inX8 wd1621 dX8_doesNow_15 ?_
  refine lx_case (fun h3 => ?_) (fun h3 => ?_)
  · refine lx_tin hC 193 h3 dX8_doesNow_18 (by decide) (by decide) rfl (by decide) ?_
    refine lx_aload_n hC dX8_doesNow_193 rfl 2 rfl ?_
    refine lx_iload_n hC dX8_doesNow_194 rfl 1 rfl ?_
    refine lx_iload_n hC dX8_doesNow_195 rfl 0 rfl ?_
    refine lx_callX hC hx (sat_X8_names (xl X) hl y1 y2 s) (run_V (as := [.int y1, .int y2]) (rest := []) hC hE ly8 rfl cw_X8_names ci_X8_names wd1851 cs_X8_names ce_X8_names cd_X8_names (by decide) (by decide) (Nat.le_of_ble_eq_true rfl) dX8_doesNow_196 rfl) (fun v4 s5 _ => ?_)
    exact lx_iret hC rfl hr dX8_doesNow_199
  · skip
    refine lx_case (fun h6 => ?_) (fun h6 => ?_)
    · refine lx_tin hC 137 h6 dX8_doesNow_18 (by decide) (by decide) rfl (by decide) ?_
      refine lx_aload_n hC dX8_doesNow_137 rfl 2 rfl ?_
      refine lx_iload_n hC dX8_doesNow_138 rfl 1 rfl ?_
      refine lx_iload_n hC dX8_doesNow_139 rfl 0 rfl ?_
      refine lx_ineg hC dX8_doesNow_140 ?_
      refine lx_callX hC hx (sat_X8_changesPhantoms (xl X) hl y1 (-y2) s) (run_V (as := [.int y1, .int (-y2)]) (rest := []) hC hE ly8 rfl cw_X8_changesPhantoms ci_X8_changesPhantoms wd1720 cs_X8_changesPhantoms ce_X8_changesPhantoms cd_X8_changesPhantoms (by decide) (by decide) (Nat.le_of_ble_eq_true rfl) dX8_doesNow_141 rfl) (fun v7 s8 _ => ?_)
      exact lx_iret hC rfl hr dX8_doesNow_144
    · skip
      refine lx_case (fun h9 => ?_) (fun h9 => ?_)
      · refine lx_tin hC 145 h9 dX8_doesNow_18 (by decide) (by decide) rfl (by decide) ?_
        refine lx_aload_n hC dX8_doesNow_145 rfl 2 rfl ?_
        refine lx_iload_n hC dX8_doesNow_146 rfl 1 rfl ?_
        refine lx_iload_n hC dX8_doesNow_147 rfl 0 rfl ?_
        refine lx_callX hC hx (sat_X8_adds (xl X) hl y1 y2 s) (run_V (as := [.int y1, .int y2]) (rest := []) hC hE ly8 rfl cw_X8_adds ci_X8_adds wd1752 cs_X8_adds ce_X8_adds cd_X8_adds (by decide) (by decide) (Nat.le_of_ble_eq_true rfl) dX8_doesNow_148 rfl) (fun v10 s11 _ => ?_)
        exact lx_iret hC rfl hr dX8_doesNow_151
      · skip
        refine lx_case (fun h12 => ?_) (fun h12 => ?_)
        · refine lx_tin hC 165 h12 dX8_doesNow_18 (by decide) (by decide) rfl (by decide) ?_
          refine lx_aload_n hC dX8_doesNow_165 rfl 2 rfl ?_
          refine lx_iload_n hC dX8_doesNow_166 rfl 1 rfl ?_
          refine lx_iload_n hC dX8_doesNow_167 rfl 0 rfl ?_
          refine lx_callX hC hx (sat_X8_setsHeir (xl X) hl y1 y2 s) (run_V (as := [.int y1, .int y2]) (rest := []) hC hE ly8 rfl cw_X8_setsHeir ci_X8_setsHeir wd1804 cs_X8_setsHeir ce_X8_setsHeir cd_X8_setsHeir (by decide) (by decide) (Nat.le_of_ble_eq_true rfl) dX8_doesNow_168 rfl) (fun v13 s14 _ => ?_)
          exact lx_iret hC rfl hr dX8_doesNow_171
        · skip
          refine lx_case (fun h15 => ?_) (fun h15 => ?_)
          · refine lx_tin hC 179 h15 dX8_doesNow_18 (by decide) (by decide) rfl (by decide) ?_
            refine lx_aload_n hC dX8_doesNow_179 rfl 2 rfl ?_
            refine lx_iload_n hC dX8_doesNow_180 rfl 1 rfl ?_
            refine lx_iconstv (v := 1) hC dX8_doesNow_181 rfl ?_
            refine lx_callX hC hx (sat_X8_locks (xl X) hl y1 1 s) (run_V (as := [.int y1, .int 1]) (rest := []) hC hE ly8 rfl cw_X8_locks ci_X8_locks wd1828 cs_X8_locks ce_X8_locks cd_X8_locks (by decide) (by decide) (Nat.le_of_ble_eq_true rfl) dX8_doesNow_182 rfl) (fun v16 s17 _ => ?_)
            exact lx_iret hC rfl hr dX8_doesNow_185
          · skip
            refine lx_case (fun h18 => ?_) (fun h18 => ?_)
            · refine lx_tin hC 152 h18 dX8_doesNow_18 (by decide) (by decide) rfl (by decide) ?_
              refine lx_aload_n hC dX8_doesNow_152 rfl 2 rfl ?_
              refine lx_iload_n hC dX8_doesNow_153 rfl 1 rfl ?_
              refine lx_iload_n hC dX8_doesNow_154 rfl 0 rfl ?_
              refine lx_callX hC hx (sat_X8_moves (xl X) hl y1 y2 s) (run_V (as := [.int y1, .int y2]) (rest := []) hC hE ly8 rfl cw_X8_moves ci_X8_moves wd1772 cs_X8_moves ce_X8_moves cd_X8_moves (by decide) (by decide) (Nat.le_of_ble_eq_true rfl) dX8_doesNow_155 rfl) (fun v19 s20 _ => ?_)
              exact lx_iret hC rfl hr dX8_doesNow_158
            · skip
              refine lx_case (fun h21 => ?_) (fun h21 => ?_)
              · refine lx_tin hC 172 h21 dX8_doesNow_18 (by decide) (by decide) rfl (by decide) ?_
                refine lx_aload_n hC dX8_doesNow_172 rfl 2 rfl ?_
                refine lx_iload_n hC dX8_doesNow_173 rfl 1 rfl ?_
                refine lx_iconstv (v := (-1)) hC dX8_doesNow_174 rfl ?_
                refine lx_callX hC hx (sat_X8_setsHeir (xl X) hl y1 (-1) s) (run_V (as := [.int y1, .int (-1)]) (rest := []) hC hE ly8 rfl cw_X8_setsHeir ci_X8_setsHeir wd1804 cs_X8_setsHeir ce_X8_setsHeir cd_X8_setsHeir (by decide) (by decide) (Nat.le_of_ble_eq_true rfl) dX8_doesNow_175 rfl) (fun v22 s23 _ => ?_)
                exact lx_iret hC rfl hr dX8_doesNow_178
              · skip
                refine lx_case (fun h24 => ?_) (fun h24 => ?_)
                · refine lx_tin hC 130 h24 dX8_doesNow_18 (by decide) (by decide) rfl (by decide) ?_
                  refine lx_aload_n hC dX8_doesNow_130 rfl 2 rfl ?_
                  refine lx_iload_n hC dX8_doesNow_131 rfl 1 rfl ?_
                  refine lx_iload_n hC dX8_doesNow_132 rfl 0 rfl ?_
                  refine lx_callX hC hx (sat_X8_changesPhantoms (xl X) hl y1 y2 s) (run_V (as := [.int y1, .int y2]) (rest := []) hC hE ly8 rfl cw_X8_changesPhantoms ci_X8_changesPhantoms wd1720 cs_X8_changesPhantoms ce_X8_changesPhantoms cd_X8_changesPhantoms (by decide) (by decide) (Nat.le_of_ble_eq_true rfl) dX8_doesNow_133 rfl) (fun v25 s26 _ => ?_)
                  exact lx_iret hC rfl hr dX8_doesNow_136
                · skip
                  refine lx_case (fun h27 => ?_) (fun h27 => ?_)
                  · refine lx_tin hC 124 h27 dX8_doesNow_18 (by decide) (by decide) rfl (by decide) ?_
                    refine lx_aload_n hC dX8_doesNow_124 rfl 2 rfl ?_
                    refine lx_iload_n hC dX8_doesNow_125 rfl 1 rfl ?_
                    refine lx_callX hC hx (sat_X8_addsRow (xl X) hl y1 s) (run_V (as := [.int y1]) (rest := []) hC hE ly8 rfl cw_X8_addsRow ci_X8_addsRow wd1692 cs_X8_addsRow ce_X8_addsRow cd_X8_addsRow (by decide) (by decide) (Nat.le_of_ble_eq_true rfl) dX8_doesNow_126 rfl) (fun v28 s29 _ => ?_)
                    exact lx_iret hC rfl hr dX8_doesNow_129
                  · skip
                    refine lx_case (fun h30 => ?_) (fun h30 => ?_)
                    · refine lx_tin hC 186 h30 dX8_doesNow_18 (by decide) (by decide) rfl (by decide) ?_
                      refine lx_aload_n hC dX8_doesNow_186 rfl 2 rfl ?_
                      refine lx_iload_n hC dX8_doesNow_187 rfl 1 rfl ?_
                      refine lx_iconstv (v := 0) hC dX8_doesNow_188 rfl ?_
                      refine lx_callX hC hx (sat_X8_locks (xl X) hl y1 0 s) (run_V (as := [.int y1, .int 0]) (rest := []) hC hE ly8 rfl cw_X8_locks ci_X8_locks wd1828 cs_X8_locks ce_X8_locks cd_X8_locks (by decide) (by decide) (Nat.le_of_ble_eq_true rfl) dX8_doesNow_189 rfl) (fun v31 s32 _ => ?_)
                      exact lx_iret hC rfl hr dX8_doesNow_192
                    · skip
                      refine lx_case (fun h33 => ?_) (fun h33 => ?_)
                      · refine lx_tin hC 159 h33 dX8_doesNow_18 (by decide) (by decide) rfl (by decide) ?_
                        refine lx_aload_n hC dX8_doesNow_159 rfl 2 rfl ?_
                        refine lx_iload_n hC dX8_doesNow_160 rfl 1 rfl ?_
                        refine lx_callX hC hx (sat_X8_removes (xl X) hl y1 s) (run_V (as := [.int y1]) (rest := []) hC hE ly8 rfl cw_X8_removes ci_X8_removes wd1784 cs_X8_removes ce_X8_removes cd_X8_removes (by decide) (by decide) (Nat.le_of_ble_eq_true rfl) dX8_doesNow_161 rfl) (fun v34 s35 _ => ?_)
                        exact lx_iret hC rfl hr dX8_doesNow_164
                      · skip
                        refine lx_tdf hC 200 dX8_doesNow_18 (fun z h1 h2 e => ?_) (by decide) ?_
                        · rcases (show z = 98 ∨ z = 99 ∨ z = 100 ∨ z = 101 ∨ z = 102 ∨ z = 103 ∨ z = 104 ∨ z = 105 ∨ z = 106 ∨ z = 107 ∨ z = 108 ∨ z = 109 ∨ z = 110 ∨ z = 111 ∨ z = 112 ∨ z = 113 ∨ z = 114 ∨ z = 115 ∨ z = 116 ∨ z = 117 ∨ z = 118 ∨ z = 119 ∨ z = 120 by omega) with rfl | rfl | rfl | rfl | rfl | rfl | rfl | rfl | rfl | rfl | rfl | rfl | rfl | rfl | rfl | rfl | rfl | rfl | rfl | rfl | rfl | rfl | rfl
                          · exact absurd e (lv_neT h3 (by decide))
                          · rfl
                          · exact absurd e (lv_neT h6 (by decide))
                          · exact absurd e (lv_neT h9 (by decide))
                          · rfl
                          · rfl
                          · exact absurd e (lv_neT h12 (by decide))
                          · rfl
                          · rfl
                          · rfl
                          · exact absurd e (lv_neT h15 (by decide))
                          · exact absurd e (lv_neT h18 (by decide))
                          · rfl
                          · exact absurd e (lv_neT h21 (by decide))
                          · exact absurd e (lv_neT h24 (by decide))
                          · rfl
                          · exact absurd e (lv_neT h27 (by decide))
                          · rfl
                          · rfl
                          · exact absurd e (lv_neT h30 (by decide))
                          · rfl
                          · rfl
                          · exact absurd e (lv_neT h33 (by decide))
                        · skip
                          refine lx_aload_n hC dX8_doesNow_200 rfl 2 rfl ?_
                          refine lx_iload_n hC dX8_doesNow_201 rfl 1 rfl ?_
                          refine lx_callX hC hx (sat_X8_spreads (xl X) hl y1 s) (run_V (as := [.int y1]) (rest := []) hC hE ly8 rfl cw_X8_spreads ci_X8_spreads wd1863 cs_X8_spreads ce_X8_spreads cd_X8_spreads (by decide) (by decide) (Nat.le_of_ble_eq_true rfl) dX8_doesNow_202 rfl) (fun v38 s39 _ => ?_)
                          exact lx_iret hC rfl hr dX8_doesNow_205
def m_X8_doesAll_b12 (s : Mem) (kf12 : (Int32 × Mem) → Res Int32) (w1 : Int32) : Res Int32 := if w1 = 0 then (some (.inl 1, s)) else (bindR (m_X8_readsCommand s) (fun v3 s4 => bindP (m_X8_notNow s4) (fun v5 => if v5 = 0 then (bindR (m_X8_doesNow s4) (fun v6 s7 => vl (pI s7 8 17 ((gI s7 8 17) + 1)) (fun s8 => bindR (m_X8_reads 59 s8) (fun v9 s10 => kf12 (v9, s10))))) else (some (.inl 0, s4)))))
def m_X8_doesAll (s : Mem) : Res Int32 := vl (pI s 8 17 0) (fun s1 => vl (pI s1 8 12 0) (fun s2 => lp (fun kf12 a => m_X8_doesAll_b12 a.2 kf12 a.1) FUEL (1, s2)))
set_option maxRecDepth 100000 in
set_option maxHeartbeats 2000000 in
theorem l_X8_doesAll_b12 {X : Cx} {V : Vx} {A : Nat → Prop} {adV : Nat → Nat} {c0 s0 : Nat} (hC : Cok X V A yX8_doesAll.cls cX8_doesAll 2) (hE : Env0 V adV A (xs X) (xs X).heap) (hl : (xl X).stackTraces = false) (hx : ∀ x ∈ (xc X).exceptionTable.toList, False) (hr : (xh X).sig.returnType = some .boolean) (s : Mem) (kf12 : (Int32 × Mem) → Res Int32) (hk12 : ∀ a, LX X V A 36 625 c0 s0 (FM X V A (fun x => some (.int x))) 12 [(0, .ref 8), (1, .int a.1)] [] a.2 (kf12 a)) (w1 : Int32) : LX X V A 36 625 c0 s0 (FM X V A (fun x => some (.int x))) 12 [(0, .ref 8), (1, .int w1)] [] s (m_X8_doesAll_b12 s kf12 w1 ) := by
  unfold m_X8_doesAll_b12
  refine lx_iload_n hC dX8_doesAll_12 rfl 1 rfl ?_
  refine lx_if_eq hC 55 dX8_doesAll_13 (by decide) ?_ ?_
  · skip
    refine lx_iconstv (v := 1) hC dX8_doesAll_55 rfl ?_
    exact lx_zret hC rfl hr rfl dX8_doesAll_56
  · skip
    refine lx_aload_n hC dX8_doesAll_16 rfl 0 rfl ?_
    refine lx_callX hC hx (sat_X8_readsCommand (xl X) hl s) (run_V (as := []) (rest := []) hC hE ly8 rfl cw_X8_readsCommand ci_X8_readsCommand wd2098 cs_X8_readsCommand ce_X8_readsCommand cd_X8_readsCommand (by decide) (by decide) (Nat.le_of_ble_eq_true rfl) dX8_doesAll_17 rfl) (fun v3 s4 _ => ?_)
    refine lx_pop_int hC dX8_doesAll_20 ?_
    refine lx_aload_n hC dX8_doesAll_21 rfl 0 rfl ?_
    refine lx_callP hC hx (sat_X8_notNow (xl X) hl s4) (run_V (as := []) (rest := []) hC hE ly8 rfl cw_X8_notNow ci_X8_notNow wd2150 cs_X8_notNow ce_X8_notNow cd_X8_notNow (by decide) (by decide) (Nat.le_of_ble_eq_true rfl) dX8_doesAll_22 rfl) (fun v5 _ => ?_)
    refine lx_if_eq hC 30 dX8_doesAll_25 (by decide) ?_ ?_
    · skip
      refine lx_aload_n hC dX8_doesAll_30 rfl 0 rfl ?_
      refine lx_callX hC hx (sat_X8_doesNow (xl X) hl s4) (run_V (as := []) (rest := []) hC hE ly8 rfl cw_X8_doesNow ci_X8_doesNow wd2154 cs_X8_doesNow ce_X8_doesNow cd_X8_doesNow (by decide) (by decide) (Nat.le_of_ble_eq_true rfl) dX8_doesAll_31 rfl) (fun v6 s7 _ => ?_)
      refine lx_pop_int hC dX8_doesAll_34 ?_
      refine lx_aload_n hC dX8_doesAll_35 rfl 0 rfl ?_
      refine lx_dup_ref hC dX8_doesAll_36 ?_
      refine lx_getI hC ly8 rfl 17 (by decide) rfl inX8 wd1622 dX8_doesAll_37 ?_
      refine lx_iconstv (v := 1) hC dX8_doesAll_40 rfl ?_
      refine lx_iadd hC dX8_doesAll_41 ?_
      refine lx_putI hC ly8 rfl 17 (by decide) rfl tyX8 tyX8_ok nmX8 rfl rfl rfl inX8 wd1622 dX8_doesAll_42 (fun s8 => ?_)
      refine lx_aload_n hC dX8_doesAll_45 rfl 0 rfl ?_
      refine lx_bipush (v := 59) hC dX8_doesAll_46 (by decide) ?_
      refine lx_callX hC hx (sat_X8_reads (xl X) hl 59 s8) (run_V (as := [.int 59]) (rest := []) hC hE ly8 rfl cw_X8_reads ci_X8_reads wd2106 cs_X8_reads ce_X8_reads cd_X8_reads (by decide) (by decide) (Nat.le_of_ble_eq_true rfl) dX8_doesAll_48 rfl) (fun v9 s10 _ => ?_)
      refine lx_istore_n hC dX8_doesAll_51 rfl (by decide) ?_
      refine lx_goto hC 12 dX8_doesAll_52 (by decide) ?_
      exact lx_sub [1, 0] rfl (hk12 (v9, s10))
    · skip
      refine lx_iconstv (v := 0) hC dX8_doesAll_28 rfl ?_
      exact lx_zret hC rfl hr rfl dX8_doesAll_29
set_option maxRecDepth 100000 in
set_option maxHeartbeats 2000000 in
theorem n_X8_doesAll_b12 (s : Mem) (kf12 : (Int32 × Mem) → Res Int32) (hm12 : ∀ a, Mn a.2 (kf12 a)) (w1 : Int32) : Mn s (m_X8_doesAll_b12 s kf12 w1 ) := by
  unfold m_X8_doesAll_b12
  refine mn_if ?_ ?_
  · skip
    exact mn_some
  · skip
    refine mn_bind (n_X8_readsCommand s) (fun v3 s4 => ?_)
    refine mn_bindP (fun v5 => ?_)
    refine mn_if ?_ ?_
    · skip
      refine mn_bind (n_X8_doesNow s4) (fun v6 s7 => ?_)
      refine mn_put (fun s8 => ?_)
      refine mn_bind (n_X8_reads 59 s8) (fun v9 s10 => ?_)
      exact hm12 (v9, s10)
    · skip
      exact mn_some
set_option maxRecDepth 100000 in
set_option maxHeartbeats 2000000 in
theorem n_X8_doesAll (s : Mem) : Mn s (m_X8_doesAll s) := by
  unfold m_X8_doesAll
  refine mn_put (fun s1 => ?_)
  refine mn_put (fun s2 => ?_)
  exact mn_lp (sg := fun a => a.2) (fun kf hq a => n_X8_doesAll_b12 a.2 kf hq a.1) FUEL (1, s2)
set_option maxRecDepth 100000 in
set_option maxHeartbeats 2000000 in
theorem sat_X8_doesAll (l : Launch) (hl : l.stackTraces = false) (s : Mem) : Sat l yX8_doesAll (.code yX8_doesAll cX8_doesAll 2 (some .boolean)) 36 625 (fun x => some (.int x)) [.ref 8] s (m_X8_doesAll s) := by
  refine sat_of hl (by decide) (Nat.le_of_ble_eq_true rfl) (fun X V A adV hxl hC hE hx hr => ?_) (n_X8_doesAll s)
  subst hxl
  show LX X V A 36 625 (nC s) (nS s) _ 0 [(0, .ref 8)] [] s _
  unfold m_X8_doesAll
  refine lx_aload_n hC dX8_doesAll_0 rfl 0 rfl ?_
  refine lx_iconstv (v := 0) hC dX8_doesAll_1 rfl ?_
  refine lx_putI hC ly8 rfl 17 (by decide) rfl tyX8 tyX8_ok nmX8 rfl rfl rfl inX8 wd1622 dX8_doesAll_2 (fun s1 => ?_)
  refine lx_aload_n hC dX8_doesAll_5 rfl 0 rfl ?_
  refine lx_iconstv (v := 0) hC dX8_doesAll_6 rfl ?_
  refine lx_putI hC ly8 rfl 12 (by decide) rfl tyX8 tyX8_ok nmX8 rfl rfl rfl inX8 wd1617 dX8_doesAll_7 (fun s2 => ?_)
  refine lx_iconstv (v := 1) hC dX8_doesAll_10 rfl ?_
  refine lx_istore_n hC dX8_doesAll_11 rfl (by decide) ?_
  refine lx_sub [1, 0] rfl ?_
  exact lx_lp (lv := fun a => [(0, .ref 8), (1, .int a.1)]) (st := fun _ => []) (sg := fun a => a.2) (fun kf hq a => l_X8_doesAll_b12 hC hE hl hx hr a.2 kf hq a.1) FUEL (1, s2)
def m_X8_run (s : Mem) : Res Int32 := vl (pI s 8 0 0) (fun s1 => bindR (m_X8_readsAll s1) (fun v2 s3 => if ¬ v2 = 0 then (bindR (m_X8_copies s3) (fun v4 s5 => bindR (m_X8_doesAll s5) (fun v6 s7 => vl (pI s7 8 11 0) (fun s8 => if v6 = 0 then (bindR (m_X8_goesBack s8) (fun v9 s10 => vl (pI s10 8 14 (gI s10 8 17)) (fun s11 => bindR (m_X8_fails 2 s11) (fun v12 s13 => some (.inl v12, s13))))) else (bindR (m_X8_keeps s8) (fun v14 s15 => some (.inl (gI s15 8 17), s15))))))) else (vl (pI s3 8 13 (gI s3 8 12)) (fun s16 => vl (pI s16 8 11 0) (fun s17 => bindR (m_X8_fails 1 s17) (fun v18 s19 => some (.inl v18, s19)))))))
set_option maxRecDepth 100000 in
set_option maxHeartbeats 2000000 in
theorem n_X8_run (s : Mem) : Mn s (m_X8_run s) := by
  unfold m_X8_run
  refine mn_put (fun s1 => ?_)
  refine mn_bind (n_X8_readsAll s1) (fun v2 s3 => ?_)
  refine mn_if ?_ ?_
  · skip
    refine mn_bind (n_X8_copies s3) (fun v4 s5 => ?_)
    refine mn_bind (n_X8_doesAll s5) (fun v6 s7 => ?_)
    refine mn_put (fun s8 => ?_)
    refine mn_if ?_ ?_
    · skip
      refine mn_bind (n_X8_goesBack s8) (fun v9 s10 => ?_)
      refine mn_put (fun s11 => ?_)
      refine mn_bind (n_X8_fails 2 s11) (fun v12 s13 => ?_)
      exact mn_some
    · skip
      refine mn_bind (n_X8_keeps s8) (fun v14 s15 => ?_)
      exact mn_some
  · skip
    refine mn_put (fun s16 => ?_)
    refine mn_put (fun s17 => ?_)
    refine mn_bind (n_X8_fails 1 s17) (fun v18 s19 => ?_)
    exact mn_some
set_option maxRecDepth 100000 in
set_option maxHeartbeats 2000000 in
theorem sat_X8_run (l : Launch) (hl : l.stackTraces = false) (s : Mem) : Sat l yX8_run (.code yX8_run cX8_run 2 (some .int)) 37 646 (fun x => some (.int x)) [.ref 8] s (m_X8_run s) := by
  refine sat_of hl (by decide) (Nat.le_of_ble_eq_true rfl) (fun X V A adV hxl hC hE hx hr => ?_) (n_X8_run s)
  subst hxl
  show LX X V A 37 646 (nC s) (nS s) _ 0 [(0, .ref 8)] [] s _
  unfold m_X8_run
  refine lx_aload_n hC dX8_run_0 rfl 0 rfl ?_
  refine lx_iconstv (v := 0) hC dX8_run_1 rfl ?_
  refine lx_putI hC ly8 rfl 0 (by decide) rfl tyX8 tyX8_ok nmX8 rfl rfl rfl inX8 wd1605 dX8_run_2 (fun s1 => ?_)
  refine lx_aload_n hC dX8_run_5 rfl 0 rfl ?_
  refine lx_callX hC hx (sat_X8_readsAll (xl X) hl s1) (run_V (as := []) (rest := []) hC hE ly8 rfl cw_X8_readsAll ci_X8_readsAll wd2094 cs_X8_readsAll ce_X8_readsAll cd_X8_readsAll (by decide) (by decide) (Nat.le_of_ble_eq_true rfl) dX8_run_6 rfl) (fun v2 s3 _ => ?_)
  refine lx_if_ne hC 31 dX8_run_9 (by decide) ?_ ?_
  · skip
    refine lx_aload_n hC dX8_run_31 rfl 0 rfl ?_
    refine lx_callX hC hx (sat_X8_copies (xl X) hl s3) (run_V (as := []) (rest := []) hC hE ly8 rfl cw_X8_copies ci_X8_copies wd1684 cs_X8_copies ce_X8_copies cd_X8_copies (by decide) (by decide) (Nat.le_of_ble_eq_true rfl) dX8_run_32 rfl) (fun v4 s5 _ => ?_)
    refine lx_aload_n hC dX8_run_35 rfl 0 rfl ?_
    refine lx_callX hC hx (sat_X8_doesAll (xl X) hl s5) (run_V (as := []) (rest := []) hC hE ly8 rfl cw_X8_doesAll ci_X8_doesAll wd2146 cs_X8_doesAll ce_X8_doesAll cd_X8_doesAll (by decide) (by decide) (Nat.le_of_ble_eq_true rfl) dX8_run_36 rfl) (fun v6 s7 _ => ?_)
    refine lx_istore_n hC dX8_run_39 rfl (by decide) ?_
    refine lx_aload_n hC dX8_run_40 rfl 1 rfl ?_
    refine lx_iconstv (v := 0) hC dX8_run_41 rfl ?_
    refine lx_putI hC ly8 rfl 11 (by decide) rfl tyX8 tyX8_ok nmX8 rfl rfl rfl inX8 wd1616 dX8_run_42 (fun s8 => ?_)
    refine lx_iload_n hC dX8_run_45 rfl 0 rfl ?_
    refine lx_if_eq hC 58 dX8_run_46 (by decide) ?_ ?_
    · skip
      refine lx_aload_n hC dX8_run_58 rfl 1 rfl ?_
      refine lx_callX hC hx (sat_X8_goesBack (xl X) hl s8) (run_V (as := []) (rest := []) hC hE ly8 rfl cw_X8_goesBack ci_X8_goesBack wd2158 cs_X8_goesBack ce_X8_goesBack cd_X8_goesBack (by decide) (by decide) (Nat.le_of_ble_eq_true rfl) dX8_run_59 rfl) (fun v9 s10 _ => ?_)
      refine lx_aload_n hC dX8_run_62 rfl 1 rfl ?_
      refine lx_aload_n hC dX8_run_63 rfl 1 rfl ?_
      refine lx_getI hC ly8 rfl 17 (by decide) rfl inX8 wd1622 dX8_run_64 ?_
      refine lx_putI hC ly8 rfl 14 (by decide) rfl tyX8 tyX8_ok nmX8 rfl rfl rfl inX8 wd1619 dX8_run_67 (fun s11 => ?_)
      refine lx_aload_n hC dX8_run_70 rfl 1 rfl ?_
      refine lx_iconstv (v := 2) hC dX8_run_71 rfl ?_
      refine lx_callX hC hx (sat_X8_fails (xl X) hl 2 s11) (run_V (as := [.int 2]) (rest := []) hC hE ly8 rfl cw_X8_fails ci_X8_fails wd1676 cs_X8_fails ce_X8_fails cd_X8_fails (by decide) (by decide) (Nat.le_of_ble_eq_true rfl) dX8_run_72 rfl) (fun v12 s13 _ => ?_)
      exact lx_iret hC rfl hr dX8_run_75
    · skip
      refine lx_aload_n hC dX8_run_49 rfl 1 rfl ?_
      refine lx_callX hC hx (sat_X8_keeps (xl X) hl s8) (run_V (as := []) (rest := []) hC hE ly8 rfl cw_X8_keeps ci_X8_keeps wd1688 cs_X8_keeps ce_X8_keeps cd_X8_keeps (by decide) (by decide) (Nat.le_of_ble_eq_true rfl) dX8_run_50 rfl) (fun v14 s15 _ => ?_)
      refine lx_aload_n hC dX8_run_53 rfl 1 rfl ?_
      refine lx_getI hC ly8 rfl 17 (by decide) rfl inX8 wd1622 dX8_run_54 ?_
      exact lx_iret hC rfl hr dX8_run_57
  · skip
    refine lx_aload_n hC dX8_run_12 rfl 0 rfl ?_
    refine lx_aload_n hC dX8_run_13 rfl 0 rfl ?_
    refine lx_getI hC ly8 rfl 12 (by decide) rfl inX8 wd1617 dX8_run_14 ?_
    refine lx_putI hC ly8 rfl 13 (by decide) rfl tyX8 tyX8_ok nmX8 rfl rfl rfl inX8 wd1618 dX8_run_17 (fun s16 => ?_)
    refine lx_aload_n hC dX8_run_20 rfl 0 rfl ?_
    refine lx_iconstv (v := 0) hC dX8_run_21 rfl ?_
    refine lx_putI hC ly8 rfl 11 (by decide) rfl tyX8 tyX8_ok nmX8 rfl rfl rfl inX8 wd1616 dX8_run_22 (fun s17 => ?_)
    refine lx_aload_n hC dX8_run_25 rfl 0 rfl ?_
    refine lx_iconstv (v := 1) hC dX8_run_26 rfl ?_
    refine lx_callX hC hx (sat_X8_fails (xl X) hl 1 s17) (run_V (as := [.int 1]) (rest := []) hC hE ly8 rfl cw_X8_fails ci_X8_fails wd1676 cs_X8_fails ce_X8_fails cd_X8_fails (by decide) (by decide) (Nat.le_of_ble_eq_true rfl) dX8_run_27 rfl) (fun v18 s19 _ => ?_)
    exact lx_iret hC rfl hr dX8_run_30
def m_X8_errorPosition (s : Mem) : Res Int32 := vl (pI s 8 0 0) (fun s1 => if 0 ≤ gI s1 8 13 then (some (.inl (gI s1 8 13), s1)) else (bindR (m_X8_fails 1 s1) (fun v2 s3 => some (.inl v2, s3))))
set_option maxRecDepth 100000 in
set_option maxHeartbeats 2000000 in
theorem n_X8_errorPosition (s : Mem) : Mn s (m_X8_errorPosition s) := by
  unfold m_X8_errorPosition
  refine mn_put (fun s1 => ?_)
  refine mn_if ?_ ?_
  · skip
    exact mn_some
  · skip
    refine mn_bind (n_X8_fails 1 s1) (fun v2 s3 => ?_)
    exact mn_some
set_option maxRecDepth 100000 in
set_option maxHeartbeats 2000000 in
theorem sat_X8_errorPosition (l : Launch) (hl : l.stackTraces = false) (s : Mem) : Sat l yX8_errorPosition (.code yX8_errorPosition cX8_errorPosition 1 (some .int)) 31 521 (fun x => some (.int x)) [.ref 8] s (m_X8_errorPosition s) := by
  refine sat_of hl (by decide) (Nat.le_of_ble_eq_true rfl) (fun X V A adV hxl hC hE hx hr => ?_) (n_X8_errorPosition s)
  subst hxl
  show LX X V A 31 521 (nC s) (nS s) _ 0 [(0, .ref 8)] [] s _
  unfold m_X8_errorPosition
  refine lx_aload_n hC dX8_errorPosition_0 rfl 0 rfl ?_
  refine lx_iconstv (v := 0) hC dX8_errorPosition_1 rfl ?_
  refine lx_putI hC ly8 rfl 0 (by decide) rfl tyX8 tyX8_ok nmX8 rfl rfl rfl inX8 wd1605 dX8_errorPosition_2 (fun s1 => ?_)
  refine lx_aload_n hC dX8_errorPosition_5 rfl 0 rfl ?_
  refine lx_getI hC ly8 rfl 13 (by decide) rfl inX8 wd1618 dX8_errorPosition_6 ?_
  refine lx_if_ge hC 20 dX8_errorPosition_9 (by decide) ?_ ?_
  · skip
    refine lx_aload_n hC dX8_errorPosition_20 rfl 0 rfl ?_
    refine lx_getI hC ly8 rfl 13 (by decide) rfl inX8 wd1618 dX8_errorPosition_21 ?_
    exact lx_iret hC rfl hr dX8_errorPosition_24
  · skip
    refine lx_aload_n hC dX8_errorPosition_12 rfl 0 rfl ?_
    refine lx_iconstv (v := 1) hC dX8_errorPosition_13 rfl ?_
    refine lx_callX hC hx (sat_X8_fails (xl X) hl 1 s1) (run_V (as := [.int 1]) (rest := []) hC hE ly8 rfl cw_X8_fails ci_X8_fails wd1676 cs_X8_fails ce_X8_fails cd_X8_fails (by decide) (by decide) (Nat.le_of_ble_eq_true rfl) dX8_errorPosition_14 rfl) (fun v2 s3 _ => ?_)
    refine lx_goto hC 24 dX8_errorPosition_17 (by decide) ?_
    exact lx_iret hC rfl hr dX8_errorPosition_24
def m_X8_failedCommand (s : Mem) : Res Int32 := vl (pI s 8 0 0) (fun s1 => if 0 ≤ gI s1 8 14 then (some (.inl (gI s1 8 14), s1)) else (bindR (m_X8_fails 1 s1) (fun v2 s3 => some (.inl v2, s3))))
set_option maxRecDepth 100000 in
set_option maxHeartbeats 2000000 in
theorem n_X8_failedCommand (s : Mem) : Mn s (m_X8_failedCommand s) := by
  unfold m_X8_failedCommand
  refine mn_put (fun s1 => ?_)
  refine mn_if ?_ ?_
  · skip
    exact mn_some
  · skip
    refine mn_bind (n_X8_fails 1 s1) (fun v2 s3 => ?_)
    exact mn_some
set_option maxRecDepth 100000 in
set_option maxHeartbeats 2000000 in
theorem sat_X8_failedCommand (l : Launch) (hl : l.stackTraces = false) (s : Mem) : Sat l yX8_failedCommand (.code yX8_failedCommand cX8_failedCommand 1 (some .int)) 31 521 (fun x => some (.int x)) [.ref 8] s (m_X8_failedCommand s) := by
  refine sat_of hl (by decide) (Nat.le_of_ble_eq_true rfl) (fun X V A adV hxl hC hE hx hr => ?_) (n_X8_failedCommand s)
  subst hxl
  show LX X V A 31 521 (nC s) (nS s) _ 0 [(0, .ref 8)] [] s _
  unfold m_X8_failedCommand
  refine lx_aload_n hC dX8_failedCommand_0 rfl 0 rfl ?_
  refine lx_iconstv (v := 0) hC dX8_failedCommand_1 rfl ?_
  refine lx_putI hC ly8 rfl 0 (by decide) rfl tyX8 tyX8_ok nmX8 rfl rfl rfl inX8 wd1605 dX8_failedCommand_2 (fun s1 => ?_)
  refine lx_aload_n hC dX8_failedCommand_5 rfl 0 rfl ?_
  refine lx_getI hC ly8 rfl 14 (by decide) rfl inX8 wd1619 dX8_failedCommand_6 ?_
  refine lx_if_ge hC 20 dX8_failedCommand_9 (by decide) ?_ ?_
  · skip
    refine lx_aload_n hC dX8_failedCommand_20 rfl 0 rfl ?_
    refine lx_getI hC ly8 rfl 14 (by decide) rfl inX8 wd1619 dX8_failedCommand_21 ?_
    exact lx_iret hC rfl hr dX8_failedCommand_24
  · skip
    refine lx_aload_n hC dX8_failedCommand_12 rfl 0 rfl ?_
    refine lx_iconstv (v := 1) hC dX8_failedCommand_13 rfl ?_
    refine lx_callX hC hx (sat_X8_fails (xl X) hl 1 s1) (run_V (as := [.int 1]) (rest := []) hC hE ly8 rfl cw_X8_fails ci_X8_fails wd1676 cs_X8_fails ce_X8_fails cd_X8_fails (by decide) (by decide) (Nat.le_of_ble_eq_true rfl) dX8_failedCommand_14 rfl) (fun v2 s3 _ => ?_)
    refine lx_goto hC 24 dX8_failedCommand_17 (by decide) ?_
    exact lx_iret hC rfl hr dX8_failedCommand_24
def m_X8_undoableCount (s : Mem) : Res Int32 := vl (pI s 8 0 0) (fun s1 => some (.inl (gI s1 8 5), s1))
set_option maxRecDepth 100000 in
set_option maxHeartbeats 2000000 in
theorem n_X8_undoableCount (s : Mem) : Mn s (m_X8_undoableCount s) := by
  unfold m_X8_undoableCount
  refine mn_put (fun s1 => ?_)
  exact mn_some
set_option maxRecDepth 100000 in
set_option maxHeartbeats 2000000 in
theorem sat_X8_undoableCount (l : Launch) (hl : l.stackTraces = false) (s : Mem) : Sat l yX8_undoableCount (.code yX8_undoableCount cX8_undoableCount 1 (some .int)) 30 500 (fun x => some (.int x)) [.ref 8] s (m_X8_undoableCount s) := by
  refine sat_of hl (by decide) (Nat.le_of_ble_eq_true rfl) (fun X V A adV hxl hC hE hx hr => ?_) (n_X8_undoableCount s)
  subst hxl
  show LX X V A 30 500 (nC s) (nS s) _ 0 [(0, .ref 8)] [] s _
  unfold m_X8_undoableCount
  refine lx_aload_n hC dX8_undoableCount_0 rfl 0 rfl ?_
  refine lx_iconstv (v := 0) hC dX8_undoableCount_1 rfl ?_
  refine lx_putI hC ly8 rfl 0 (by decide) rfl tyX8 tyX8_ok nmX8 rfl rfl rfl inX8 wd1605 dX8_undoableCount_2 (fun s1 => ?_)
  refine lx_aload_n hC dX8_undoableCount_5 rfl 0 rfl ?_
  refine lx_getI hC ly8 rfl 5 (by decide) rfl inX8 wd1610 dX8_undoableCount_6 ?_
  exact lx_iret hC rfl hr dX8_undoableCount_9
def m_X8_undo_b43 (x4 : Int32) (s : Mem) (kf43 : (Int32 × Mem) → Res Int32) (w2 : Int32) : Res Int32 := if 135 ≤ w2 then (some (.inl (gI s 8 5), s)) else (if ib ((135 * x4) + w2) 1080 then if ib w2 135 then vl (pI s 136 w2.toNatClampNeg (gI s 200 ((135 * x4) + w2).toNatClampNeg)) (fun s5 => vl (w2 + 1) (fun y6 => kf43 (y6, s5))) else none else none)
def m_X8_undo (s : Mem) : Res Int32 := vl (pI s 8 0 0) (fun s1 => if ¬ gI s1 8 5 = 0 then (vl (pI s1 8 5 ((gI s1 8 5) - 1)) (fun s2 => vl (((gI s2 8 6) + (gI s2 8 5)) - ((gI s2 8 6) + (gI s2 8 5)) / 8 * 8) (fun y3 => lp (fun kf43 a => m_X8_undo_b43 y3 a.2 kf43 a.1) FUEL (0, s2)))) else (bindR (m_X8_fails 1 s1) (fun v7 s8 => some (.inl v7, s8))))
set_option maxRecDepth 100000 in
set_option maxHeartbeats 2000000 in
theorem l_X8_undo_b43 {X : Cx} {V : Vx} {A : Nat → Prop} {adV : Nat → Nat} {c0 s0 : Nat} (hC : Cok X V A yX8_undo.cls cX8_undo 3) (hE : Env0 V adV A (xs X) (xs X).heap) (hl : (xl X).stackTraces = false) (hx : ∀ x ∈ (xc X).exceptionTable.toList, False) (hr : (xh X).sig.returnType = some .int) (x4 : Int32) (s : Mem) (kf43 : (Int32 × Mem) → Res Int32) (hk43 : ∀ a, LX X V A 31 521 c0 s0 (FM X V A (fun x => some (.int x))) 43 [(0, .ref 8), (1, .int x4), (2, .int a.1)] [] a.2 (kf43 a)) (w2 : Int32) : LX X V A 31 521 c0 s0 (FM X V A (fun x => some (.int x))) 43 [(0, .ref 8), (1, .int x4), (2, .int w2)] [] s (m_X8_undo_b43 x4 s kf43 w2 ) := by
  unfold m_X8_undo_b43
  refine lx_iload_n hC dX8_undo_43 rfl 2 rfl ?_
  refine lx_sipush (v := 135) hC dX8_undo_44 (by decide) ?_
  refine lx_icmp_ge hC 74 dX8_undo_47 (by decide) ?_ ?_
  · skip
    refine lx_aload_n hC dX8_undo_74 rfl 0 rfl ?_
    refine lx_getI hC ly8 rfl 5 (by decide) rfl inX8 wd1610 dX8_undo_75 ?_
    exact lx_iret hC rfl hr dX8_undo_78
  · skip
    refine lx_aload_n hC dX8_undo_50 rfl 0 rfl ?_
    refine lx_getR (q := 136) hC ly8 rfl 1 (by decide) rfl rfl inX8 wd1606 dX8_undo_51 ?_
    refine lx_iload_n hC dX8_undo_54 rfl 2 rfl ?_
    refine lx_aload_n hC dX8_undo_55 rfl 0 rfl ?_
    refine lx_getR (q := 200) hC ly8 rfl 2 (by decide) rfl rfl inX8 wd1607 dX8_undo_56 ?_
    refine lx_sipush (v := 135) hC dX8_undo_59 (by decide) ?_
    refine lx_iload_n hC dX8_undo_62 rfl 1 rfl ?_
    refine lx_imul hC dX8_undo_63 ?_
    refine lx_iload_n hC dX8_undo_64 rfl 2 rfl ?_
    refine lx_iadd hC dX8_undo_65 ?_
    refine lx_iaload hC ly200 dX8_undo_66 ?_
    refine lx_iastore hC ly136 dX8_undo_67 (fun s5 => ?_)
    refine lx_iincN (v := 1) hC dX8_undo_68 2 rfl (by decide) rfl (fun y6 => ?_)
    refine lx_goto hC 43 dX8_undo_71 (by decide) ?_
    exact lx_sub [1, 2, 0] rfl (hk43 (y6, s5))
set_option maxRecDepth 100000 in
set_option maxHeartbeats 2000000 in
theorem n_X8_undo_b43 (x4 : Int32) (s : Mem) (kf43 : (Int32 × Mem) → Res Int32) (hm43 : ∀ a, Mn a.2 (kf43 a)) (w2 : Int32) : Mn s (m_X8_undo_b43 x4 s kf43 w2 ) := by
  unfold m_X8_undo_b43
  refine mn_if ?_ ?_
  · skip
    exact mn_some
  · skip
    refine mn_if ?_ mn_none
    refine mn_if ?_ mn_none
    refine mn_put (fun s5 => ?_)
    refine mn_vl (fun y6 => ?_)
    exact hm43 (y6, s5)
set_option maxRecDepth 100000 in
set_option maxHeartbeats 2000000 in
theorem n_X8_undo (s : Mem) : Mn s (m_X8_undo s) := by
  unfold m_X8_undo
  refine mn_put (fun s1 => ?_)
  refine mn_if ?_ ?_
  · skip
    refine mn_put (fun s2 => ?_)
    refine mn_vl (fun y3 => ?_)
    exact mn_lp (sg := fun a => a.2) (fun kf hq a => n_X8_undo_b43 y3 a.2 kf hq a.1) FUEL (0, s2)
  · skip
    refine mn_bind (n_X8_fails 1 s1) (fun v7 s8 => ?_)
    exact mn_some
set_option maxRecDepth 100000 in
set_option maxHeartbeats 2000000 in
theorem sat_X8_undo (l : Launch) (hl : l.stackTraces = false) (s : Mem) : Sat l yX8_undo (.code yX8_undo cX8_undo 3 (some .int)) 31 521 (fun x => some (.int x)) [.ref 8] s (m_X8_undo s) := by
  refine sat_of hl (by decide) (Nat.le_of_ble_eq_true rfl) (fun X V A adV hxl hC hE hx hr => ?_) (n_X8_undo s)
  subst hxl
  show LX X V A 31 521 (nC s) (nS s) _ 0 [(0, .ref 8)] [] s _
  unfold m_X8_undo
  refine lx_aload_n hC dX8_undo_0 rfl 0 rfl ?_
  refine lx_iconstv (v := 0) hC dX8_undo_1 rfl ?_
  refine lx_putI hC ly8 rfl 0 (by decide) rfl tyX8 tyX8_ok nmX8 rfl rfl rfl inX8 wd1605 dX8_undo_2 (fun s1 => ?_)
  refine lx_aload_n hC dX8_undo_5 rfl 0 rfl ?_
  refine lx_getI hC ly8 rfl 5 (by decide) rfl inX8 wd1610 dX8_undo_6 ?_
  refine lx_if_ne hC 18 dX8_undo_9 (by decide) ?_ ?_
  · skip
    refine lx_aload_n hC dX8_undo_18 rfl 0 rfl ?_
    refine lx_dup_ref hC dX8_undo_19 ?_
    refine lx_getI hC ly8 rfl 5 (by decide) rfl inX8 wd1610 dX8_undo_20 ?_
    refine lx_iconstv (v := 1) hC dX8_undo_23 rfl ?_
    refine lx_isub hC dX8_undo_24 ?_
    refine lx_putI hC ly8 rfl 5 (by decide) rfl tyX8 tyX8_ok nmX8 rfl rfl rfl inX8 wd1610 dX8_undo_25 (fun s2 => ?_)
    refine lx_aload_n hC dX8_undo_28 rfl 0 rfl ?_
    refine lx_getI hC ly8 rfl 6 (by decide) rfl inX8 wd1611 dX8_undo_29 ?_
    refine lx_aload_n hC dX8_undo_32 rfl 0 rfl ?_
    refine lx_getI hC ly8 rfl 5 (by decide) rfl inX8 wd1610 dX8_undo_33 ?_
    refine lx_iadd hC dX8_undo_36 ?_
    refine lx_bipush (v := 8) hC dX8_undo_37 (by decide) ?_
    refine lx_irem hC dX8_undo_39 (by decide) ?_
    refine lx_istore_nN hC dX8_undo_40 rfl (by decide) (fun y3 => ?_)
    refine lx_iconstv (v := 0) hC dX8_undo_41 rfl ?_
    refine lx_istore_n hC dX8_undo_42 rfl (by decide) ?_
    refine lx_sub [2, 1, 0] rfl ?_
    exact lx_lp (lv := fun a => [(0, .ref 8), (1, .int y3), (2, .int a.1)]) (st := fun _ => []) (sg := fun a => a.2) (fun kf hq a => l_X8_undo_b43 hC hE hl hx hr y3 a.2 kf hq a.1) FUEL (0, s2)
  · skip
    refine lx_aload_n hC dX8_undo_12 rfl 0 rfl ?_
    refine lx_iconstv (v := 1) hC dX8_undo_13 rfl ?_
    refine lx_callX hC hx (sat_X8_fails (xl X) hl 1 s1) (run_V (as := [.int 1]) (rest := []) hC hE ly8 rfl cw_X8_fails ci_X8_fails wd1676 cs_X8_fails ce_X8_fails cd_X8_fails (by decide) (by decide) (Nat.le_of_ble_eq_true rfl) dX8_undo_14 rfl) (fun v7 s8 _ => ?_)
    exact lx_iret hC rfl hr dX8_undo_17
def m_X8_save_b7 (s : Mem) (kf7 : (Int32 × Mem) → Res Int32) (w1 : Int32) : Res Int32 := if 135 ≤ w1 then (vl (pI s 8 7 1) (fun s2 => if ib 1 135 then some (.inl (gI s2 136 1.toNatClampNeg), s2) else none)) else (if ib w1 135 then if ib w1 135 then vl (pI s 264 w1.toNatClampNeg (gI s 136 w1.toNatClampNeg)) (fun s3 => vl (w1 + 1) (fun y4 => kf7 (y4, s3))) else none else none)
def m_X8_save (s : Mem) : Res Int32 := vl (pI s 8 0 0) (fun s1 => lp (fun kf7 a => m_X8_save_b7 a.2 kf7 a.1) FUEL (0, s1))
set_option maxRecDepth 100000 in
set_option maxHeartbeats 2000000 in
theorem l_X8_save_b7 {X : Cx} {V : Vx} {A : Nat → Prop} {adV : Nat → Nat} {c0 s0 : Nat} (hC : Cok X V A yX8_save.cls cX8_save 2) (hE : Env0 V adV A (xs X) (xs X).heap) (hl : (xl X).stackTraces = false) (hx : ∀ x ∈ (xc X).exceptionTable.toList, False) (hr : (xh X).sig.returnType = some .int) (s : Mem) (kf7 : (Int32 × Mem) → Res Int32) (hk7 : ∀ a, LX X V A 30 500 c0 s0 (FM X V A (fun x => some (.int x))) 7 [(0, .ref 8), (1, .int a.1)] [] a.2 (kf7 a)) (w1 : Int32) : LX X V A 30 500 c0 s0 (FM X V A (fun x => some (.int x))) 7 [(0, .ref 8), (1, .int w1)] [] s (m_X8_save_b7 s kf7 w1 ) := by
  unfold m_X8_save_b7
  refine lx_iload_n hC dX8_save_7 rfl 1 rfl ?_
  refine lx_sipush (v := 135) hC dX8_save_8 (by decide) ?_
  refine lx_icmp_ge hC 32 dX8_save_11 (by decide) ?_ ?_
  · skip
    refine lx_aload_n hC dX8_save_32 rfl 0 rfl ?_
    refine lx_iconstv (v := 1) hC dX8_save_33 rfl ?_
    refine lx_putI hC ly8 rfl 7 (by decide) rfl tyX8 tyX8_ok nmX8 rfl rfl rfl inX8 wd1612 dX8_save_34 (fun s2 => ?_)
    refine lx_aload_n hC dX8_save_37 rfl 0 rfl ?_
    refine lx_getR (q := 136) hC ly8 rfl 1 (by decide) rfl rfl inX8 wd1606 dX8_save_38 ?_
    refine lx_iconstv (v := 1) hC dX8_save_41 rfl ?_
    refine lx_iaload hC ly136 dX8_save_42 ?_
    exact lx_iret hC rfl hr dX8_save_43
  · skip
    refine lx_aload_n hC dX8_save_14 rfl 0 rfl ?_
    refine lx_getR (q := 264) hC ly8 rfl 3 (by decide) rfl rfl inX8 wd1608 dX8_save_15 ?_
    refine lx_iload_n hC dX8_save_18 rfl 1 rfl ?_
    refine lx_aload_n hC dX8_save_19 rfl 0 rfl ?_
    refine lx_getR (q := 136) hC ly8 rfl 1 (by decide) rfl rfl inX8 wd1606 dX8_save_20 ?_
    refine lx_iload_n hC dX8_save_23 rfl 1 rfl ?_
    refine lx_iaload hC ly136 dX8_save_24 ?_
    refine lx_iastore hC ly264 dX8_save_25 (fun s3 => ?_)
    refine lx_iincN (v := 1) hC dX8_save_26 1 rfl (by decide) rfl (fun y4 => ?_)
    refine lx_goto hC 7 dX8_save_29 (by decide) ?_
    exact lx_sub [1, 0] rfl (hk7 (y4, s3))
set_option maxRecDepth 100000 in
set_option maxHeartbeats 2000000 in
theorem n_X8_save_b7 (s : Mem) (kf7 : (Int32 × Mem) → Res Int32) (hm7 : ∀ a, Mn a.2 (kf7 a)) (w1 : Int32) : Mn s (m_X8_save_b7 s kf7 w1 ) := by
  unfold m_X8_save_b7
  refine mn_if ?_ ?_
  · skip
    refine mn_put (fun s2 => ?_)
    refine mn_if ?_ mn_none
    exact mn_some
  · skip
    refine mn_if ?_ mn_none
    refine mn_if ?_ mn_none
    refine mn_put (fun s3 => ?_)
    refine mn_vl (fun y4 => ?_)
    exact hm7 (y4, s3)
set_option maxRecDepth 100000 in
set_option maxHeartbeats 2000000 in
theorem n_X8_save (s : Mem) : Mn s (m_X8_save s) := by
  unfold m_X8_save
  refine mn_put (fun s1 => ?_)
  exact mn_lp (sg := fun a => a.2) (fun kf hq a => n_X8_save_b7 a.2 kf hq a.1) FUEL (0, s1)
set_option maxRecDepth 100000 in
set_option maxHeartbeats 2000000 in
theorem sat_X8_save (l : Launch) (hl : l.stackTraces = false) (s : Mem) : Sat l yX8_save (.code yX8_save cX8_save 2 (some .int)) 30 500 (fun x => some (.int x)) [.ref 8] s (m_X8_save s) := by
  refine sat_of hl (by decide) (Nat.le_of_ble_eq_true rfl) (fun X V A adV hxl hC hE hx hr => ?_) (n_X8_save s)
  subst hxl
  show LX X V A 30 500 (nC s) (nS s) _ 0 [(0, .ref 8)] [] s _
  unfold m_X8_save
  refine lx_aload_n hC dX8_save_0 rfl 0 rfl ?_
  refine lx_iconstv (v := 0) hC dX8_save_1 rfl ?_
  refine lx_putI hC ly8 rfl 0 (by decide) rfl tyX8 tyX8_ok nmX8 rfl rfl rfl inX8 wd1605 dX8_save_2 (fun s1 => ?_)
  refine lx_iconstv (v := 0) hC dX8_save_5 rfl ?_
  refine lx_istore_n hC dX8_save_6 rfl (by decide) ?_
  refine lx_sub [1, 0] rfl ?_
  exact lx_lp (lv := fun a => [(0, .ref 8), (1, .int a.1)]) (st := fun _ => []) (sg := fun a => a.2) (fun kf hq a => l_X8_save_b7 hC hE hl hx hr a.2 kf hq a.1) FUEL (0, s1)
def m_X8_restore_b20 (s : Mem) (kf20 : (Int32 × Mem) → Res Int32) (w1 : Int32) : Res Int32 := if 135 ≤ w1 then (vl (pI s 8 5 0) (fun s2 => vl (pI s2 8 6 0) (fun s3 => if ib 1 135 then some (.inl (gI s3 136 1.toNatClampNeg), s3) else none))) else (if ib w1 135 then if ib w1 135 then vl (pI s 136 w1.toNatClampNeg (gI s 264 w1.toNatClampNeg)) (fun s4 => vl (w1 + 1) (fun y5 => kf20 (y5, s4))) else none else none)
def m_X8_restore (s : Mem) : Res Int32 := vl (pI s 8 0 0) (fun s1 => if ¬ gI s1 8 7 = 0 then (lp (fun kf20 a => m_X8_restore_b20 a.2 kf20 a.1) FUEL (0, s1)) else (bindR (m_X8_fails 1 s1) (fun v6 s7 => some (.inl v6, s7))))
set_option maxRecDepth 100000 in
set_option maxHeartbeats 2000000 in
theorem l_X8_restore_b20 {X : Cx} {V : Vx} {A : Nat → Prop} {adV : Nat → Nat} {c0 s0 : Nat} (hC : Cok X V A yX8_restore.cls cX8_restore 2) (hE : Env0 V adV A (xs X) (xs X).heap) (hl : (xl X).stackTraces = false) (hx : ∀ x ∈ (xc X).exceptionTable.toList, False) (hr : (xh X).sig.returnType = some .int) (s : Mem) (kf20 : (Int32 × Mem) → Res Int32) (hk20 : ∀ a, LX X V A 31 521 c0 s0 (FM X V A (fun x => some (.int x))) 20 [(0, .ref 8), (1, .int a.1)] [] a.2 (kf20 a)) (w1 : Int32) : LX X V A 31 521 c0 s0 (FM X V A (fun x => some (.int x))) 20 [(0, .ref 8), (1, .int w1)] [] s (m_X8_restore_b20 s kf20 w1 ) := by
  unfold m_X8_restore_b20
  refine lx_iload_n hC dX8_restore_20 rfl 1 rfl ?_
  refine lx_sipush (v := 135) hC dX8_restore_21 (by decide) ?_
  refine lx_icmp_ge hC 45 dX8_restore_24 (by decide) ?_ ?_
  · skip
    refine lx_aload_n hC dX8_restore_45 rfl 0 rfl ?_
    refine lx_iconstv (v := 0) hC dX8_restore_46 rfl ?_
    refine lx_putI hC ly8 rfl 5 (by decide) rfl tyX8 tyX8_ok nmX8 rfl rfl rfl inX8 wd1610 dX8_restore_47 (fun s2 => ?_)
    refine lx_aload_n hC dX8_restore_50 rfl 0 rfl ?_
    refine lx_iconstv (v := 0) hC dX8_restore_51 rfl ?_
    refine lx_putI hC ly8 rfl 6 (by decide) rfl tyX8 tyX8_ok nmX8 rfl rfl rfl inX8 wd1611 dX8_restore_52 (fun s3 => ?_)
    refine lx_aload_n hC dX8_restore_55 rfl 0 rfl ?_
    refine lx_getR (q := 136) hC ly8 rfl 1 (by decide) rfl rfl inX8 wd1606 dX8_restore_56 ?_
    refine lx_iconstv (v := 1) hC dX8_restore_59 rfl ?_
    refine lx_iaload hC ly136 dX8_restore_60 ?_
    exact lx_iret hC rfl hr dX8_restore_61
  · skip
    refine lx_aload_n hC dX8_restore_27 rfl 0 rfl ?_
    refine lx_getR (q := 136) hC ly8 rfl 1 (by decide) rfl rfl inX8 wd1606 dX8_restore_28 ?_
    refine lx_iload_n hC dX8_restore_31 rfl 1 rfl ?_
    refine lx_aload_n hC dX8_restore_32 rfl 0 rfl ?_
    refine lx_getR (q := 264) hC ly8 rfl 3 (by decide) rfl rfl inX8 wd1608 dX8_restore_33 ?_
    refine lx_iload_n hC dX8_restore_36 rfl 1 rfl ?_
    refine lx_iaload hC ly264 dX8_restore_37 ?_
    refine lx_iastore hC ly136 dX8_restore_38 (fun s4 => ?_)
    refine lx_iincN (v := 1) hC dX8_restore_39 1 rfl (by decide) rfl (fun y5 => ?_)
    refine lx_goto hC 20 dX8_restore_42 (by decide) ?_
    exact lx_sub [1, 0] rfl (hk20 (y5, s4))
set_option maxRecDepth 100000 in
set_option maxHeartbeats 2000000 in
theorem n_X8_restore_b20 (s : Mem) (kf20 : (Int32 × Mem) → Res Int32) (hm20 : ∀ a, Mn a.2 (kf20 a)) (w1 : Int32) : Mn s (m_X8_restore_b20 s kf20 w1 ) := by
  unfold m_X8_restore_b20
  refine mn_if ?_ ?_
  · skip
    refine mn_put (fun s2 => ?_)
    refine mn_put (fun s3 => ?_)
    refine mn_if ?_ mn_none
    exact mn_some
  · skip
    refine mn_if ?_ mn_none
    refine mn_if ?_ mn_none
    refine mn_put (fun s4 => ?_)
    refine mn_vl (fun y5 => ?_)
    exact hm20 (y5, s4)
set_option maxRecDepth 100000 in
set_option maxHeartbeats 2000000 in
theorem n_X8_restore (s : Mem) : Mn s (m_X8_restore s) := by
  unfold m_X8_restore
  refine mn_put (fun s1 => ?_)
  refine mn_if ?_ ?_
  · skip
    exact mn_lp (sg := fun a => a.2) (fun kf hq a => n_X8_restore_b20 a.2 kf hq a.1) FUEL (0, s1)
  · skip
    refine mn_bind (n_X8_fails 1 s1) (fun v6 s7 => ?_)
    exact mn_some
set_option maxRecDepth 100000 in
set_option maxHeartbeats 2000000 in
theorem sat_X8_restore (l : Launch) (hl : l.stackTraces = false) (s : Mem) : Sat l yX8_restore (.code yX8_restore cX8_restore 2 (some .int)) 31 521 (fun x => some (.int x)) [.ref 8] s (m_X8_restore s) := by
  refine sat_of hl (by decide) (Nat.le_of_ble_eq_true rfl) (fun X V A adV hxl hC hE hx hr => ?_) (n_X8_restore s)
  subst hxl
  show LX X V A 31 521 (nC s) (nS s) _ 0 [(0, .ref 8)] [] s _
  unfold m_X8_restore
  refine lx_aload_n hC dX8_restore_0 rfl 0 rfl ?_
  refine lx_iconstv (v := 0) hC dX8_restore_1 rfl ?_
  refine lx_putI hC ly8 rfl 0 (by decide) rfl tyX8 tyX8_ok nmX8 rfl rfl rfl inX8 wd1605 dX8_restore_2 (fun s1 => ?_)
  refine lx_aload_n hC dX8_restore_5 rfl 0 rfl ?_
  refine lx_getI hC ly8 rfl 7 (by decide) rfl inX8 wd1612 dX8_restore_6 ?_
  refine lx_if_ne hC 18 dX8_restore_9 (by decide) ?_ ?_
  · skip
    refine lx_iconstv (v := 0) hC dX8_restore_18 rfl ?_
    refine lx_istore_n hC dX8_restore_19 rfl (by decide) ?_
    refine lx_sub [1, 0] rfl ?_
    exact lx_lp (lv := fun a => [(0, .ref 8), (1, .int a.1)]) (st := fun _ => []) (sg := fun a => a.2) (fun kf hq a => l_X8_restore_b20 hC hE hl hx hr a.2 kf hq a.1) FUEL (0, s1)
  · skip
    refine lx_aload_n hC dX8_restore_12 rfl 0 rfl ?_
    refine lx_iconstv (v := 1) hC dX8_restore_13 rfl ?_
    refine lx_callX hC hx (sat_X8_fails (xl X) hl 1 s1) (run_V (as := [.int 1]) (rest := []) hC hE ly8 rfl cw_X8_fails ci_X8_fails wd1676 cs_X8_fails ce_X8_fails cd_X8_fails (by decide) (by decide) (Nat.le_of_ble_eq_true rfl) dX8_restore_14 rfl) (fun v6 s7 _ => ?_)
    exact lx_iret hC rfl hr dX8_restore_17
