/-! ===== the body of the law ===== -/
def m_L_law_j268 (cl : Int32 → Int32) (x22 : Int32) (x23 : Int32) (s : Mem) (kf89 : (Int32 × Mem) → Res Int32) : Res Int32 := if ¬ x22 - x22 / 3 * 3 = 1 then (vl (x22 + 1) (fun y24 => kf89 (y24, s))) else (bindN (m_L_fits (x23 >>> (3 &&& 31)) s) (fun v25 s26 => if ¬ v25 = 0 then (vl (x22 + 1) (fun y27 => kf89 (y27, s26))) else none))
def m_L_law_j199 (cl : Int32 → Int32) (x20 : Int32) (x21 : Int32) (s : Mem) (kf89 : (Int32 × Mem) → Res Int32) : Res Int32 := if ¬ x20 - x20 / 5 * 5 = 0 then (m_L_law_j268 cl x20 x21 s kf89 ) else (bindN (m_L_mark s) (fun v30 s31 => bindN (m_X7_save s31) (fun v32 s33 => bindP (m_X7_echoCount s33) (fun v34 => if v32 = v34 then (bindN (m_L_acts (x21 + 1) s33) (fun v35 s36 => bindN (m_L_restore s36) (fun v38 s37 => bindP (m_X7_echoCount s37) (fun v39 => if ¬ lg_cmp v38 v39.toInt64 = 0 then none else (bindN (m_L_mark s37) (fun v40 s41 => if ¬ lg_cmp v40 v30 = 0 then none else (bindN (m_L_undo s41) (fun v43 s42 => if lg_cmp v43 (-4000000000000000001) = 0 then (m_L_law_j268 cl x20 x21 s42 kf89 ) else none)))))))) else none))))
def m_L_law_j154 (cl : Int32 → Int32) (x15 : Int32) (x16 : Int32) (x17 : Int64) (x18 : Int64) (x19 : Int32) (s : Mem) (kf89 : (Int32 × Mem) → Res Int32) : Res Int32 := if ¬ x19 = 0 then (m_L_law_j199 cl x15 x16 s kf89 ) else (if ¬ x15 - x15 / 3 * 3 = 0 then (m_L_law_j199 cl x15 x16 s kf89 ) else (bindN (m_L_undo s) (fun v51 s50 => if ¬ lg_cmp v51 (if 7 < x18 then 7 else x18) = 0 then none else (bindN (m_L_mark s50) (fun v52 s53 => if lg_cmp v52 x17 = 0 then (bindN (m_L_acts x16 s53) (fun v54 s55 => m_L_law_j199 cl x15 x16 s55 kf89 )) else none)))))
def m_L_law_j135 (cl : Int32 → Int32) (x10 : Int32) (x11 : Int32) (x12 : Int64) (x13 : Int64) (x14 : Int32) (s : Mem) (kf89 : (Int32 × Mem) → Res Int32) : Res Int32 := if x14 = 0 then (m_L_law_j154 cl x10 x11 x12 x13 x14 s kf89 ) else (bindN (m_L_mark s) (fun v63 s64 => if lg_cmp v63 x12 = 0 then (m_L_law_j154 cl x10 x11 x12 x13 x14 s64 kf89 ) else none))
def m_L_law_b89 (cl : Int32 → Int32) (s : Mem) (kf89 : (Int32 × Mem) → Res Int32) (w2 : Int32) : Res Int32 := if 24 ≤ w2 then (finS s) else (if 0 ≤ w2 then vl (cl w2) (fun y4 => bindN (m_L_mark s) (fun v5 s6 => bindP (m_X7_undoableCount s6) (fun v7 => bindN (m_L_acts y4 s6) (fun v8 s9 => if 0 < lg_cmp v8 (-4000000000000000001) then (m_L_law_j135 cl w2 y4 v5 v7.toInt64 0 s9 kf89 ) else (m_L_law_j135 cl w2 y4 v5 v7.toInt64 1 s9 kf89 ))))) else none)
def m_L_law_b50 (cl : Int32 → Int32) (s : Mem) (kf50 : (Int32 × Mem) → Res Int32) (w2 : Int32) : Res Int32 := if 5 ≤ w2 then (lp (fun kf89 a => m_L_law_b89 cl a.2 kf89 a.1) FUEL (1, s)) else (if 0 ≤ (0 : Int32) then bindP (m_L_chosen ((cl (0 : Int32)) >>> ((2 * w2) &&& 31)) 3 s) (fun v81 => bindN (m_L_add v81 (100 + (150 * w2)) s) (fun v83 s82 => vl (w2 + 1) (fun y84 => kf50 (y84, s82)))) else none)
def m_L_law_b10 (cl : Int32 → Int32) (s : Mem) (kf10 : (Int32 × Mem) → Res Int32) (w2 : Int32) : Res Int32 := if 3 ≤ w2 then (bindN (m_L_addPhantoms 0 3 s) (fun v2 s1 => lp (fun kf50 a => m_L_law_b50 cl a.2 kf50 a.1) FUEL (0, s1))) else (if 0 ≤ (0 : Int32) then bindP (m_L_chosen ((cl (0 : Int32)) >>> ((3 * w2) &&& 31)) 5 s) (fun v86 => bindN (m_L_addRow (1 + v86) s) (fun v88 s87 => vl (w2 + 1) (fun y89 => kf10 (y89, s87)))) else none)
def m_L_law (cl : Int32 → Int32) (s : Mem) : Res Int32 := lp (fun kf10 a => m_L_law_b10 cl a.2 kf10 a.1) FUEL (0, s)
set_option maxRecDepth 100000 in
set_option maxHeartbeats 4000000 in
theorem l_L_law_j268 {X : Cx} {V : Vx} {A : Nat → Prop} {adV : Nat → Nat} {b : Nat} {cl : Int32 → Int32} (hC : Cok X V A RL cL_law 13) (hE : Env0 V adV A (xs X) (xs X).heap) (hl : (xl X).stackTraces = false) (hx : LwW X A b) (hr : CellOK X V A b cl) (x22 : Int32) (x23 : Int32) (s : Mem) (kf89 : (Int32 × Mem) → Res Int32) (hk89 : ∀ a, LX X V A 2048 94400 0 0 (LwF X b) 89 [(0, .ref 2000), (1, .ref 0), (2, .int a.1)] [] a.2 (kf89 a)) : LX X V A 2048 94400 0 0 (LwF X b) 268 [(0, .ref 2000), (1, .ref 0), (2, .int x22), (3, .int x23)] [] s (m_L_law_j268 cl x22 x23 s kf89 ) := by
  unfold m_L_law_j268
  refine lx_iload_n hC dL_law_268 rfl 2 rfl ?_
  refine lx_iconstv (v := 3) hC dL_law_269 rfl ?_
  refine lx_irem hC dL_law_270 (by decide) ?_
  refine lx_iconstv (v := 1) hC dL_law_271 rfl ?_
  refine lx_icmp_ne hC 287 dL_law_272 (by decide) ?_ ?_
  · skip
    refine lx_iincN (v := 1) hC dL_law_287 2 rfl (by decide) rfl (fun y24 => ?_)
    refine lx_goto hC 89 dL_law_290 (by decide) ?_
    exact lx_sub [1, 2, 0] rfl (hk89 (y24, s))
  · skip
    refine lx_aload_n hC dL_law_275 rfl 1 rfl ?_
    refine lx_iload_n hC dL_law_276 rfl 3 rfl ?_
    refine lx_iconstv (v := 3) hC dL_law_277 rfl ?_
    refine lx_ishr hC dL_law_278 ?_
    refine lx_callN hC (sat_L_fits (xl X) hl (x23 >>> (3 &&& 31)) s) (run_S (as := [.ref 0, .int (x23 >>> (3 &&& 31))]) (rest := []) hC hE cw_L_fits ci_L_fits wd1229 cs_L_fits cd_L_fits (by decide) (by decide) (Nat.le_of_ble_eq_true rfl) dL_law_279 rfl) (fun v25 s26 _ => ?_)
    refine lx_if_ne hC 287 dL_law_282 (by decide) ?_ ?_
    · skip
      refine lx_iincN (v := 1) hC dL_law_287 2 rfl (by decide) rfl (fun y27 => ?_)
      refine lx_goto hC 89 dL_law_290 (by decide) ?_
      exact lx_sub [1, 2, 0] rfl (hk89 (y27, s26))
    · skip
      refine lx_iconstv (v := 0) hC dL_law_285 rfl ?_
      exact lx_none
set_option maxRecDepth 100000 in
set_option maxHeartbeats 4000000 in
theorem l_L_law_j199 {X : Cx} {V : Vx} {A : Nat → Prop} {adV : Nat → Nat} {b : Nat} {cl : Int32 → Int32} (hC : Cok X V A RL cL_law 13) (hE : Env0 V adV A (xs X) (xs X).heap) (hl : (xl X).stackTraces = false) (hx : LwW X A b) (hr : CellOK X V A b cl) (x20 : Int32) (x21 : Int32) (s : Mem) (kf89 : (Int32 × Mem) → Res Int32) (hk89 : ∀ a, LX X V A 2048 94400 0 0 (LwF X b) 89 [(0, .ref 2000), (1, .ref 0), (2, .int a.1)] [] a.2 (kf89 a)) : LX X V A 2048 94400 0 0 (LwF X b) 199 [(0, .ref 2000), (1, .ref 0), (2, .int x20), (3, .int x21)] [] s (m_L_law_j199 cl x20 x21 s kf89 ) := by
  unfold m_L_law_j199
  refine lx_iload_n hC dL_law_199 rfl 2 rfl ?_
  refine lx_iconstv (v := 5) hC dL_law_200 rfl ?_
  refine lx_irem hC dL_law_201 (by decide) ?_
  refine lx_if_ne hC 268 dL_law_202 (by decide) ?_ ?_
  · skip
    exact lx_sub [0, 1, 2, 3] rfl (l_L_law_j268 hC hE hl hx hr x20 x21 s kf89 hk89 )
  · skip
    refine lx_aload_n hC dL_law_205 rfl 1 rfl ?_
    refine lx_callN hC (sat_L_mark (xl X) hl s) (run_S (as := [.ref 0]) (rest := []) hC hE cw_L_mark ci_L_mark wd646 cs_L_mark cd_L_mark (by decide) (by decide) (Nat.le_of_ble_eq_true rfl) dL_law_206 rfl) (fun v30 s31 _ => ?_)
    refine lx_lstore hC dL_law_209 (by decide) ?_
    refine lx_aload_n hC dL_law_211 rfl 2 rfl ?_
    refine lx_callN hC (sat_X7_save (xl X) hl s31) (run_V (as := []) (rest := []) hC hE ly0 rfl cw_X7_save ci_X7_save wd290 cs_X7_save ce_X7_save cd_X7_save (by decide) (by decide) (Nat.le_of_ble_eq_true rfl) dL_law_212 rfl) (fun v32 s33 _ => ?_)
    refine lx_aload_n hC dL_law_215 rfl 2 rfl ?_
    refine lx_callPN hC (sat_X7_echoCount (xl X) hl s33) (run_V (as := []) (rest := [.int v32]) hC hE ly0 rfl cw_X7_echoCount ci_X7_echoCount wd278 cs_X7_echoCount ce_X7_echoCount cd_X7_echoCount (by decide) (by decide) (Nat.le_of_ble_eq_true rfl) dL_law_216 rfl) (fun v34 _ => ?_)
    refine lx_icmp_eq hC 224 dL_law_219 (by decide) ?_ ?_
    · skip
      refine lx_aload_n hC dL_law_224 rfl 2 rfl ?_
      refine lx_iload_n hC dL_law_225 rfl 4 rfl ?_
      refine lx_iconstv (v := 1) hC dL_law_226 rfl ?_
      refine lx_iadd hC dL_law_227 ?_
      refine lx_callN hC (sat_L_acts (xl X) hl (x21 + 1) s33) (run_S (as := [.ref 0, .int (x21 + 1)]) (rest := []) hC hE cw_L_acts ci_L_acts wd1048 cs_L_acts cd_L_acts (by decide) (by decide) (Nat.le_of_ble_eq_true rfl) dL_law_228 rfl) (fun v35 s36 _ => ?_)
      refine lx_pop2 hC dL_law_231 ?_
      refine lx_aload_n hC dL_law_232 rfl 2 rfl ?_
      refine lx_callWN (as := [.ref 0]) (rest := []) hC hE (sat_L_restore (xl X) hl s36) cw_L_restore ciL wd627 cs_L_restore cd_L_restore (by decide) (Nat.le_of_ble_eq_true rfl) (Nat.le_of_ble_eq_true rfl) dL_law_233 rfl (fun v38 s37 _ => ?_)
      refine lx_aload_n hC dL_law_236 rfl 2 rfl ?_
      refine lx_callPN hC (sat_X7_echoCount (xl X) hl s37) (run_V (as := []) (rest := [.long v38]) hC hE ly0 rfl cw_X7_echoCount ci_X7_echoCount wd278 cs_X7_echoCount ce_X7_echoCount cd_X7_echoCount (by decide) (by decide) (Nat.le_of_ble_eq_true rfl) dL_law_237 rfl) (fun v39 _ => ?_)
      refine lx_i2l hC dL_law_240 ?_
      refine lx_lcmp hC dL_law_241 ?_
      refine lx_if_ne hC 266 dL_law_242 (by decide) ?_ ?_
      · skip
        refine lx_iconstv (v := 0) hC dL_law_266 rfl ?_
        exact lx_none
      · skip
        refine lx_aload_n hC dL_law_245 rfl 2 rfl ?_
        refine lx_callN hC (sat_L_mark (xl X) hl s37) (run_S (as := [.ref 0]) (rest := []) hC hE cw_L_mark ci_L_mark wd646 cs_L_mark cd_L_mark (by decide) (by decide) (Nat.le_of_ble_eq_true rfl) dL_law_246 rfl) (fun v40 s41 _ => ?_)
        refine lx_lload hC dL_law_249 0 rfl ?_
        refine lx_lcmp hC dL_law_251 ?_
        refine lx_if_ne hC 266 dL_law_252 (by decide) ?_ ?_
        · skip
          refine lx_iconstv (v := 0) hC dL_law_266 rfl ?_
          exact lx_none
        · skip
          refine lx_aload_n hC dL_law_255 rfl 2 rfl ?_
          refine lx_callWN (as := [.ref 0]) (rest := []) hC hE (sat_L_undo (xl X) hl s41) cw_L_undo ciL wd615 cs_L_undo cd_L_undo (by decide) (Nat.le_of_ble_eq_true rfl) (Nat.le_of_ble_eq_true rfl) dL_law_256 rfl (fun v43 s42 _ => ?_)
          refine lx_ldc2 (v := (-4000000000000000001)) hC wk17 dL_law_259 ?_
          refine lx_lcmp hC dL_law_262 ?_
          refine lx_if_eq hC 268 dL_law_263 (by decide) ?_ ?_
          · skip
            exact lx_sub [1, 2, 3, 4] rfl (l_L_law_j268 hC hE hl hx hr x20 x21 s42 kf89 hk89 )
          · skip
            refine lx_iconstv (v := 0) hC dL_law_266 rfl ?_
            exact lx_none
    · skip
      refine lx_iconstv (v := 0) hC dL_law_222 rfl ?_
      exact lx_none
set_option maxRecDepth 100000 in
set_option maxHeartbeats 4000000 in
theorem l_L_law_j154 {X : Cx} {V : Vx} {A : Nat → Prop} {adV : Nat → Nat} {b : Nat} {cl : Int32 → Int32} (hC : Cok X V A RL cL_law 13) (hE : Env0 V adV A (xs X) (xs X).heap) (hl : (xl X).stackTraces = false) (hx : LwW X A b) (hr : CellOK X V A b cl) (x15 : Int32) (x16 : Int32) (x17 : Int64) (x18 : Int64) (x19 : Int32) (s : Mem) (kf89 : (Int32 × Mem) → Res Int32) (hk89 : ∀ a, LX X V A 2048 94400 0 0 (LwF X b) 89 [(0, .ref 2000), (1, .ref 0), (2, .int a.1)] [] a.2 (kf89 a)) : LX X V A 2048 94400 0 0 (LwF X b) 154 [(0, .ref 2000), (1, .ref 0), (2, .int x15), (3, .int x16), (4, .long x17), (6, .long x18), (10, .int x19)] [] s (m_L_law_j154 cl x15 x16 x17 x18 x19 s kf89 ) := by
  unfold m_L_law_j154
  refine lx_iload hC dL_law_154 6 rfl ?_
  refine lx_if_ne hC 199 dL_law_156 (by decide) ?_ ?_
  · skip
    exact lx_sub [0, 1, 2, 3] rfl (l_L_law_j199 hC hE hl hx hr x15 x16 s kf89 hk89 )
  · skip
    refine lx_iload_n hC dL_law_159 rfl 2 rfl ?_
    refine lx_iconstv (v := 3) hC dL_law_160 rfl ?_
    refine lx_irem hC dL_law_161 (by decide) ?_
    refine lx_if_ne hC 199 dL_law_162 (by decide) ?_ ?_
    · skip
      exact lx_sub [0, 1, 2, 3] rfl (l_L_law_j199 hC hE hl hx hr x15 x16 s kf89 hk89 )
    · skip
      refine lx_aload_n hC dL_law_165 rfl 1 rfl ?_
      refine lx_callWN (as := [.ref 0]) (rest := []) hC hE (sat_L_undo (xl X) hl s) cw_L_undo ciL wd615 cs_L_undo cd_L_undo (by decide) (Nat.le_of_ble_eq_true rfl) (Nat.le_of_ble_eq_true rfl) dL_law_166 rfl (fun v51 s50 _ => ?_)
      refine lx_lload hC dL_law_169 5 rfl ?_
      refine lx_ldc2 (v := 7) hC wk255 dL_law_171 ?_
      refine lx_mminJ hC wd1469 wd1470 wd40 wd1471 (by decide) (Nat.le_of_ble_eq_true rfl) dL_law_174 ?_
      refine lx_lcmp hC dL_law_177 ?_
      refine lx_if_ne hC 191 dL_law_178 (by decide) ?_ ?_
      · skip
        refine lx_iconstv (v := 0) hC dL_law_191 rfl ?_
        exact lx_none
      · skip
        refine lx_aload_n hC dL_law_181 rfl 1 rfl ?_
        refine lx_callN hC (sat_L_mark (xl X) hl s50) (run_S (as := [.ref 0]) (rest := []) hC hE cw_L_mark ci_L_mark wd646 cs_L_mark cd_L_mark (by decide) (by decide) (Nat.le_of_ble_eq_true rfl) dL_law_182 rfl) (fun v52 s53 _ => ?_)
        refine lx_lload hC dL_law_185 4 rfl ?_
        refine lx_lcmp hC dL_law_187 ?_
        refine lx_if_eq hC 193 dL_law_188 (by decide) ?_ ?_
        · skip
          refine lx_aload_n hC dL_law_193 rfl 1 rfl ?_
          refine lx_iload_n hC dL_law_194 rfl 3 rfl ?_
          refine lx_callN hC (sat_L_acts (xl X) hl x16 s53) (run_S (as := [.ref 0, .int x16]) (rest := []) hC hE cw_L_acts ci_L_acts wd1048 cs_L_acts cd_L_acts (by decide) (by decide) (Nat.le_of_ble_eq_true rfl) dL_law_195 rfl) (fun v54 s55 _ => ?_)
          refine lx_pop2 hC dL_law_198 ?_
          exact lx_sub [0, 1, 2, 3] rfl (l_L_law_j199 hC hE hl hx hr x15 x16 s55 kf89 hk89 )
        · skip
          refine lx_iconstv (v := 0) hC dL_law_191 rfl ?_
          exact lx_none
set_option maxRecDepth 100000 in
set_option maxHeartbeats 4000000 in
theorem l_L_law_j135 {X : Cx} {V : Vx} {A : Nat → Prop} {adV : Nat → Nat} {b : Nat} {cl : Int32 → Int32} (hC : Cok X V A RL cL_law 13) (hE : Env0 V adV A (xs X) (xs X).heap) (hl : (xl X).stackTraces = false) (hx : LwW X A b) (hr : CellOK X V A b cl) (x10 : Int32) (x11 : Int32) (x12 : Int64) (x13 : Int64) (x14 : Int32) (s : Mem) (kf89 : (Int32 × Mem) → Res Int32) (hk89 : ∀ a, LX X V A 2048 94400 0 0 (LwF X b) 89 [(0, .ref 2000), (1, .ref 0), (2, .int a.1)] [] a.2 (kf89 a)) : LX X V A 2048 94400 0 0 (LwF X b) 135 [(0, .ref 2000), (1, .ref 0), (2, .int x10), (3, .int x11), (4, .long x12), (6, .long x13)] [.int x14] s (m_L_law_j135 cl x10 x11 x12 x13 x14 s kf89 ) := by
  unfold m_L_law_j135
  refine lx_istore hC dL_law_135 (by decide) ?_
  refine lx_iload hC dL_law_137 0 rfl ?_
  refine lx_if_eq hC 154 dL_law_139 (by decide) ?_ ?_
  · skip
    exact lx_sub [1, 2, 3, 4, 5, 6, 0] rfl (l_L_law_j154 hC hE hl hx hr x10 x11 x12 x13 x14 s kf89 hk89 )
  · skip
    refine lx_aload_n hC dL_law_142 rfl 2 rfl ?_
    refine lx_callN hC (sat_L_mark (xl X) hl s) (run_S (as := [.ref 0]) (rest := []) hC hE cw_L_mark ci_L_mark wd646 cs_L_mark cd_L_mark (by decide) (by decide) (Nat.le_of_ble_eq_true rfl) dL_law_143 rfl) (fun v63 s64 _ => ?_)
    refine lx_lload hC dL_law_146 5 rfl ?_
    refine lx_lcmp hC dL_law_148 ?_
    refine lx_if_eq hC 154 dL_law_149 (by decide) ?_ ?_
    · skip
      exact lx_sub [1, 2, 3, 4, 5, 6, 0] rfl (l_L_law_j154 hC hE hl hx hr x10 x11 x12 x13 x14 s64 kf89 hk89 )
    · skip
      refine lx_iconstv (v := 0) hC dL_law_152 rfl ?_
      exact lx_none
set_option maxRecDepth 100000 in
set_option maxHeartbeats 4000000 in
theorem l_L_law_b89 {X : Cx} {V : Vx} {A : Nat → Prop} {adV : Nat → Nat} {b : Nat} {cl : Int32 → Int32} (hC : Cok X V A RL cL_law 13) (hE : Env0 V adV A (xs X) (xs X).heap) (hl : (xl X).stackTraces = false) (hx : LwW X A b) (hr : CellOK X V A b cl) (s : Mem) (kf89 : (Int32 × Mem) → Res Int32) (hk89 : ∀ a, LX X V A 2048 94400 0 0 (LwF X b) 89 [(0, .ref 2000), (1, .ref 0), (2, .int a.1)] [] a.2 (kf89 a)) (w2 : Int32) : LX X V A 2048 94400 0 0 (LwF X b) 89 [(0, .ref 2000), (1, .ref 0), (2, .int w2)] [] s (m_L_law_b89 cl s kf89 w2 ) := by
  unfold m_L_law_b89
  refine lx_iload_n hC dL_law_89 rfl 2 rfl ?_
  refine lx_bipush (v := 24) hC dL_law_90 (by decide) ?_
  refine lx_icmp_ge hC 293 dL_law_92 (by decide) ?_ ?_
  · skip
    refine lx_iconstv (v := 1) hC dL_law_293 rfl ?_
    exact lw_fin hC hx dL_law_294
  · skip
    refine lx_aload_n hC dL_law_95 rfl 0 rfl ?_
    refine lx_iload_n hC dL_law_96 rfl 2 rfl ?_
    refine lx_if fun h3 => hr 97 dL_law_97 h3 (by decide) ?_
    refine lx_istore_nN hC dL_law_100 rfl (by decide) (fun y4 => ?_)
    refine lx_aload_n hC dL_law_101 rfl 2 rfl ?_
    refine lx_callN hC (sat_L_mark (xl X) hl s) (run_S (as := [.ref 0]) (rest := []) hC hE cw_L_mark ci_L_mark wd646 cs_L_mark cd_L_mark (by decide) (by decide) (Nat.le_of_ble_eq_true rfl) dL_law_102 rfl) (fun v5 s6 _ => ?_)
    refine lx_lstore hC dL_law_105 (by decide) ?_
    refine lx_aload_n hC dL_law_107 rfl 3 rfl ?_
    refine lx_callPN hC (sat_X7_undoableCount (xl X) hl s6) (run_V (as := []) (rest := []) hC hE ly0 rfl cw_X7_undoableCount ci_X7_undoableCount wd286 cs_X7_undoableCount ce_X7_undoableCount cd_X7_undoableCount (by decide) (by decide) (Nat.le_of_ble_eq_true rfl) dL_law_108 rfl) (fun v7 _ => ?_)
    refine lx_i2l hC dL_law_111 ?_
    refine lx_lstore hC dL_law_112 (by decide) ?_
    refine lx_aload_n hC dL_law_114 rfl 4 rfl ?_
    refine lx_iload_n hC dL_law_115 rfl 2 rfl ?_
    refine lx_callN hC (sat_L_acts (xl X) hl y4 s6) (run_S (as := [.ref 0, .int y4]) (rest := []) hC hE cw_L_acts ci_L_acts wd1048 cs_L_acts cd_L_acts (by decide) (by decide) (Nat.le_of_ble_eq_true rfl) dL_law_116 rfl) (fun v8 s9 _ => ?_)
    refine lx_lstore hC dL_law_119 (by decide) ?_
    refine lx_lload hC dL_law_121 0 rfl ?_
    refine lx_ldc2 (v := (-4000000000000000001)) hC wk17 dL_law_123 ?_
    refine lx_lcmp hC dL_law_126 ?_
    refine lx_if_gt hC 134 dL_law_127 (by decide) ?_ ?_
    · skip
      refine lx_iconstv (v := 0) hC dL_law_134 rfl ?_
      exact lx_sub [4, 5, 6, 3, 2, 1] rfl (l_L_law_j135 hC hE hl hx hr w2 y4 v5 v7.toInt64 0 s9 kf89 hk89 )
    · skip
      refine lx_iconstv (v := 1) hC dL_law_130 rfl ?_
      refine lx_goto hC 135 dL_law_131 (by decide) ?_
      exact lx_sub [4, 5, 6, 3, 2, 1] rfl (l_L_law_j135 hC hE hl hx hr w2 y4 v5 v7.toInt64 1 s9 kf89 hk89 )
set_option maxRecDepth 100000 in
set_option maxHeartbeats 4000000 in
theorem l_L_law_b50 {X : Cx} {V : Vx} {A : Nat → Prop} {adV : Nat → Nat} {b : Nat} {cl : Int32 → Int32} (hC : Cok X V A RL cL_law 13) (hE : Env0 V adV A (xs X) (xs X).heap) (hl : (xl X).stackTraces = false) (hx : LwW X A b) (hr : CellOK X V A b cl) (s : Mem) (kf50 : (Int32 × Mem) → Res Int32) (hk50 : ∀ a, LX X V A 2048 94400 0 0 (LwF X b) 50 [(0, .ref 2000), (1, .ref 0), (2, .int a.1)] [] a.2 (kf50 a)) (w2 : Int32) : LX X V A 2048 94400 0 0 (LwF X b) 50 [(0, .ref 2000), (1, .ref 0), (2, .int w2)] [] s (m_L_law_b50 cl s kf50 w2 ) := by
  unfold m_L_law_b50
  refine lx_iload_n hC dL_law_50 rfl 2 rfl ?_
  refine lx_iconstv (v := 5) hC dL_law_51 rfl ?_
  refine lx_icmp_ge hC 87 dL_law_52 (by decide) ?_ ?_
  · skip
    refine lx_iconstv (v := 1) hC dL_law_87 rfl ?_
    refine lx_istore_n hC dL_law_88 rfl (by decide) ?_
    refine lx_sub [1, 2, 0] rfl ?_
    exact lx_lp (lv := fun a => [(0, .ref 2000), (1, .ref 0), (2, .int a.1)]) (st := fun _ => []) (sg := fun a => a.2) (fun kf hq a => l_L_law_b89 hC hE hl hx hr a.2 kf hq a.1) FUEL (1, s)
  · skip
    refine lx_aload_n hC dL_law_55 rfl 1 rfl ?_
    refine lx_aload_n hC dL_law_56 rfl 0 rfl ?_
    refine lx_iconstv (v := 0) hC dL_law_57 rfl ?_
    refine lx_if fun h80 => hr 58 dL_law_58 h80 (by decide) ?_
    refine lx_iconstv (v := 2) hC dL_law_61 rfl ?_
    refine lx_iload_n hC dL_law_62 rfl 2 rfl ?_
    refine lx_imul hC dL_law_63 ?_
    refine lx_ishr hC dL_law_64 ?_
    refine lx_iconstv (v := 3) hC dL_law_65 rfl ?_
    refine lx_callPN hC (sat_L_chosen (xl X) hl ((cl (0 : Int32)) >>> ((2 * w2) &&& 31)) 3 s) (run_S (as := [.int ((cl (0 : Int32)) >>> ((2 * w2) &&& 31)), .int 3]) (rest := [.ref 0]) hC hE cw_L_chosen ci_L_chosen wd642 cs_L_chosen cd_L_chosen (by decide) (by decide) (Nat.le_of_ble_eq_true rfl) dL_law_66 rfl) (fun v81 _ => ?_)
    refine lx_bipush (v := 100) hC dL_law_69 (by decide) ?_
    refine lx_sipush (v := 150) hC dL_law_71 (by decide) ?_
    refine lx_iload_n hC dL_law_74 rfl 2 rfl ?_
    refine lx_imul hC dL_law_75 ?_
    refine lx_iadd hC dL_law_76 ?_
    refine lx_callWN (as := [.ref 0, .int v81, .int (100 + (150 * w2))]) (rest := []) hC hE (sat_L_add (xl X) hl v81 (100 + (150 * w2)) s) cw_L_add ciL wd608 cs_L_add cd_L_add (by decide) (Nat.le_of_ble_eq_true rfl) (Nat.le_of_ble_eq_true rfl) dL_law_77 rfl (fun v83 s82 _ => ?_)
    refine lx_pop2 hC dL_law_80 ?_
    refine lx_iincN (v := 1) hC dL_law_81 2 rfl (by decide) rfl (fun y84 => ?_)
    refine lx_goto hC 50 dL_law_84 (by decide) ?_
    exact lx_sub [1, 2, 0] rfl (hk50 (y84, s82))
set_option maxRecDepth 100000 in
set_option maxHeartbeats 4000000 in
theorem l_L_law_b10 {X : Cx} {V : Vx} {A : Nat → Prop} {adV : Nat → Nat} {b : Nat} {cl : Int32 → Int32} (hC : Cok X V A RL cL_law 13) (hE : Env0 V adV A (xs X) (xs X).heap) (hl : (xl X).stackTraces = false) (hx : LwW X A b) (hr : CellOK X V A b cl) (s : Mem) (kf10 : (Int32 × Mem) → Res Int32) (hk10 : ∀ a, LX X V A 2048 94400 0 0 (LwF X b) 10 [(0, .ref 2000), (1, .ref 0), (2, .int a.1)] [] a.2 (kf10 a)) (w2 : Int32) : LX X V A 2048 94400 0 0 (LwF X b) 10 [(0, .ref 2000), (1, .ref 0), (2, .int w2)] [] s (m_L_law_b10 cl s kf10 w2 ) := by
  unfold m_L_law_b10
  refine lx_iload_n hC dL_law_10 rfl 2 rfl ?_
  refine lx_iconstv (v := 3) hC dL_law_11 rfl ?_
  refine lx_icmp_ge hC 41 dL_law_12 (by decide) ?_ ?_
  · skip
    refine lx_aload_n hC dL_law_41 rfl 1 rfl ?_
    refine lx_iconstv (v := 0) hC dL_law_42 rfl ?_
    refine lx_iconstv (v := 3) hC dL_law_43 rfl ?_
    refine lx_callWN (as := [.ref 0, .int 0, .int 3]) (rest := []) hC hE (sat_L_addPhantoms (xl X) hl 0 3 s) cw_L_addPhantoms ciL wd579 cs_L_addPhantoms cd_L_addPhantoms (by decide) (Nat.le_of_ble_eq_true rfl) (Nat.le_of_ble_eq_true rfl) dL_law_44 rfl (fun v2 s1 _ => ?_)
    refine lx_pop2 hC dL_law_47 ?_
    refine lx_iconstv (v := 0) hC dL_law_48 rfl ?_
    refine lx_istore_n hC dL_law_49 rfl (by decide) ?_
    refine lx_sub [1, 2, 0] rfl ?_
    exact lx_lp (lv := fun a => [(0, .ref 2000), (1, .ref 0), (2, .int a.1)]) (st := fun _ => []) (sg := fun a => a.2) (fun kf hq a => l_L_law_b50 hC hE hl hx hr a.2 kf hq a.1) FUEL (0, s1)
  · skip
    refine lx_aload_n hC dL_law_15 rfl 1 rfl ?_
    refine lx_iconstv (v := 1) hC dL_law_16 rfl ?_
    refine lx_aload_n hC dL_law_17 rfl 0 rfl ?_
    refine lx_iconstv (v := 0) hC dL_law_18 rfl ?_
    refine lx_if fun h85 => hr 19 dL_law_19 h85 (by decide) ?_
    refine lx_iconstv (v := 3) hC dL_law_22 rfl ?_
    refine lx_iload_n hC dL_law_23 rfl 2 rfl ?_
    refine lx_imul hC dL_law_24 ?_
    refine lx_ishr hC dL_law_25 ?_
    refine lx_iconstv (v := 5) hC dL_law_26 rfl ?_
    refine lx_callPN hC (sat_L_chosen (xl X) hl ((cl (0 : Int32)) >>> ((3 * w2) &&& 31)) 5 s) (run_S (as := [.int ((cl (0 : Int32)) >>> ((3 * w2) &&& 31)), .int 5]) (rest := [.int 1, .ref 0]) hC hE cw_L_chosen ci_L_chosen wd642 cs_L_chosen cd_L_chosen (by decide) (by decide) (Nat.le_of_ble_eq_true rfl) dL_law_27 rfl) (fun v86 _ => ?_)
    refine lx_iadd hC dL_law_30 ?_
    refine lx_callWN (as := [.ref 0, .int (1 + v86)]) (rest := []) hC hE (sat_L_addRow (xl X) hl (1 + v86) s) cw_L_addRow ciL wd302 cs_L_addRow cd_L_addRow (by decide) (Nat.le_of_ble_eq_true rfl) (Nat.le_of_ble_eq_true rfl) dL_law_31 rfl (fun v88 s87 _ => ?_)
    refine lx_pop2 hC dL_law_34 ?_
    refine lx_iincN (v := 1) hC dL_law_35 2 rfl (by decide) rfl (fun y89 => ?_)
    refine lx_goto hC 10 dL_law_38 (by decide) ?_
    exact lx_sub [1, 2, 0] rfl (hk10 (y89, s87))
set_option maxRecDepth 100000 in
set_option maxHeartbeats 4000000 in
theorem l_L_law {X : Cx} {V : Vx} {A : Nat → Prop} {adV : Nat → Nat} {b : Nat} {cl : Int32 → Int32} (hC : Cok X V A RL cL_law 13) (hE : Env0 V adV A (xs X) (xs X).heap) (hl : (xl X).stackTraces = false) (hx : LwW X A b) (hr : CellOK X V A b cl) (s : Mem) : LX X V A 2048 94400 0 0 (LwF X b) 8 [(1, .ref 0), (0, .ref 2000)] [] s (m_L_law cl s) := by
  unfold m_L_law
  refine lx_iconstv (v := 0) hC dL_law_8 rfl ?_
  refine lx_istore_n hC dL_law_9 rfl (by decide) ?_
  refine lx_sub [2, 1, 0] rfl ?_
  exact lx_lp (lv := fun a => [(0, .ref 2000), (1, .ref 0), (2, .int a.1)]) (st := fun _ => []) (sg := fun a => a.2) (fun kf hq a => l_L_law_b10 hC hE hl hx hr a.2 kf hq a.1) FUEL (0, s)
