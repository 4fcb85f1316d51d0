/-! the rest of the cases -/
section
variable {X : Cx} {V : Vx} {A : Nat → Prop} {adV : Nat → Nat} {c0 s0 : Nat} {α : Type} {F : (α ⊕ String) × Mem → Room → State → Prop} {σ : Mem} {r : Res α} {CC SS k L : Nat} {ys : Nat → Int32} {A0 : Ab}
theorem bk_41 (hC : Cok X V A RL cL_law 9) (hE : Env0 V adV A (xs X) (xs X).heap) (hl : (xl X).stackTraces = false) (hS : Scr X V A L ys) (hL : L ≤ 1536) (hk : 3 * k + 2 < L) (h : J CC SS k σ A0) (kk : ∀ σ1 A1, J CC SS (k + 1) σ1 A1 → LX X V A 2048 94400 c0 s0 F 3341 (LV (nI (3 * k))) [] σ1 r) : LX X V A 2048 94400 c0 s0 F 2601 (LV (nI (3 * k))) [] σ r := by
  obtain ⟨v1, s1, v2, s2, A1, e1, e2, e3, e4, j⟩ := zo_boxCount (p := (ys (3 * k + 1))) h (by omega)
  refine lx_aload_n hC dL_law_2601 rfl 1 rfl ?_
  refine lx_aload_n hC dL_law_2602 rfl 0 rfl ?_
  refine lx_iload hC dL_law_2603 5 rfl ?_
  refine lx_iconstv (v := 1) hC dL_law_2605 rfl ?_
  refine lx_iadd hC dL_law_2606 ?_
  refine lx_sld (n := 3 * k + 1) hC hS (nI_add (3 * k) 1) (by omega) hL dL_law_2607 ?_
  refine lx_aload_n hC dL_law_2608 rfl 3 rfl ?_
  refine lx_callW (as := [.ref 0, .int (ys (3 * k + 1)), .ref 9]) (rest := []) hC hE (sat_L_boxCount (xl X) hl (ys (3 * k + 1)) σ) lc_boxCount li_L wd1095 ls_boxCount ld_boxCount (by decide) (by decide) (Nat.le_of_ble_eq_true rfl) dL_law_2609 rfl e1 ?_
  refine lx_istore hC dL_law_2612 (by decide) ?_
  refine lx_aload_n hC dL_law_2614 rfl 3 rfl ?_
  refine lx_aload_n hC dL_law_2615 rfl 1 rfl ?_
  refine lx_iload hC dL_law_2616 6 rfl ?_
  refine lx_iconstv (v := 1) hC dL_law_2618 rfl ?_
  refine lx_iadd hC dL_law_2619 ?_
  refine lx_sld (n := 3 * k + 1) hC hS (nI_add (3 * k) 1) (by omega) hL dL_law_2620 ?_
  refine lx_callL hC (sat_X8_boxCount (xl X) hl (ys (3 * k + 1)) s1) (run_V (as := [.int (ys (3 * k + 1))]) (rest := []) hC hE ly8 rfl cw_X8_boxCount ci_X8_boxCount wd2022 cs_X8_boxCount ce_X8_boxCount cd_X8_boxCount (by decide) (by decide) (Nat.le_of_ble_eq_true rfl) dL_law_2621 rfl) e2 ?_
  refine lx_istore hC dL_law_2624 (by decide) ?_
  refine lx_sub (lv' := (7, .int v2) :: (6, .int v1) :: LV (nI (3 * k))) [0, 1, 2, 3, 4, 5, 6, 7] rfl ?_
  exact tl_I hC hE hl dL_law_2626 dL_law_2627 dL_law_2630 dL_law_2632 dL_law_2637 dL_law_2639 dL_law_2642 dL_law_2643 dL_law_2644 dL_law_2645 dL_law_2647 dL_law_2648 dL_law_2649 dL_law_2654 (by decide) e3 e4 (kk _ _ j)
theorem bk_42 (hC : Cok X V A RL cL_law 9) (hE : Env0 V adV A (xs X) (xs X).heap) (hl : (xl X).stackTraces = false) (hS : Scr X V A L ys) (hL : L ≤ 1536) (hk : 3 * k + 2 < L) (h : J CC SS k σ A0) (kk : ∀ σ1 A1, J CC SS (k + 1) σ1 A1 → LX X V A 2048 94400 c0 s0 F 3341 (LV (nI (3 * k))) [] σ1 r) : LX X V A 2048 94400 c0 s0 F 2657 (LV (nI (3 * k))) [] σ r := by
  obtain ⟨v, s1, s2, A1, e1, e2, j⟩ := zo_moveCount  h (by omega)
  refine lx_aload_n hC dL_law_2657 rfl 1 rfl ?_
  refine lx_callL hC (sat_X7_moveCount (xl X) hl σ) (run_V (as := []) (rest := []) hC hE ly0 rfl cw_X7_moveCount ci_X7_moveCount wd367 cs_X7_moveCount ce_X7_moveCount cd_X7_moveCount (by decide) (by decide) (Nat.le_of_ble_eq_true rfl) dL_law_2658 rfl) e1 ?_
  refine lx_aload_n hC dL_law_2661 rfl 2 rfl ?_
  refine lx_callL hC (sat_X8_moveCount (xl X) hl s1) (run_V (as := []) (rest := [.int v]) hC hE ly8 rfl cw_X8_moveCount ci_X8_moveCount wd2026 cs_X8_moveCount ce_X8_moveCount cd_X8_moveCount (by decide) (by decide) (Nat.le_of_ble_eq_true rfl) dL_law_2662 rfl) e2 ?_
  refine lx_eqT hC 3341 dL_law_2665 (by decide) rfl ?_
  exact kk _ _ j
theorem bk_43 (hC : Cok X V A RL cL_law 9) (hE : Env0 V adV A (xs X) (xs X).heap) (hl : (xl X).stackTraces = false) (hS : Scr X V A L ys) (hL : L ≤ 1536) (hk : 3 * k + 2 < L) (h : J CC SS k σ A0) (kk : ∀ σ1 A1, J CC SS (k + 1) σ1 A1 → LX X V A 2048 94400 c0 s0 F 3341 (LV (nI (3 * k))) [] σ1 r) : LX X V A 2048 94400 c0 s0 F 2670 (LV (nI (3 * k))) [] σ r := by
  obtain ⟨v, s1, s2, A1, e1, e2, j⟩ := zo_removeCount  h (by omega)
  refine lx_aload_n hC dL_law_2670 rfl 1 rfl ?_
  refine lx_callL hC (sat_X7_removeCount (xl X) hl σ) (run_V (as := []) (rest := []) hC hE ly0 rfl cw_X7_removeCount ci_X7_removeCount wd371 cs_X7_removeCount ce_X7_removeCount cd_X7_removeCount (by decide) (by decide) (Nat.le_of_ble_eq_true rfl) dL_law_2671 rfl) e1 ?_
  refine lx_aload_n hC dL_law_2674 rfl 2 rfl ?_
  refine lx_callL hC (sat_X8_removeCount (xl X) hl s1) (run_V (as := []) (rest := [.int v]) hC hE ly8 rfl cw_X8_removeCount ci_X8_removeCount wd2030 cs_X8_removeCount ce_X8_removeCount cd_X8_removeCount (by decide) (by decide) (Nat.le_of_ble_eq_true rfl) dL_law_2675 rfl) e2 ?_
  refine lx_eqT hC 3341 dL_law_2678 (by decide) rfl ?_
  exact kk _ _ j
theorem bk_44 (hC : Cok X V A RL cL_law 9) (hE : Env0 V adV A (xs X) (xs X).heap) (hl : (xl X).stackTraces = false) (hS : Scr X V A L ys) (hL : L ≤ 1536) (hk : 3 * k + 2 < L) (h : J CC SS k σ A0) (kk : ∀ σ1 A1, J CC SS (k + 1) σ1 A1 → LX X V A 2048 94400 c0 s0 F 3341 (LV (nI (3 * k))) [] σ1 r) : LX X V A 2048 94400 c0 s0 F 2683 (LV (nI (3 * k))) [] σ r := by
  obtain ⟨v, s1, s2, A1, e1, e2, j⟩ := zo_addedLoudness  h (by omega)
  refine lx_aload_n hC dL_law_2683 rfl 1 rfl ?_
  refine lx_callL hC (sat_X7_addedLoudness (xl X) hl σ) (run_V (as := []) (rest := []) hC hE ly0 rfl cw_X7_addedLoudness ci_X7_addedLoudness wd375 cs_X7_addedLoudness ce_X7_addedLoudness cd_X7_addedLoudness (by decide) (by decide) (Nat.le_of_ble_eq_true rfl) dL_law_2684 rfl) e1 ?_
  refine lx_aload_n hC dL_law_2687 rfl 2 rfl ?_
  refine lx_callL hC (sat_X8_addedLoudness (xl X) hl s1) (run_V (as := []) (rest := [.long v]) hC hE ly8 rfl cw_X8_addedLoudness ci_X8_addedLoudness wd2034 cs_X8_addedLoudness ce_X8_addedLoudness cd_X8_addedLoudness (by decide) (by decide) (Nat.le_of_ble_eq_true rfl) dL_law_2688 rfl) e2 ?_
  refine lx_lcmp hC dL_law_2691 ?_
  refine lx_zT hC 3341 dL_law_2692 (by decide) ((lg_cmp_eq _ _).mpr rfl) ?_
  exact kk _ _ j
theorem bk_45 (hC : Cok X V A RL cL_law 9) (hE : Env0 V adV A (xs X) (xs X).heap) (hl : (xl X).stackTraces = false) (hS : Scr X V A L ys) (hL : L ≤ 1536) (hk : 3 * k + 2 < L) (h : J CC SS k σ A0) (kk : ∀ σ1 A1, J CC SS (k + 1) σ1 A1 → LX X V A 2048 94400 c0 s0 F 3341 (LV (nI (3 * k))) [] σ1 r) : LX X V A 2048 94400 c0 s0 F 2697 (LV (nI (3 * k))) [] σ r := by
  obtain ⟨v, s1, s2, A1, e1, e2, j⟩ := zo_lostLoudness  h (by omega)
  refine lx_aload_n hC dL_law_2697 rfl 1 rfl ?_
  refine lx_callL hC (sat_X7_lostLoudness (xl X) hl σ) (run_V (as := []) (rest := []) hC hE ly0 rfl cw_X7_lostLoudness ci_X7_lostLoudness wd379 cs_X7_lostLoudness ce_X7_lostLoudness cd_X7_lostLoudness (by decide) (by decide) (Nat.le_of_ble_eq_true rfl) dL_law_2698 rfl) e1 ?_
  refine lx_aload_n hC dL_law_2701 rfl 2 rfl ?_
  refine lx_callL hC (sat_X8_lostLoudness (xl X) hl s1) (run_V (as := []) (rest := [.long v]) hC hE ly8 rfl cw_X8_lostLoudness ci_X8_lostLoudness wd2038 cs_X8_lostLoudness ce_X8_lostLoudness cd_X8_lostLoudness (by decide) (by decide) (Nat.le_of_ble_eq_true rfl) dL_law_2702 rfl) e2 ?_
  refine lx_lcmp hC dL_law_2705 ?_
  refine lx_zT hC 3341 dL_law_2706 (by decide) ((lg_cmp_eq _ _).mpr rfl) ?_
  exact kk _ _ j
theorem bk_46 (hC : Cok X V A RL cL_law 9) (hE : Env0 V adV A (xs X) (xs X).heap) (hl : (xl X).stackTraces = false) (hS : Scr X V A L ys) (hL : L ≤ 1536) (hk : 3 * k + 2 < L) (h : J CC SS k σ A0) (kk : ∀ σ1 A1, J CC SS (k + 1) σ1 A1 → LX X V A 2048 94400 c0 s0 F 3341 (LV (nI (3 * k))) [] σ1 r) : LX X V A 2048 94400 c0 s0 F 2711 (LV (nI (3 * k))) [] σ r := by
  obtain ⟨v, s1, s2, A1, e1, e2, j⟩ := zo_activeLoudness  h (by omega)
  refine lx_aload_n hC dL_law_2711 rfl 1 rfl ?_
  refine lx_callL hC (sat_X7_activeLoudness (xl X) hl σ) (run_V (as := []) (rest := []) hC hE ly0 rfl cw_X7_activeLoudness ci_X7_activeLoudness wd383 cs_X7_activeLoudness ce_X7_activeLoudness cd_X7_activeLoudness (by decide) (by decide) (Nat.le_of_ble_eq_true rfl) dL_law_2712 rfl) e1 ?_
  refine lx_aload_n hC dL_law_2715 rfl 2 rfl ?_
  refine lx_callL hC (sat_X8_activeLoudness (xl X) hl s1) (run_V (as := []) (rest := [.long v]) hC hE ly8 rfl cw_X8_activeLoudness ci_X8_activeLoudness wd2042 cs_X8_activeLoudness ce_X8_activeLoudness cd_X8_activeLoudness (by decide) (by decide) (Nat.le_of_ble_eq_true rfl) dL_law_2716 rfl) e2 ?_
  refine lx_lcmp hC dL_law_2719 ?_
  refine lx_zT hC 3341 dL_law_2720 (by decide) ((lg_cmp_eq _ _).mpr rfl) ?_
  exact kk _ _ j
theorem bk_47 (hC : Cok X V A RL cL_law 9) (hE : Env0 V adV A (xs X) (xs X).heap) (hl : (xl X).stackTraces = false) (hS : Scr X V A L ys) (hL : L ≤ 1536) (hk : 3 * k + 2 < L) (h : J CC SS k σ A0) (kk : ∀ σ1 A1, J CC SS (k + 1) σ1 A1 → LX X V A 2048 94400 c0 s0 F 3341 (LV (nI (3 * k))) [] σ1 r) : LX X V A 2048 94400 c0 s0 F 2725 (LV (nI (3 * k))) [] σ r := by
  obtain ⟨v1, s1, v2, s2, A1, e1, e2, e3, e4, j⟩ := zo_meanOccupancy  h (by omega)
  refine lx_aload_n hC dL_law_2725 rfl 1 rfl ?_
  refine lx_aload hC dL_law_2726 4 rfl ?_
  refine lx_callW (as := [.ref 0, .ref 10]) (rest := []) hC hE (sat_L_meanOccupancy (xl X) hl σ) lc_meanOccupancy li_L wd1106 ls_meanOccupancy ld_meanOccupancy (by decide) (by decide) (Nat.le_of_ble_eq_true rfl) dL_law_2728 rfl e1 ?_
  refine lx_istore hC dL_law_2731 (by decide) ?_
  refine lx_aload_n hC dL_law_2733 rfl 3 rfl ?_
  refine lx_callL hC (sat_X8_meanOccupancy (xl X) hl s1) (run_V (as := []) (rest := []) hC hE ly8 rfl cw_X8_meanOccupancy ci_X8_meanOccupancy wd2050 cs_X8_meanOccupancy ce_X8_meanOccupancy cd_X8_meanOccupancy (by decide) (by decide) (Nat.le_of_ble_eq_true rfl) dL_law_2734 rfl) e2 ?_
  refine lx_dstore hC dL_law_2737 (by decide) ?_
  refine lx_sub (lv' := (7, .double v2) :: (6, .int v1) :: LV (nI (3 * k))) [0, 1, 2, 3, 4, 5, 6, 7] rfl ?_
  refine lx_aload_n hC dL_law_2739 rfl 4 rfl ?_
  refine lx_thr hC hE hl dL_law_2740 ?_
  refine lx_iload hC dL_law_2743 1 rfl ?_
  refine lx_eqT hC 2750 dL_law_2745 (by decide) e3 ?_
  refine lx_iload hC dL_law_2750 1 rfl ?_
  by_cases z : v1 = 0
  · refine lx_nF hC 2787 dL_law_2752 (by decide) z ?_
    refine lx_aload hC dL_law_2755 6 rfl ?_
    refine lx_iconstv (v := 0) hC dL_law_2757 rfl ?_
    refine lx_outD hC dL_law_2758 ?_
    refine lx_dload hC dL_law_2759 0 rfl ?_
    refine lx_dcmp hC dL_law_2761 ?_
    refine lx_zT hC 2787 dL_law_2762 (by decide) (by rw [(e4 z).1]; exact (e4 z).2) ?_
    refine lx_goto hC 3341 dL_law_2787 (by decide) ?_
    exact lx_sub [2, 3, 4, 5, 6, 7] rfl (kk _ _ j)
  · refine lx_nT hC 2787 dL_law_2752 (by decide) z ?_
    refine lx_goto hC 3341 dL_law_2787 (by decide) ?_
    exact lx_sub [2, 3, 4, 5, 6, 7] rfl (kk _ _ j)
theorem bk_48 (hC : Cok X V A RL cL_law 9) (hE : Env0 V adV A (xs X) (xs X).heap) (hl : (xl X).stackTraces = false) (hS : Scr X V A L ys) (hL : L ≤ 1536) (hk : 3 * k + 2 < L) (h : J CC SS k σ A0) (kk : ∀ σ1 A1, J CC SS (k + 1) σ1 A1 → LX X V A 2048 94400 c0 s0 F 3341 (LV (nI (3 * k))) [] σ1 r) : LX X V A 2048 94400 c0 s0 F 2790 (LV (nI (3 * k))) [] σ r := by
  obtain ⟨v1, s1, v2, s2, A1, e1, e2, e3, e4, j⟩ := zo_realShare  h (by omega)
  refine lx_aload_n hC dL_law_2790 rfl 1 rfl ?_
  refine lx_aload hC dL_law_2791 4 rfl ?_
  refine lx_callW (as := [.ref 0, .ref 10]) (rest := []) hC hE (sat_L_realShare (xl X) hl σ) lc_realShare li_L wd1129 ls_realShare ld_realShare (by decide) (by decide) (Nat.le_of_ble_eq_true rfl) dL_law_2793 rfl e1 ?_
  refine lx_istore hC dL_law_2796 (by decide) ?_
  refine lx_aload_n hC dL_law_2798 rfl 3 rfl ?_
  refine lx_callL hC (sat_X8_realShare (xl X) hl s1) (run_V (as := []) (rest := []) hC hE ly8 rfl cw_X8_realShare ci_X8_realShare wd2054 cs_X8_realShare ce_X8_realShare cd_X8_realShare (by decide) (by decide) (Nat.le_of_ble_eq_true rfl) dL_law_2799 rfl) e2 ?_
  refine lx_fstore hC dL_law_2802 (by decide) ?_
  refine lx_sub (lv' := (7, .float v2) :: (6, .int v1) :: LV (nI (3 * k))) [0, 1, 2, 3, 4, 5, 6, 7] rfl ?_
  refine lx_aload_n hC dL_law_2804 rfl 4 rfl ?_
  refine lx_thr hC hE hl dL_law_2805 ?_
  refine lx_iload hC dL_law_2808 1 rfl ?_
  refine lx_eqT hC 2815 dL_law_2810 (by decide) e3 ?_
  refine lx_iload hC dL_law_2815 1 rfl ?_
  by_cases z : v1 = 0
  · refine lx_nF hC 2853 dL_law_2817 (by decide) z ?_
    refine lx_aload hC dL_law_2820 6 rfl ?_
    refine lx_iconstv (v := 0) hC dL_law_2822 rfl ?_
    refine lx_outD hC dL_law_2823 ?_
    refine lx_fload hC dL_law_2824 0 rfl ?_
    refine lx_f2d hC dL_law_2826 (e4 z).2.1 ?_
    refine lx_dcmp hC dL_law_2827 ?_
    refine lx_zT hC 2853 dL_law_2828 (by decide) (by rw [(e4 z).1]; exact (e4 z).2.2) ?_
    refine lx_goto hC 3341 dL_law_2853 (by decide) ?_
    exact lx_sub [2, 3, 4, 5, 6, 7] rfl (kk _ _ j)
  · refine lx_nT hC 2853 dL_law_2817 (by decide) z ?_
    refine lx_goto hC 3341 dL_law_2853 (by decide) ?_
    exact lx_sub [2, 3, 4, 5, 6, 7] rfl (kk _ _ j)
theorem bk_49 (hC : Cok X V A RL cL_law 9) (hE : Env0 V adV A (xs X) (xs X).heap) (hl : (xl X).stackTraces = false) (hS : Scr X V A L ys) (hL : L ≤ 1536) (hk : 3 * k + 2 < L) (h : J CC SS k σ A0) (kk : ∀ σ1 A1, J CC SS (k + 1) σ1 A1 → LX X V A 2048 94400 c0 s0 F 3341 (LV (nI (3 * k))) [] σ1 r) : LX X V A 2048 94400 c0 s0 F 2856 (LV (nI (3 * k))) [] σ r := by
  obtain ⟨v, s1, s2, A1, e1, e2, j⟩ := zo_isConsistent  h (by omega)
  refine lx_aload_n hC dL_law_2856 rfl 1 rfl ?_
  refine lx_callL hC (sat_X7_isConsistent (xl X) hl σ) (run_V (as := []) (rest := []) hC hE ly0 rfl cw_X7_isConsistent ci_X7_isConsistent wd391 cs_X7_isConsistent ce_X7_isConsistent cd_X7_isConsistent (by decide) (by decide) (Nat.le_of_ble_eq_true rfl) dL_law_2857 rfl) e1 ?_
  refine lx_aload_n hC dL_law_2860 rfl 2 rfl ?_
  refine lx_callL hC (sat_X8_isConsistent (xl X) hl s1) (run_V (as := []) (rest := [.int v]) hC hE ly8 rfl cw_X8_isConsistent ci_X8_isConsistent wd2058 cs_X8_isConsistent ce_X8_isConsistent cd_X8_isConsistent (by decide) (by decide) (Nat.le_of_ble_eq_true rfl) dL_law_2861 rfl) e2 ?_
  refine lx_eqT hC 3341 dL_law_2864 (by decide) rfl ?_
  exact kk _ _ j
theorem bk_50 (hC : Cok X V A RL cL_law 9) (hE : Env0 V adV A (xs X) (xs X).heap) (hl : (xl X).stackTraces = false) (hS : Scr X V A L ys) (hL : L ≤ 1536) (hk : 3 * k + 2 < L) (h : J CC SS k σ A0) (kk : ∀ σ1 A1, J CC SS (k + 1) σ1 A1 → LX X V A 2048 94400 c0 s0 F 3341 (LV (nI (3 * k))) [] σ1 r) : LX X V A 2048 94400 c0 s0 F 2869 (LV (nI (3 * k))) [] σ r := by
  obtain ⟨v1, s1, v2, s2, A1, e1, e2, e3, e4, j⟩ := zo_formatRow (p := (ys (3 * k + 1))) h (by omega)
  refine lx_aload_n hC dL_law_2869 rfl 1 rfl ?_
  refine lx_aload_n hC dL_law_2870 rfl 0 rfl ?_
  refine lx_iload hC dL_law_2871 5 rfl ?_
  refine lx_iconstv (v := 1) hC dL_law_2873 rfl ?_
  refine lx_iadd hC dL_law_2874 ?_
  refine lx_sld (n := 3 * k + 1) hC hS (nI_add (3 * k) 1) (by omega) hL dL_law_2875 ?_
  refine lx_aload_n hC dL_law_2876 rfl 3 rfl ?_
  refine lx_callW (as := [.ref 0, .int (ys (3 * k + 1)), .ref 9]) (rest := []) hC hE (sat_L_formatRow (xl X) hl (ys (3 * k + 1)) σ) lc_formatRow li_L wd1140 ls_formatRow ld_formatRow (by decide) (by decide) (Nat.le_of_ble_eq_true rfl) dL_law_2877 rfl e1 ?_
  refine lx_istore hC dL_law_2880 (by decide) ?_
  refine lx_aload_n hC dL_law_2882 rfl 3 rfl ?_
  refine lx_aload_n hC dL_law_2883 rfl 1 rfl ?_
  refine lx_iload hC dL_law_2884 6 rfl ?_
  refine lx_iconstv (v := 1) hC dL_law_2886 rfl ?_
  refine lx_iadd hC dL_law_2887 ?_
  refine lx_sld (n := 3 * k + 1) hC hS (nI_add (3 * k) 1) (by omega) hL dL_law_2888 ?_
  refine lx_callL hC (sat_X8_formatRow (xl X) hl (ys (3 * k + 1)) s1) (run_V (as := [.int (ys (3 * k + 1))]) (rest := []) hC hE ly8 rfl cw_X8_formatRow ci_X8_formatRow wd2062 cs_X8_formatRow ce_X8_formatRow cd_X8_formatRow (by decide) (by decide) (Nat.le_of_ble_eq_true rfl) dL_law_2889 rfl) e2 ?_
  refine lx_istore hC dL_law_2892 (by decide) ?_
  refine lx_sub (lv' := (7, .int v2) :: (6, .int v1) :: LV (nI (3 * k))) [0, 1, 2, 3, 4, 5, 6, 7] rfl ?_
  exact tl_I hC hE hl dL_law_2894 dL_law_2895 dL_law_2898 dL_law_2900 dL_law_2905 dL_law_2907 dL_law_2910 dL_law_2911 dL_law_2912 dL_law_2913 dL_law_2915 dL_law_2916 dL_law_2917 dL_law_2922 (by decide) e3 e4 (kk _ _ j)
theorem bk_51 (hC : Cok X V A RL cL_law 9) (hE : Env0 V adV A (xs X) (xs X).heap) (hl : (xl X).stackTraces = false) (hS : Scr X V A L ys) (hL : L ≤ 1536) (hk : 3 * k + 2 < L) (h : J CC SS k σ A0) (kk : ∀ σ1 A1, J CC SS (k + 1) σ1 A1 → LX X V A 2048 94400 c0 s0 F 3341 (LV (nI (3 * k))) [] σ1 r) : LX X V A 2048 94400 c0 s0 F 2925 (LV (nI (3 * k))) [] σ r := by
  obtain ⟨v1, s1, v2, s2, A1, e1, e2, e3, e4, j⟩ := zo_formatEcho (p := (ys (3 * k + 1))) h (by omega)
  refine lx_aload_n hC dL_law_2925 rfl 1 rfl ?_
  refine lx_aload_n hC dL_law_2926 rfl 0 rfl ?_
  refine lx_iload hC dL_law_2927 5 rfl ?_
  refine lx_iconstv (v := 1) hC dL_law_2929 rfl ?_
  refine lx_iadd hC dL_law_2930 ?_
  refine lx_sld (n := 3 * k + 1) hC hS (nI_add (3 * k) 1) (by omega) hL dL_law_2931 ?_
  refine lx_aload_n hC dL_law_2932 rfl 3 rfl ?_
  refine lx_callW (as := [.ref 0, .int (ys (3 * k + 1)), .ref 9]) (rest := []) hC hE (sat_L_formatEcho (xl X) hl (ys (3 * k + 1)) σ) lc_formatEcho li_L wd1430 ls_formatEcho ld_formatEcho (by decide) (by decide) (Nat.le_of_ble_eq_true rfl) dL_law_2933 rfl e1 ?_
  refine lx_istore hC dL_law_2936 (by decide) ?_
  refine lx_aload_n hC dL_law_2938 rfl 3 rfl ?_
  refine lx_aload_n hC dL_law_2939 rfl 1 rfl ?_
  refine lx_iload hC dL_law_2940 6 rfl ?_
  refine lx_iconstv (v := 1) hC dL_law_2942 rfl ?_
  refine lx_iadd hC dL_law_2943 ?_
  refine lx_sld (n := 3 * k + 1) hC hS (nI_add (3 * k) 1) (by omega) hL dL_law_2944 ?_
  refine lx_callL hC (sat_X8_formatEcho (xl X) hl (ys (3 * k + 1)) s1) (run_V (as := [.int (ys (3 * k + 1))]) (rest := []) hC hE ly8 rfl cw_X8_formatEcho ci_X8_formatEcho wd2078 cs_X8_formatEcho ce_X8_formatEcho cd_X8_formatEcho (by decide) (by decide) (Nat.le_of_ble_eq_true rfl) dL_law_2945 rfl) e2 ?_
  refine lx_istore hC dL_law_2948 (by decide) ?_
  refine lx_sub (lv' := (7, .int v2) :: (6, .int v1) :: LV (nI (3 * k))) [0, 1, 2, 3, 4, 5, 6, 7] rfl ?_
  exact tl_I hC hE hl dL_law_2950 dL_law_2951 dL_law_2954 dL_law_2956 dL_law_2961 dL_law_2963 dL_law_2966 dL_law_2967 dL_law_2968 dL_law_2969 dL_law_2971 dL_law_2972 dL_law_2973 dL_law_2978 (by decide) e3 e4 (kk _ _ j)
theorem bk_52 (hC : Cok X V A RL cL_law 9) (hE : Env0 V adV A (xs X) (xs X).heap) (hl : (xl X).stackTraces = false) (hS : Scr X V A L ys) (hL : L ≤ 1536) (hk : 3 * k + 2 < L) (h : J CC SS k σ A0) (kk : ∀ σ1 A1, J CC SS (k + 1) σ1 A1 → LX X V A 2048 94400 c0 s0 F 3341 (LV (nI (3 * k))) [] σ1 r) : LX X V A 2048 94400 c0 s0 F 2981 (LV (nI (3 * k))) [] σ r := by
  obtain ⟨v1, s1, v2, s2, A1, e1, e2, e3, e4, j⟩ := zo_lineChar (p := (ys (3 * k + 1))) h (by omega)
  refine lx_aload_n hC dL_law_2981 rfl 1 rfl ?_
  refine lx_aload_n hC dL_law_2982 rfl 0 rfl ?_
  refine lx_iload hC dL_law_2983 5 rfl ?_
  refine lx_iconstv (v := 1) hC dL_law_2985 rfl ?_
  refine lx_iadd hC dL_law_2986 ?_
  refine lx_sld (n := 3 * k + 1) hC hS (nI_add (3 * k) 1) (by omega) hL dL_law_2987 ?_
  refine lx_aload_n hC dL_law_2988 rfl 3 rfl ?_
  refine lx_callW (as := [.ref 0, .int (ys (3 * k + 1)), .ref 9]) (rest := []) hC hE (sat_L_lineChar (xl X) hl (ys (3 * k + 1)) σ) lc_lineChar li_L wd1437 ls_lineChar ld_lineChar (by decide) (by decide) (Nat.le_of_ble_eq_true rfl) dL_law_2989 rfl e1 ?_
  refine lx_istore hC dL_law_2992 (by decide) ?_
  refine lx_aload_n hC dL_law_2994 rfl 3 rfl ?_
  refine lx_aload_n hC dL_law_2995 rfl 1 rfl ?_
  refine lx_iload hC dL_law_2996 6 rfl ?_
  refine lx_iconstv (v := 1) hC dL_law_2998 rfl ?_
  refine lx_iadd hC dL_law_2999 ?_
  refine lx_sld (n := 3 * k + 1) hC hS (nI_add (3 * k) 1) (by omega) hL dL_law_3000 ?_
  refine lx_callL hC (sat_X8_lineChar (xl X) hl (ys (3 * k + 1)) s1) (run_V (as := [.int (ys (3 * k + 1))]) (rest := []) hC hE ly8 rfl cw_X8_lineChar ci_X8_lineChar wd2082 cs_X8_lineChar ce_X8_lineChar cd_X8_lineChar (by decide) (by decide) (Nat.le_of_ble_eq_true rfl) dL_law_3001 rfl) e2 ?_
  refine lx_istore hC dL_law_3004 (by decide) ?_
  refine lx_sub (lv' := (7, .int v2) :: (6, .int v1) :: LV (nI (3 * k))) [0, 1, 2, 3, 4, 5, 6, 7] rfl ?_
  exact tl_I hC hE hl dL_law_3006 dL_law_3007 dL_law_3010 dL_law_3012 dL_law_3017 dL_law_3019 dL_law_3022 dL_law_3023 dL_law_3024 dL_law_3025 dL_law_3027 dL_law_3028 dL_law_3029 dL_law_3034 (by decide) e3 e4 (kk _ _ j)
theorem bk_53 (hC : Cok X V A RL cL_law 9) (hE : Env0 V adV A (xs X) (xs X).heap) (hl : (xl X).stackTraces = false) (hS : Scr X V A L ys) (hL : L ≤ 1536) (hk : 3 * k + 2 < L) (h : J CC SS k σ A0) (kk : ∀ σ1 A1, J CC SS (k + 1) σ1 A1 → LX X V A 2048 94400 c0 s0 F 3341 (LV (nI (3 * k))) [] σ1 r) : LX X V A 2048 94400 c0 s0 F 3037 (LV (nI (3 * k))) [] σ r := by
  obtain ⟨v1, s1, v2, s2, A1, e1, e2, e3, e4, j⟩ := zo_append (p := ((ys (3 * k + 1)).toUInt32 % 65536).toInt32) h (by omega)
  refine lx_aload_n hC dL_law_3037 rfl 1 rfl ?_
  refine lx_aload_n hC dL_law_3038 rfl 0 rfl ?_
  refine lx_iload hC dL_law_3039 5 rfl ?_
  refine lx_iconstv (v := 1) hC dL_law_3041 rfl ?_
  refine lx_iadd hC dL_law_3042 ?_
  refine lx_sld (n := 3 * k + 1) hC hS (nI_add (3 * k) 1) (by omega) hL dL_law_3043 ?_
  refine lx_i2c hC dL_law_3044 ?_
  refine lx_aload_n hC dL_law_3045 rfl 3 rfl ?_
  refine lx_callW (as := [.ref 0, .int ((ys (3 * k + 1)).toUInt32 % 65536).toInt32, .ref 9]) (rest := []) hC hE (sat_L_append (xl X) hl ((ys (3 * k + 1)).toUInt32 % 65536).toInt32 σ) lc_append li_L wd1455 ls_append ld_append (by decide) (by decide) (Nat.le_of_ble_eq_true rfl) dL_law_3046 rfl e1 ?_
  refine lx_istore hC dL_law_3049 (by decide) ?_
  refine lx_aload_n hC dL_law_3051 rfl 3 rfl ?_
  refine lx_aload_n hC dL_law_3052 rfl 1 rfl ?_
  refine lx_iload hC dL_law_3053 6 rfl ?_
  refine lx_iconstv (v := 1) hC dL_law_3055 rfl ?_
  refine lx_iadd hC dL_law_3056 ?_
  refine lx_sld (n := 3 * k + 1) hC hS (nI_add (3 * k) 1) (by omega) hL dL_law_3057 ?_
  refine lx_i2c hC dL_law_3058 ?_
  refine lx_callL hC (sat_X8_append (xl X) hl ((ys (3 * k + 1)).toUInt32 % 65536).toInt32 s1) (run_V (as := [.int ((ys (3 * k + 1)).toUInt32 % 65536).toInt32]) (rest := []) hC hE ly8 rfl cw_X8_append ci_X8_append wd2086 cs_X8_append ce_X8_append cd_X8_append (by decide) (by decide) (Nat.le_of_ble_eq_true rfl) dL_law_3059 rfl) e2 ?_
  refine lx_istore hC dL_law_3062 (by decide) ?_
  refine lx_sub (lv' := (7, .int v2) :: (6, .int v1) :: LV (nI (3 * k))) [0, 1, 2, 3, 4, 5, 6, 7] rfl ?_
  exact tl_I hC hE hl dL_law_3064 dL_law_3065 dL_law_3068 dL_law_3070 dL_law_3075 dL_law_3077 dL_law_3080 dL_law_3081 dL_law_3082 dL_law_3083 dL_law_3085 dL_law_3086 dL_law_3087 dL_law_3092 (by decide) e3 e4 (kk _ _ j)
theorem bk_54 (hC : Cok X V A RL cL_law 9) (hE : Env0 V adV A (xs X) (xs X).heap) (hl : (xl X).stackTraces = false) (hS : Scr X V A L ys) (hL : L ≤ 1536) (hk : 3 * k + 2 < L) (h : J CC SS k σ A0) (kk : ∀ σ1 A1, J CC SS (k + 1) σ1 A1 → LX X V A 2048 94400 c0 s0 F 3341 (LV (nI (3 * k))) [] σ1 r) : LX X V A 2048 94400 c0 s0 F 3095 (LV (nI (3 * k))) [] σ r := by
  obtain ⟨v1, s1, v2, s2, A1, e1, e2, e3, e4, j⟩ := zo_run  h (by omega)
  refine lx_aload_n hC dL_law_3095 rfl 1 rfl ?_
  refine lx_aload_n hC dL_law_3096 rfl 3 rfl ?_
  refine lx_callW (as := [.ref 0, .ref 9]) (rest := []) hC hE (sat_L_run (xl X) hl σ) lc_run li_L wd1464 ls_run ld_run (by decide) (by decide) (Nat.le_of_ble_eq_true rfl) dL_law_3097 rfl e1 ?_
  refine lx_istore hC dL_law_3100 (by decide) ?_
  refine lx_aload_n hC dL_law_3102 rfl 3 rfl ?_
  refine lx_callL hC (sat_X8_run (xl X) hl s1) (run_V (as := []) (rest := []) hC hE ly8 rfl cw_X8_run ci_X8_run wd2090 cs_X8_run ce_X8_run cd_X8_run (by decide) (by decide) (Nat.le_of_ble_eq_true rfl) dL_law_3103 rfl) e2 ?_
  refine lx_istore hC dL_law_3106 (by decide) ?_
  refine lx_sub (lv' := (7, .int v2) :: (6, .int v1) :: LV (nI (3 * k))) [0, 1, 2, 3, 4, 5, 6, 7] rfl ?_
  exact tl_I hC hE hl dL_law_3108 dL_law_3109 dL_law_3112 dL_law_3114 dL_law_3119 dL_law_3121 dL_law_3124 dL_law_3125 dL_law_3126 dL_law_3127 dL_law_3129 dL_law_3130 dL_law_3131 dL_law_3136 (by decide) e3 e4 (kk _ _ j)
theorem bk_55 (hC : Cok X V A RL cL_law 9) (hE : Env0 V adV A (xs X) (xs X).heap) (hl : (xl X).stackTraces = false) (hS : Scr X V A L ys) (hL : L ≤ 1536) (hk : 3 * k + 2 < L) (h : J CC SS k σ A0) (kk : ∀ σ1 A1, J CC SS (k + 1) σ1 A1 → LX X V A 2048 94400 c0 s0 F 3341 (LV (nI (3 * k))) [] σ1 r) : LX X V A 2048 94400 c0 s0 F 3139 (LV (nI (3 * k))) [] σ r := by
  obtain ⟨v1, s1, v2, s2, A1, e1, e2, e3, e4, j⟩ := zo_errorPosition  h (by omega)
  refine lx_aload_n hC dL_law_3139 rfl 1 rfl ?_
  refine lx_aload_n hC dL_law_3140 rfl 3 rfl ?_
  refine lx_callW (as := [.ref 0, .ref 9]) (rest := []) hC hE (sat_L_errorPosition (xl X) hl σ) lc_errorPosition li_L wd1559 ls_errorPosition ld_errorPosition (by decide) (by decide) (Nat.le_of_ble_eq_true rfl) dL_law_3141 rfl e1 ?_
  refine lx_istore hC dL_law_3144 (by decide) ?_
  refine lx_aload_n hC dL_law_3146 rfl 3 rfl ?_
  refine lx_callL hC (sat_X8_errorPosition (xl X) hl s1) (run_V (as := []) (rest := []) hC hE ly8 rfl cw_X8_errorPosition ci_X8_errorPosition wd2162 cs_X8_errorPosition ce_X8_errorPosition cd_X8_errorPosition (by decide) (by decide) (Nat.le_of_ble_eq_true rfl) dL_law_3147 rfl) e2 ?_
  refine lx_istore hC dL_law_3150 (by decide) ?_
  refine lx_sub (lv' := (7, .int v2) :: (6, .int v1) :: LV (nI (3 * k))) [0, 1, 2, 3, 4, 5, 6, 7] rfl ?_
  exact tl_I hC hE hl dL_law_3152 dL_law_3153 dL_law_3156 dL_law_3158 dL_law_3163 dL_law_3165 dL_law_3168 dL_law_3169 dL_law_3170 dL_law_3171 dL_law_3173 dL_law_3174 dL_law_3175 dL_law_3180 (by decide) e3 e4 (kk _ _ j)
theorem bk_56 (hC : Cok X V A RL cL_law 9) (hE : Env0 V adV A (xs X) (xs X).heap) (hl : (xl X).stackTraces = false) (hS : Scr X V A L ys) (hL : L ≤ 1536) (hk : 3 * k + 2 < L) (h : J CC SS k σ A0) (kk : ∀ σ1 A1, J CC SS (k + 1) σ1 A1 → LX X V A 2048 94400 c0 s0 F 3341 (LV (nI (3 * k))) [] σ1 r) : LX X V A 2048 94400 c0 s0 F 3183 (LV (nI (3 * k))) [] σ r := by
  obtain ⟨v1, s1, v2, s2, A1, e1, e2, e3, e4, j⟩ := zo_failedCommand  h (by omega)
  refine lx_aload_n hC dL_law_3183 rfl 1 rfl ?_
  refine lx_aload_n hC dL_law_3184 rfl 3 rfl ?_
  refine lx_callW (as := [.ref 0, .ref 9]) (rest := []) hC hE (sat_L_failedCommand (xl X) hl σ) lc_failedCommand li_L wd1567 ls_failedCommand ld_failedCommand (by decide) (by decide) (Nat.le_of_ble_eq_true rfl) dL_law_3185 rfl e1 ?_
  refine lx_istore hC dL_law_3188 (by decide) ?_
  refine lx_aload_n hC dL_law_3190 rfl 3 rfl ?_
  refine lx_callL hC (sat_X8_failedCommand (xl X) hl s1) (run_V (as := []) (rest := []) hC hE ly8 rfl cw_X8_failedCommand ci_X8_failedCommand wd2166 cs_X8_failedCommand ce_X8_failedCommand cd_X8_failedCommand (by decide) (by decide) (Nat.le_of_ble_eq_true rfl) dL_law_3191 rfl) e2 ?_
  refine lx_istore hC dL_law_3194 (by decide) ?_
  refine lx_sub (lv' := (7, .int v2) :: (6, .int v1) :: LV (nI (3 * k))) [0, 1, 2, 3, 4, 5, 6, 7] rfl ?_
  exact tl_I hC hE hl dL_law_3196 dL_law_3197 dL_law_3200 dL_law_3202 dL_law_3207 dL_law_3209 dL_law_3212 dL_law_3213 dL_law_3214 dL_law_3215 dL_law_3217 dL_law_3218 dL_law_3219 dL_law_3224 (by decide) e3 e4 (kk _ _ j)
theorem bk_57 (hC : Cok X V A RL cL_law 9) (hE : Env0 V adV A (xs X) (xs X).heap) (hl : (xl X).stackTraces = false) (hS : Scr X V A L ys) (hL : L ≤ 1536) (hk : 3 * k + 2 < L) (h : J CC SS k σ A0) (kk : ∀ σ1 A1, J CC SS (k + 1) σ1 A1 → LX X V A 2048 94400 c0 s0 F 3341 (LV (nI (3 * k))) [] σ1 r) : LX X V A 2048 94400 c0 s0 F 3227 (LV (nI (3 * k))) [] σ r := by
  obtain ⟨v, s1, s2, A1, e1, e2, j⟩ := zo_undoableCount  h (by omega)
  refine lx_aload_n hC dL_law_3227 rfl 1 rfl ?_
  refine lx_callL hC (sat_X7_undoableCount (xl X) hl σ) (run_V (as := []) (rest := []) hC hE ly0 rfl cw_X7_undoableCount ci_X7_undoableCount wd476 cs_X7_undoableCount ce_X7_undoableCount cd_X7_undoableCount (by decide) (by decide) (Nat.le_of_ble_eq_true rfl) dL_law_3228 rfl) e1 ?_
  refine lx_aload_n hC dL_law_3231 rfl 2 rfl ?_
  refine lx_callL hC (sat_X8_undoableCount (xl X) hl s1) (run_V (as := []) (rest := [.int v]) hC hE ly8 rfl cw_X8_undoableCount ci_X8_undoableCount wd2170 cs_X8_undoableCount ce_X8_undoableCount cd_X8_undoableCount (by decide) (by decide) (Nat.le_of_ble_eq_true rfl) dL_law_3232 rfl) e2 ?_
  refine lx_eqT hC 3341 dL_law_3235 (by decide) rfl ?_
  exact kk _ _ j
theorem bk_58 (hC : Cok X V A RL cL_law 9) (hE : Env0 V adV A (xs X) (xs X).heap) (hl : (xl X).stackTraces = false) (hS : Scr X V A L ys) (hL : L ≤ 1536) (hk : 3 * k + 2 < L) (h : J CC SS k σ A0) (kk : ∀ σ1 A1, J CC SS (k + 1) σ1 A1 → LX X V A 2048 94400 c0 s0 F 3341 (LV (nI (3 * k))) [] σ1 r) : LX X V A 2048 94400 c0 s0 F 3240 (LV (nI (3 * k))) [] σ r := by
  obtain ⟨v1, s1, v2, s2, A1, e1, e2, e3, e4, j⟩ := zo_undo  h (by omega)
  refine lx_aload_n hC dL_law_3240 rfl 1 rfl ?_
  refine lx_aload_n hC dL_law_3241 rfl 3 rfl ?_
  refine lx_callW (as := [.ref 0, .ref 9]) (rest := []) hC hE (sat_L_undo (xl X) hl σ) lc_undo li_L wd1575 ls_undo ld_undo (by decide) (by decide) (Nat.le_of_ble_eq_true rfl) dL_law_3242 rfl e1 ?_
  refine lx_istore hC dL_law_3245 (by decide) ?_
  refine lx_aload_n hC dL_law_3247 rfl 3 rfl ?_
  refine lx_callL hC (sat_X8_undo (xl X) hl s1) (run_V (as := []) (rest := []) hC hE ly8 rfl cw_X8_undo ci_X8_undo wd2174 cs_X8_undo ce_X8_undo cd_X8_undo (by decide) (by decide) (Nat.le_of_ble_eq_true rfl) dL_law_3248 rfl) e2 ?_
  refine lx_istore hC dL_law_3251 (by decide) ?_
  refine lx_sub (lv' := (7, .int v2) :: (6, .int v1) :: LV (nI (3 * k))) [0, 1, 2, 3, 4, 5, 6, 7] rfl ?_
  exact tl_I hC hE hl dL_law_3253 dL_law_3254 dL_law_3257 dL_law_3259 dL_law_3264 dL_law_3266 dL_law_3269 dL_law_3270 dL_law_3271 dL_law_3272 dL_law_3274 dL_law_3275 dL_law_3276 dL_law_3281 (by decide) e3 e4 (kk _ _ j)
theorem bk_59 (hC : Cok X V A RL cL_law 9) (hE : Env0 V adV A (xs X) (xs X).heap) (hl : (xl X).stackTraces = false) (hS : Scr X V A L ys) (hL : L ≤ 1536) (hk : 3 * k + 2 < L) (h : J CC SS k σ A0) (kk : ∀ σ1 A1, J CC SS (k + 1) σ1 A1 → LX X V A 2048 94400 c0 s0 F 3341 (LV (nI (3 * k))) [] σ1 r) : LX X V A 2048 94400 c0 s0 F 3284 (LV (nI (3 * k))) [] σ r := by
  obtain ⟨v, s1, s2, A1, e1, e2, j⟩ := zo_save  h (by omega)
  refine lx_aload_n hC dL_law_3284 rfl 1 rfl ?_
  refine lx_callL hC (sat_X7_save (xl X) hl σ) (run_V (as := []) (rest := []) hC hE ly0 rfl cw_X7_save ci_X7_save wd480 cs_X7_save ce_X7_save cd_X7_save (by decide) (by decide) (Nat.le_of_ble_eq_true rfl) dL_law_3285 rfl) e1 ?_
  refine lx_aload_n hC dL_law_3288 rfl 2 rfl ?_
  refine lx_callL hC (sat_X8_save (xl X) hl s1) (run_V (as := []) (rest := [.int v]) hC hE ly8 rfl cw_X8_save ci_X8_save wd2178 cs_X8_save ce_X8_save cd_X8_save (by decide) (by decide) (Nat.le_of_ble_eq_true rfl) dL_law_3289 rfl) e2 ?_
  refine lx_eqT hC 3341 dL_law_3292 (by decide) rfl ?_
  exact kk _ _ j
theorem bk_60 (hC : Cok X V A RL cL_law 9) (hE : Env0 V adV A (xs X) (xs X).heap) (hl : (xl X).stackTraces = false) (hS : Scr X V A L ys) (hL : L ≤ 1536) (hk : 3 * k + 2 < L) (h : J CC SS k σ A0) (kk : ∀ σ1 A1, J CC SS (k + 1) σ1 A1 → LX X V A 2048 94400 c0 s0 F 3341 (LV (nI (3 * k))) [] σ1 r) : LX X V A 2048 94400 c0 s0 F 3297 (LV (nI (3 * k))) [] σ r := by
  obtain ⟨v1, s1, v2, s2, A1, e1, e2, e3, e4, j⟩ := zo_restore  h (by omega)
  refine lx_aload_n hC dL_law_3297 rfl 1 rfl ?_
  refine lx_aload_n hC dL_law_3298 rfl 3 rfl ?_
  refine lx_callW (as := [.ref 0, .ref 9]) (rest := []) hC hE (sat_L_restore (xl X) hl σ) lc_restore li_L wd1587 ls_restore ld_restore (by decide) (by decide) (Nat.le_of_ble_eq_true rfl) dL_law_3299 rfl e1 ?_
  refine lx_istore hC dL_law_3302 (by decide) ?_
  refine lx_aload_n hC dL_law_3304 rfl 3 rfl ?_
  refine lx_callL hC (sat_X8_restore (xl X) hl s1) (run_V (as := []) (rest := []) hC hE ly8 rfl cw_X8_restore ci_X8_restore wd2182 cs_X8_restore ce_X8_restore cd_X8_restore (by decide) (by decide) (Nat.le_of_ble_eq_true rfl) dL_law_3305 rfl) e2 ?_
  refine lx_istore hC dL_law_3308 (by decide) ?_
  refine lx_sub (lv' := (7, .int v2) :: (6, .int v1) :: LV (nI (3 * k))) [0, 1, 2, 3, 4, 5, 6, 7] rfl ?_
  exact tl_I hC hE hl dL_law_3310 dL_law_3311 dL_law_3314 dL_law_3316 dL_law_3321 dL_law_3323 dL_law_3326 dL_law_3327 dL_law_3328 dL_law_3329 dL_law_3331 dL_law_3332 dL_law_3333 dL_law_3338 (by decide) e3 e4 (kk _ _ j)
end
