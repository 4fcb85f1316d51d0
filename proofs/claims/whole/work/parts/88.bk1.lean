/-! the rest of the cases -/
section
variable {X : Cx} {V : Vx} {A : Nat → Prop} {adV : Nat → Nat} {c0 s0 : Nat} {α : Type} {F : (α ⊕ String) × Mem → Room → State → Prop} {σ : Mem} {r : Res α} {CC SS k L : Nat} {ys : Nat → Int32} {A0 : Ab}
theorem bk_2 (hC : Cok X V A RL cL_law 9) (hE : Env0 V adV A (xs X) (xs X).heap) (hl : (xl X).stackTraces = false) (hS : Scr X V A L ys) (hL : L ≤ 1536) (hk : 3 * k + 2 < L) (h : J CC SS k σ A0) (kk : ∀ σ1 A1, J CC SS (k + 1) σ1 A1 → LX X V A 2048 94400 c0 s0 F 3341 (LV (nI (3 * k))) [] σ1 r) : LX X V A 2048 94400 c0 s0 F 428 (LV (nI (3 * k))) [] σ r := by
  obtain ⟨v1, s1, v2, s2, A1, e1, e2, e3, e4, j⟩ := zo_removePhantoms (p := (ys (3 * k + 1))) (q := (ys (3 * k + 2))) h (by omega)
  refine lx_aload_n hC dL_law_428 rfl 1 rfl ?_
  refine lx_aload_n hC dL_law_429 rfl 0 rfl ?_
  refine lx_iload hC dL_law_430 5 rfl ?_
  refine lx_iconstv (v := 1) hC dL_law_432 rfl ?_
  refine lx_iadd hC dL_law_433 ?_
  refine lx_sld (n := 3 * k + 1) hC hS (nI_add (3 * k) 1) (by omega) hL dL_law_434 ?_
  refine lx_aload_n hC dL_law_435 rfl 0 rfl ?_
  refine lx_iload hC dL_law_436 5 rfl ?_
  refine lx_iconstv (v := 2) hC dL_law_438 rfl ?_
  refine lx_iadd hC dL_law_439 ?_
  refine lx_sld (n := 3 * k + 2) hC hS (nI_add (3 * k) 2) (by omega) hL dL_law_440 ?_
  refine lx_aload_n hC dL_law_441 rfl 3 rfl ?_
  refine lx_callW (as := [.ref 0, .int (ys (3 * k + 1)), .int (ys (3 * k + 2)), .ref 9]) (rest := []) hC hE (sat_L_removePhantoms (xl X) hl (ys (3 * k + 1)) (ys (3 * k + 2)) σ) lc_removePhantoms li_L wd781 ls_removePhantoms ld_removePhantoms (by decide) (by decide) (Nat.le_of_ble_eq_true rfl) dL_law_442 rfl e1 ?_
  refine lx_istore hC dL_law_445 (by decide) ?_
  refine lx_aload_n hC dL_law_447 rfl 3 rfl ?_
  refine lx_aload_n hC dL_law_448 rfl 1 rfl ?_
  refine lx_iload hC dL_law_449 6 rfl ?_
  refine lx_iconstv (v := 1) hC dL_law_451 rfl ?_
  refine lx_iadd hC dL_law_452 ?_
  refine lx_sld (n := 3 * k + 1) hC hS (nI_add (3 * k) 1) (by omega) hL dL_law_453 ?_
  refine lx_aload_n hC dL_law_454 rfl 1 rfl ?_
  refine lx_iload hC dL_law_455 6 rfl ?_
  refine lx_iconstv (v := 2) hC dL_law_457 rfl ?_
  refine lx_iadd hC dL_law_458 ?_
  refine lx_sld (n := 3 * k + 2) hC hS (nI_add (3 * k) 2) (by omega) hL dL_law_459 ?_
  refine lx_callL hC (sat_X8_removePhantoms (xl X) hl (ys (3 * k + 1)) (ys (3 * k + 2)) s1) (run_V (as := [.int (ys (3 * k + 1)), .int (ys (3 * k + 2))]) (rest := []) hC hE ly8 rfl cw_X8_removePhantoms ci_X8_removePhantoms wd1724 cs_X8_removePhantoms ce_X8_removePhantoms cd_X8_removePhantoms (by decide) (by decide) (Nat.le_of_ble_eq_true rfl) dL_law_460 rfl) e2 ?_
  refine lx_istore hC dL_law_463 (by decide) ?_
  refine lx_sub (lv' := (7, .int v2) :: (6, .int v1) :: LV (nI (3 * k))) [0, 1, 2, 3, 4, 5, 6, 7] rfl ?_
  exact tl_I hC hE hl dL_law_465 dL_law_466 dL_law_469 dL_law_471 dL_law_476 dL_law_478 dL_law_481 dL_law_482 dL_law_483 dL_law_484 dL_law_486 dL_law_487 dL_law_488 dL_law_493 (by decide) e3 e4 (kk _ _ j)
theorem bk_3 (hC : Cok X V A RL cL_law 9) (hE : Env0 V adV A (xs X) (xs X).heap) (hl : (xl X).stackTraces = false) (hS : Scr X V A L ys) (hL : L ≤ 1536) (hk : 3 * k + 2 < L) (h : J CC SS k σ A0) (kk : ∀ σ1 A1, J CC SS (k + 1) σ1 A1 → LX X V A 2048 94400 c0 s0 F 3341 (LV (nI (3 * k))) [] σ1 r) : LX X V A 2048 94400 c0 s0 F 496 (LV (nI (3 * k))) [] σ r := by
  obtain ⟨v1, s1, v2, s2, A1, e1, e2, e3, e4, j⟩ := zo_add (p := (ys (3 * k + 1))) (q := (ys (3 * k + 2))) h (by omega)
  refine lx_aload_n hC dL_law_496 rfl 1 rfl ?_
  refine lx_aload_n hC dL_law_497 rfl 0 rfl ?_
  refine lx_iload hC dL_law_498 5 rfl ?_
  refine lx_iconstv (v := 1) hC dL_law_500 rfl ?_
  refine lx_iadd hC dL_law_501 ?_
  refine lx_sld (n := 3 * k + 1) hC hS (nI_add (3 * k) 1) (by omega) hL dL_law_502 ?_
  refine lx_aload_n hC dL_law_503 rfl 0 rfl ?_
  refine lx_iload hC dL_law_504 5 rfl ?_
  refine lx_iconstv (v := 2) hC dL_law_506 rfl ?_
  refine lx_iadd hC dL_law_507 ?_
  refine lx_sld (n := 3 * k + 2) hC hS (nI_add (3 * k) 2) (by omega) hL dL_law_508 ?_
  refine lx_aload_n hC dL_law_509 rfl 3 rfl ?_
  refine lx_callW (as := [.ref 0, .int (ys (3 * k + 1)), .int (ys (3 * k + 2)), .ref 9]) (rest := []) hC hE (sat_L_add (xl X) hl (ys (3 * k + 1)) (ys (3 * k + 2)) σ) lc_add li_L wd788 ls_add ld_add (by decide) (by decide) (Nat.le_of_ble_eq_true rfl) dL_law_510 rfl e1 ?_
  refine lx_istore hC dL_law_513 (by decide) ?_
  refine lx_aload_n hC dL_law_515 rfl 3 rfl ?_
  refine lx_aload_n hC dL_law_516 rfl 1 rfl ?_
  refine lx_iload hC dL_law_517 6 rfl ?_
  refine lx_iconstv (v := 1) hC dL_law_519 rfl ?_
  refine lx_iadd hC dL_law_520 ?_
  refine lx_sld (n := 3 * k + 1) hC hS (nI_add (3 * k) 1) (by omega) hL dL_law_521 ?_
  refine lx_aload_n hC dL_law_522 rfl 1 rfl ?_
  refine lx_iload hC dL_law_523 6 rfl ?_
  refine lx_iconstv (v := 2) hC dL_law_525 rfl ?_
  refine lx_iadd hC dL_law_526 ?_
  refine lx_sld (n := 3 * k + 2) hC hS (nI_add (3 * k) 2) (by omega) hL dL_law_527 ?_
  refine lx_callL hC (sat_X8_add (xl X) hl (ys (3 * k + 1)) (ys (3 * k + 2)) s1) (run_V (as := [.int (ys (3 * k + 1)), .int (ys (3 * k + 2))]) (rest := []) hC hE ly8 rfl cw_X8_add ci_X8_add wd1744 cs_X8_add ce_X8_add cd_X8_add (by decide) (by decide) (Nat.le_of_ble_eq_true rfl) dL_law_528 rfl) e2 ?_
  refine lx_istore hC dL_law_531 (by decide) ?_
  refine lx_sub (lv' := (7, .int v2) :: (6, .int v1) :: LV (nI (3 * k))) [0, 1, 2, 3, 4, 5, 6, 7] rfl ?_
  exact tl_I hC hE hl dL_law_533 dL_law_534 dL_law_537 dL_law_539 dL_law_544 dL_law_546 dL_law_549 dL_law_550 dL_law_551 dL_law_552 dL_law_554 dL_law_555 dL_law_556 dL_law_561 (by decide) e3 e4 (kk _ _ j)
theorem bk_4 (hC : Cok X V A RL cL_law 9) (hE : Env0 V adV A (xs X) (xs X).heap) (hl : (xl X).stackTraces = false) (hS : Scr X V A L ys) (hL : L ≤ 1536) (hk : 3 * k + 2 < L) (h : J CC SS k σ A0) (kk : ∀ σ1 A1, J CC SS (k + 1) σ1 A1 → LX X V A 2048 94400 c0 s0 F 3341 (LV (nI (3 * k))) [] σ1 r) : LX X V A 2048 94400 c0 s0 F 564 (LV (nI (3 * k))) [] σ r := by
  obtain ⟨v1, s1, v2, s2, A1, e1, e2, e3, e4, j⟩ := zo_move (p := (ys (3 * k + 1))) (q := (ys (3 * k + 2))) h (by omega)
  refine lx_aload_n hC dL_law_564 rfl 1 rfl ?_
  refine lx_aload_n hC dL_law_565 rfl 0 rfl ?_
  refine lx_iload hC dL_law_566 5 rfl ?_
  refine lx_iconstv (v := 1) hC dL_law_568 rfl ?_
  refine lx_iadd hC dL_law_569 ?_
  refine lx_sld (n := 3 * k + 1) hC hS (nI_add (3 * k) 1) (by omega) hL dL_law_570 ?_
  refine lx_aload_n hC dL_law_571 rfl 0 rfl ?_
  refine lx_iload hC dL_law_572 5 rfl ?_
  refine lx_iconstv (v := 2) hC dL_law_574 rfl ?_
  refine lx_iadd hC dL_law_575 ?_
  refine lx_sld (n := 3 * k + 2) hC hS (nI_add (3 * k) 2) (by omega) hL dL_law_576 ?_
  refine lx_aload_n hC dL_law_577 rfl 3 rfl ?_
  refine lx_callW (as := [.ref 0, .int (ys (3 * k + 1)), .int (ys (3 * k + 2)), .ref 9]) (rest := []) hC hE (sat_L_move (xl X) hl (ys (3 * k + 1)) (ys (3 * k + 2)) σ) lc_move li_L wd795 ls_move ld_move (by decide) (by decide) (Nat.le_of_ble_eq_true rfl) dL_law_578 rfl e1 ?_
  refine lx_istore hC dL_law_581 (by decide) ?_
  refine lx_aload_n hC dL_law_583 rfl 3 rfl ?_
  refine lx_aload_n hC dL_law_584 rfl 1 rfl ?_
  refine lx_iload hC dL_law_585 6 rfl ?_
  refine lx_iconstv (v := 1) hC dL_law_587 rfl ?_
  refine lx_iadd hC dL_law_588 ?_
  refine lx_sld (n := 3 * k + 1) hC hS (nI_add (3 * k) 1) (by omega) hL dL_law_589 ?_
  refine lx_aload_n hC dL_law_590 rfl 1 rfl ?_
  refine lx_iload hC dL_law_591 6 rfl ?_
  refine lx_iconstv (v := 2) hC dL_law_593 rfl ?_
  refine lx_iadd hC dL_law_594 ?_
  refine lx_sld (n := 3 * k + 2) hC hS (nI_add (3 * k) 2) (by omega) hL dL_law_595 ?_
  refine lx_callL hC (sat_X8_move (xl X) hl (ys (3 * k + 1)) (ys (3 * k + 2)) s1) (run_V (as := [.int (ys (3 * k + 1)), .int (ys (3 * k + 2))]) (rest := []) hC hE ly8 rfl cw_X8_move ci_X8_move wd1760 cs_X8_move ce_X8_move cd_X8_move (by decide) (by decide) (Nat.le_of_ble_eq_true rfl) dL_law_596 rfl) e2 ?_
  refine lx_istore hC dL_law_599 (by decide) ?_
  refine lx_sub (lv' := (7, .int v2) :: (6, .int v1) :: LV (nI (3 * k))) [0, 1, 2, 3, 4, 5, 6, 7] rfl ?_
  exact tl_I hC hE hl dL_law_601 dL_law_602 dL_law_605 dL_law_607 dL_law_612 dL_law_614 dL_law_617 dL_law_618 dL_law_619 dL_law_620 dL_law_622 dL_law_623 dL_law_624 dL_law_629 (by decide) e3 e4 (kk _ _ j)
theorem bk_5 (hC : Cok X V A RL cL_law 9) (hE : Env0 V adV A (xs X) (xs X).heap) (hl : (xl X).stackTraces = false) (hS : Scr X V A L ys) (hL : L ≤ 1536) (hk : 3 * k + 2 < L) (h : J CC SS k σ A0) (kk : ∀ σ1 A1, J CC SS (k + 1) σ1 A1 → LX X V A 2048 94400 c0 s0 F 3341 (LV (nI (3 * k))) [] σ1 r) : LX X V A 2048 94400 c0 s0 F 632 (LV (nI (3 * k))) [] σ r := by
  obtain ⟨v1, s1, v2, s2, A1, e1, e2, e3, e4, j⟩ := zo_remove (p := (ys (3 * k + 1))) h (by omega)
  refine lx_aload_n hC dL_law_632 rfl 1 rfl ?_
  refine lx_aload_n hC dL_law_633 rfl 0 rfl ?_
  refine lx_iload hC dL_law_634 5 rfl ?_
  refine lx_iconstv (v := 1) hC dL_law_636 rfl ?_
  refine lx_iadd hC dL_law_637 ?_
  refine lx_sld (n := 3 * k + 1) hC hS (nI_add (3 * k) 1) (by omega) hL dL_law_638 ?_
  refine lx_aload_n hC dL_law_639 rfl 3 rfl ?_
  refine lx_callW (as := [.ref 0, .int (ys (3 * k + 1)), .ref 9]) (rest := []) hC hE (sat_L_remove (xl X) hl (ys (3 * k + 1)) σ) lc_remove li_L wd803 ls_remove ld_remove (by decide) (by decide) (Nat.le_of_ble_eq_true rfl) dL_law_640 rfl e1 ?_
  refine lx_istore hC dL_law_643 (by decide) ?_
  refine lx_aload_n hC dL_law_645 rfl 3 rfl ?_
  refine lx_aload_n hC dL_law_646 rfl 1 rfl ?_
  refine lx_iload hC dL_law_647 6 rfl ?_
  refine lx_iconstv (v := 1) hC dL_law_649 rfl ?_
  refine lx_iadd hC dL_law_650 ?_
  refine lx_sld (n := 3 * k + 1) hC hS (nI_add (3 * k) 1) (by omega) hL dL_law_651 ?_
  refine lx_callL hC (sat_X8_remove (xl X) hl (ys (3 * k + 1)) s1) (run_V (as := [.int (ys (3 * k + 1))]) (rest := []) hC hE ly8 rfl cw_X8_remove ci_X8_remove wd1776 cs_X8_remove ce_X8_remove cd_X8_remove (by decide) (by decide) (Nat.le_of_ble_eq_true rfl) dL_law_652 rfl) e2 ?_
  refine lx_istore hC dL_law_655 (by decide) ?_
  refine lx_sub (lv' := (7, .int v2) :: (6, .int v1) :: LV (nI (3 * k))) [0, 1, 2, 3, 4, 5, 6, 7] rfl ?_
  exact tl_I hC hE hl dL_law_657 dL_law_658 dL_law_661 dL_law_663 dL_law_668 dL_law_670 dL_law_673 dL_law_674 dL_law_675 dL_law_676 dL_law_678 dL_law_679 dL_law_680 dL_law_685 (by decide) e3 e4 (kk _ _ j)
theorem bk_6 (hC : Cok X V A RL cL_law 9) (hE : Env0 V adV A (xs X) (xs X).heap) (hl : (xl X).stackTraces = false) (hS : Scr X V A L ys) (hL : L ≤ 1536) (hk : 3 * k + 2 < L) (h : J CC SS k σ A0) (kk : ∀ σ1 A1, J CC SS (k + 1) σ1 A1 → LX X V A 2048 94400 c0 s0 F 3341 (LV (nI (3 * k))) [] σ1 r) : LX X V A 2048 94400 c0 s0 F 688 (LV (nI (3 * k))) [] σ r := by
  obtain ⟨v1, s1, v2, s2, A1, e1, e2, e3, e4, j⟩ := zo_setHeir (p := (ys (3 * k + 1))) (q := (ys (3 * k + 2))) h (by omega)
  refine lx_aload_n hC dL_law_688 rfl 1 rfl ?_
  refine lx_aload_n hC dL_law_689 rfl 0 rfl ?_
  refine lx_iload hC dL_law_690 5 rfl ?_
  refine lx_iconstv (v := 1) hC dL_law_692 rfl ?_
  refine lx_iadd hC dL_law_693 ?_
  refine lx_sld (n := 3 * k + 1) hC hS (nI_add (3 * k) 1) (by omega) hL dL_law_694 ?_
  refine lx_aload_n hC dL_law_695 rfl 0 rfl ?_
  refine lx_iload hC dL_law_696 5 rfl ?_
  refine lx_iconstv (v := 2) hC dL_law_698 rfl ?_
  refine lx_iadd hC dL_law_699 ?_
  refine lx_sld (n := 3 * k + 2) hC hS (nI_add (3 * k) 2) (by omega) hL dL_law_700 ?_
  refine lx_aload_n hC dL_law_701 rfl 3 rfl ?_
  refine lx_callW (as := [.ref 0, .int (ys (3 * k + 1)), .int (ys (3 * k + 2)), .ref 9]) (rest := []) hC hE (sat_L_setHeir (xl X) hl (ys (3 * k + 1)) (ys (3 * k + 2)) σ) lc_setHeir li_L wd810 ls_setHeir ld_setHeir (by decide) (by decide) (Nat.le_of_ble_eq_true rfl) dL_law_702 rfl e1 ?_
  refine lx_istore hC dL_law_705 (by decide) ?_
  refine lx_aload_n hC dL_law_707 rfl 3 rfl ?_
  refine lx_aload_n hC dL_law_708 rfl 1 rfl ?_
  refine lx_iload hC dL_law_709 6 rfl ?_
  refine lx_iconstv (v := 1) hC dL_law_711 rfl ?_
  refine lx_iadd hC dL_law_712 ?_
  refine lx_sld (n := 3 * k + 1) hC hS (nI_add (3 * k) 1) (by omega) hL dL_law_713 ?_
  refine lx_aload_n hC dL_law_714 rfl 1 rfl ?_
  refine lx_iload hC dL_law_715 6 rfl ?_
  refine lx_iconstv (v := 2) hC dL_law_717 rfl ?_
  refine lx_iadd hC dL_law_718 ?_
  refine lx_sld (n := 3 * k + 2) hC hS (nI_add (3 * k) 2) (by omega) hL dL_law_719 ?_
  refine lx_callL hC (sat_X8_setHeir (xl X) hl (ys (3 * k + 1)) (ys (3 * k + 2)) s1) (run_V (as := [.int (ys (3 * k + 1)), .int (ys (3 * k + 2))]) (rest := []) hC hE ly8 rfl cw_X8_setHeir ci_X8_setHeir wd1792 cs_X8_setHeir ce_X8_setHeir cd_X8_setHeir (by decide) (by decide) (Nat.le_of_ble_eq_true rfl) dL_law_720 rfl) e2 ?_
  refine lx_istore hC dL_law_723 (by decide) ?_
  refine lx_sub (lv' := (7, .int v2) :: (6, .int v1) :: LV (nI (3 * k))) [0, 1, 2, 3, 4, 5, 6, 7] rfl ?_
  exact tl_I hC hE hl dL_law_725 dL_law_726 dL_law_729 dL_law_731 dL_law_736 dL_law_738 dL_law_741 dL_law_742 dL_law_743 dL_law_744 dL_law_746 dL_law_747 dL_law_748 dL_law_753 (by decide) e3 e4 (kk _ _ j)
theorem bk_7 (hC : Cok X V A RL cL_law 9) (hE : Env0 V adV A (xs X) (xs X).heap) (hl : (xl X).stackTraces = false) (hS : Scr X V A L ys) (hL : L ≤ 1536) (hk : 3 * k + 2 < L) (h : J CC SS k σ A0) (kk : ∀ σ1 A1, J CC SS (k + 1) σ1 A1 → LX X V A 2048 94400 c0 s0 F 3341 (LV (nI (3 * k))) [] σ1 r) : LX X V A 2048 94400 c0 s0 F 756 (LV (nI (3 * k))) [] σ r := by
  obtain ⟨v1, s1, v2, s2, A1, e1, e2, e3, e4, j⟩ := zo_clearHeir (p := (ys (3 * k + 1))) h (by omega)
  refine lx_aload_n hC dL_law_756 rfl 1 rfl ?_
  refine lx_aload_n hC dL_law_757 rfl 0 rfl ?_
  refine lx_iload hC dL_law_758 5 rfl ?_
  refine lx_iconstv (v := 1) hC dL_law_760 rfl ?_
  refine lx_iadd hC dL_law_761 ?_
  refine lx_sld (n := 3 * k + 1) hC hS (nI_add (3 * k) 1) (by omega) hL dL_law_762 ?_
  refine lx_aload_n hC dL_law_763 rfl 3 rfl ?_
  refine lx_callW (as := [.ref 0, .int (ys (3 * k + 1)), .ref 9]) (rest := []) hC hE (sat_L_clearHeir (xl X) hl (ys (3 * k + 1)) σ) lc_clearHeir li_L wd817 ls_clearHeir ld_clearHeir (by decide) (by decide) (Nat.le_of_ble_eq_true rfl) dL_law_764 rfl e1 ?_
  refine lx_istore hC dL_law_767 (by decide) ?_
  refine lx_aload_n hC dL_law_769 rfl 3 rfl ?_
  refine lx_aload_n hC dL_law_770 rfl 1 rfl ?_
  refine lx_iload hC dL_law_771 6 rfl ?_
  refine lx_iconstv (v := 1) hC dL_law_773 rfl ?_
  refine lx_iadd hC dL_law_774 ?_
  refine lx_sld (n := 3 * k + 1) hC hS (nI_add (3 * k) 1) (by omega) hL dL_law_775 ?_
  refine lx_callL hC (sat_X8_clearHeir (xl X) hl (ys (3 * k + 1)) s1) (run_V (as := [.int (ys (3 * k + 1))]) (rest := []) hC hE ly8 rfl cw_X8_clearHeir ci_X8_clearHeir wd1808 cs_X8_clearHeir ce_X8_clearHeir cd_X8_clearHeir (by decide) (by decide) (Nat.le_of_ble_eq_true rfl) dL_law_776 rfl) e2 ?_
  refine lx_istore hC dL_law_779 (by decide) ?_
  refine lx_sub (lv' := (7, .int v2) :: (6, .int v1) :: LV (nI (3 * k))) [0, 1, 2, 3, 4, 5, 6, 7] rfl ?_
  exact tl_I hC hE hl dL_law_781 dL_law_782 dL_law_785 dL_law_787 dL_law_792 dL_law_794 dL_law_797 dL_law_798 dL_law_799 dL_law_800 dL_law_802 dL_law_803 dL_law_804 dL_law_809 (by decide) e3 e4 (kk _ _ j)
theorem bk_8 (hC : Cok X V A RL cL_law 9) (hE : Env0 V adV A (xs X) (xs X).heap) (hl : (xl X).stackTraces = false) (hS : Scr X V A L ys) (hL : L ≤ 1536) (hk : 3 * k + 2 < L) (h : J CC SS k σ A0) (kk : ∀ σ1 A1, J CC SS (k + 1) σ1 A1 → LX X V A 2048 94400 c0 s0 F 3341 (LV (nI (3 * k))) [] σ1 r) : LX X V A 2048 94400 c0 s0 F 812 (LV (nI (3 * k))) [] σ r := by
  obtain ⟨v1, s1, v2, s2, A1, e1, e2, e3, e4, j⟩ := zo_lock (p := (ys (3 * k + 1))) h (by omega)
  refine lx_aload_n hC dL_law_812 rfl 1 rfl ?_
  refine lx_aload_n hC dL_law_813 rfl 0 rfl ?_
  refine lx_iload hC dL_law_814 5 rfl ?_
  refine lx_iconstv (v := 1) hC dL_law_816 rfl ?_
  refine lx_iadd hC dL_law_817 ?_
  refine lx_sld (n := 3 * k + 1) hC hS (nI_add (3 * k) 1) (by omega) hL dL_law_818 ?_
  refine lx_aload_n hC dL_law_819 rfl 3 rfl ?_
  refine lx_callW (as := [.ref 0, .int (ys (3 * k + 1)), .ref 9]) (rest := []) hC hE (sat_L_lock (xl X) hl (ys (3 * k + 1)) σ) lc_lock li_L wd824 ls_lock ld_lock (by decide) (by decide) (Nat.le_of_ble_eq_true rfl) dL_law_820 rfl e1 ?_
  refine lx_istore hC dL_law_823 (by decide) ?_
  refine lx_aload_n hC dL_law_825 rfl 3 rfl ?_
  refine lx_aload_n hC dL_law_826 rfl 1 rfl ?_
  refine lx_iload hC dL_law_827 6 rfl ?_
  refine lx_iconstv (v := 1) hC dL_law_829 rfl ?_
  refine lx_iadd hC dL_law_830 ?_
  refine lx_sld (n := 3 * k + 1) hC hS (nI_add (3 * k) 1) (by omega) hL dL_law_831 ?_
  refine lx_callL hC (sat_X8_lock (xl X) hl (ys (3 * k + 1)) s1) (run_V (as := [.int (ys (3 * k + 1))]) (rest := []) hC hE ly8 rfl cw_X8_lock ci_X8_lock wd1816 cs_X8_lock ce_X8_lock cd_X8_lock (by decide) (by decide) (Nat.le_of_ble_eq_true rfl) dL_law_832 rfl) e2 ?_
  refine lx_istore hC dL_law_835 (by decide) ?_
  refine lx_sub (lv' := (7, .int v2) :: (6, .int v1) :: LV (nI (3 * k))) [0, 1, 2, 3, 4, 5, 6, 7] rfl ?_
  exact tl_I hC hE hl dL_law_837 dL_law_838 dL_law_841 dL_law_843 dL_law_848 dL_law_850 dL_law_853 dL_law_854 dL_law_855 dL_law_856 dL_law_858 dL_law_859 dL_law_860 dL_law_865 (by decide) e3 e4 (kk _ _ j)
theorem bk_9 (hC : Cok X V A RL cL_law 9) (hE : Env0 V adV A (xs X) (xs X).heap) (hl : (xl X).stackTraces = false) (hS : Scr X V A L ys) (hL : L ≤ 1536) (hk : 3 * k + 2 < L) (h : J CC SS k σ A0) (kk : ∀ σ1 A1, J CC SS (k + 1) σ1 A1 → LX X V A 2048 94400 c0 s0 F 3341 (LV (nI (3 * k))) [] σ1 r) : LX X V A 2048 94400 c0 s0 F 868 (LV (nI (3 * k))) [] σ r := by
  obtain ⟨v1, s1, v2, s2, A1, e1, e2, e3, e4, j⟩ := zo_unlock (p := (ys (3 * k + 1))) h (by omega)
  refine lx_aload_n hC dL_law_868 rfl 1 rfl ?_
  refine lx_aload_n hC dL_law_869 rfl 0 rfl ?_
  refine lx_iload hC dL_law_870 5 rfl ?_
  refine lx_iconstv (v := 1) hC dL_law_872 rfl ?_
  refine lx_iadd hC dL_law_873 ?_
  refine lx_sld (n := 3 * k + 1) hC hS (nI_add (3 * k) 1) (by omega) hL dL_law_874 ?_
  refine lx_aload_n hC dL_law_875 rfl 3 rfl ?_
  refine lx_callW (as := [.ref 0, .int (ys (3 * k + 1)), .ref 9]) (rest := []) hC hE (sat_L_unlock (xl X) hl (ys (3 * k + 1)) σ) lc_unlock li_L wd831 ls_unlock ld_unlock (by decide) (by decide) (Nat.le_of_ble_eq_true rfl) dL_law_876 rfl e1 ?_
  refine lx_istore hC dL_law_879 (by decide) ?_
  refine lx_aload_n hC dL_law_881 rfl 3 rfl ?_
  refine lx_aload_n hC dL_law_882 rfl 1 rfl ?_
  refine lx_iload hC dL_law_883 6 rfl ?_
  refine lx_iconstv (v := 1) hC dL_law_885 rfl ?_
  refine lx_iadd hC dL_law_886 ?_
  refine lx_sld (n := 3 * k + 1) hC hS (nI_add (3 * k) 1) (by omega) hL dL_law_887 ?_
  refine lx_callL hC (sat_X8_unlock (xl X) hl (ys (3 * k + 1)) s1) (run_V (as := [.int (ys (3 * k + 1))]) (rest := []) hC hE ly8 rfl cw_X8_unlock ci_X8_unlock wd1836 cs_X8_unlock ce_X8_unlock cd_X8_unlock (by decide) (by decide) (Nat.le_of_ble_eq_true rfl) dL_law_888 rfl) e2 ?_
  refine lx_istore hC dL_law_891 (by decide) ?_
  refine lx_sub (lv' := (7, .int v2) :: (6, .int v1) :: LV (nI (3 * k))) [0, 1, 2, 3, 4, 5, 6, 7] rfl ?_
  exact tl_I hC hE hl dL_law_893 dL_law_894 dL_law_897 dL_law_899 dL_law_904 dL_law_906 dL_law_909 dL_law_910 dL_law_911 dL_law_912 dL_law_914 dL_law_915 dL_law_916 dL_law_921 (by decide) e3 e4 (kk _ _ j)
theorem bk_10 (hC : Cok X V A RL cL_law 9) (hE : Env0 V adV A (xs X) (xs X).heap) (hl : (xl X).stackTraces = false) (hS : Scr X V A L ys) (hL : L ≤ 1536) (hk : 3 * k + 2 < L) (h : J CC SS k σ A0) (kk : ∀ σ1 A1, J CC SS (k + 1) σ1 A1 → LX X V A 2048 94400 c0 s0 F 3341 (LV (nI (3 * k))) [] σ1 r) : LX X V A 2048 94400 c0 s0 F 924 (LV (nI (3 * k))) [] σ r := by
  obtain ⟨v1, s1, v2, s2, A1, e1, e2, e3, e4, j⟩ := zo_nameRow (p := ((ys (3 * k + 1)).toUInt32 % 65536).toInt32) (q := (ys (3 * k + 2))) h (by omega)
  refine lx_aload_n hC dL_law_924 rfl 1 rfl ?_
  refine lx_aload_n hC dL_law_925 rfl 0 rfl ?_
  refine lx_iload hC dL_law_926 5 rfl ?_
  refine lx_iconstv (v := 1) hC dL_law_928 rfl ?_
  refine lx_iadd hC dL_law_929 ?_
  refine lx_sld (n := 3 * k + 1) hC hS (nI_add (3 * k) 1) (by omega) hL dL_law_930 ?_
  refine lx_i2c hC dL_law_931 ?_
  refine lx_aload_n hC dL_law_932 rfl 0 rfl ?_
  refine lx_iload hC dL_law_933 5 rfl ?_
  refine lx_iconstv (v := 2) hC dL_law_935 rfl ?_
  refine lx_iadd hC dL_law_936 ?_
  refine lx_sld (n := 3 * k + 2) hC hS (nI_add (3 * k) 2) (by omega) hL dL_law_937 ?_
  refine lx_aload_n hC dL_law_938 rfl 3 rfl ?_
  refine lx_callW (as := [.ref 0, .int ((ys (3 * k + 1)).toUInt32 % 65536).toInt32, .int (ys (3 * k + 2)), .ref 9]) (rest := []) hC hE (sat_L_nameRow (xl X) hl ((ys (3 * k + 1)).toUInt32 % 65536).toInt32 (ys (3 * k + 2)) σ) lc_nameRow li_L wd838 ls_nameRow ld_nameRow (by decide) (by decide) (Nat.le_of_ble_eq_true rfl) dL_law_939 rfl e1 ?_
  refine lx_istore hC dL_law_942 (by decide) ?_
  refine lx_aload_n hC dL_law_944 rfl 3 rfl ?_
  refine lx_aload_n hC dL_law_945 rfl 1 rfl ?_
  refine lx_iload hC dL_law_946 6 rfl ?_
  refine lx_iconstv (v := 1) hC dL_law_948 rfl ?_
  refine lx_iadd hC dL_law_949 ?_
  refine lx_sld (n := 3 * k + 1) hC hS (nI_add (3 * k) 1) (by omega) hL dL_law_950 ?_
  refine lx_i2c hC dL_law_951 ?_
  refine lx_aload_n hC dL_law_952 rfl 1 rfl ?_
  refine lx_iload hC dL_law_953 6 rfl ?_
  refine lx_iconstv (v := 2) hC dL_law_955 rfl ?_
  refine lx_iadd hC dL_law_956 ?_
  refine lx_sld (n := 3 * k + 2) hC hS (nI_add (3 * k) 2) (by omega) hL dL_law_957 ?_
  refine lx_callL hC (sat_X8_nameRow (xl X) hl ((ys (3 * k + 1)).toUInt32 % 65536).toInt32 (ys (3 * k + 2)) s1) (run_V (as := [.int ((ys (3 * k + 1)).toUInt32 % 65536).toInt32, .int (ys (3 * k + 2))]) (rest := []) hC hE ly8 rfl cw_X8_nameRow ci_X8_nameRow wd1840 cs_X8_nameRow ce_X8_nameRow cd_X8_nameRow (by decide) (by decide) (Nat.le_of_ble_eq_true rfl) dL_law_958 rfl) e2 ?_
  refine lx_istore hC dL_law_961 (by decide) ?_
  refine lx_sub (lv' := (7, .int v2) :: (6, .int v1) :: LV (nI (3 * k))) [0, 1, 2, 3, 4, 5, 6, 7] rfl ?_
  exact tl_I hC hE hl dL_law_963 dL_law_964 dL_law_967 dL_law_969 dL_law_974 dL_law_976 dL_law_979 dL_law_980 dL_law_981 dL_law_982 dL_law_984 dL_law_985 dL_law_986 dL_law_991 (by decide) e3 e4 (kk _ _ j)
theorem bk_11 (hC : Cok X V A RL cL_law 9) (hE : Env0 V adV A (xs X) (xs X).heap) (hl : (xl X).stackTraces = false) (hS : Scr X V A L ys) (hL : L ≤ 1536) (hk : 3 * k + 2 < L) (h : J CC SS k σ A0) (kk : ∀ σ1 A1, J CC SS (k + 1) σ1 A1 → LX X V A 2048 94400 c0 s0 F 3341 (LV (nI (3 * k))) [] σ1 r) : LX X V A 2048 94400 c0 s0 F 994 (LV (nI (3 * k))) [] σ r := by
  obtain ⟨v1, s1, v2, s2, A1, e1, e2, e3, e4, j⟩ := zo_spread (p := (ys (3 * k + 1))) h (by omega)
  refine lx_aload_n hC dL_law_994 rfl 1 rfl ?_
  refine lx_aload_n hC dL_law_995 rfl 0 rfl ?_
  refine lx_iload hC dL_law_996 5 rfl ?_
  refine lx_iconstv (v := 1) hC dL_law_998 rfl ?_
  refine lx_iadd hC dL_law_999 ?_
  refine lx_sld (n := 3 * k + 1) hC hS (nI_add (3 * k) 1) (by omega) hL dL_law_1000 ?_
  refine lx_aload_n hC dL_law_1001 rfl 3 rfl ?_
  refine lx_callW (as := [.ref 0, .int (ys (3 * k + 1)), .ref 9]) (rest := []) hC hE (sat_L_spread (xl X) hl (ys (3 * k + 1)) σ) lc_spread li_L wd845 ls_spread ld_spread (by decide) (by decide) (Nat.le_of_ble_eq_true rfl) dL_law_1002 rfl e1 ?_
  refine lx_istore hC dL_law_1005 (by decide) ?_
  refine lx_aload_n hC dL_law_1007 rfl 3 rfl ?_
  refine lx_aload_n hC dL_law_1008 rfl 1 rfl ?_
  refine lx_iload hC dL_law_1009 6 rfl ?_
  refine lx_iconstv (v := 1) hC dL_law_1011 rfl ?_
  refine lx_iadd hC dL_law_1012 ?_
  refine lx_sld (n := 3 * k + 1) hC hS (nI_add (3 * k) 1) (by omega) hL dL_law_1013 ?_
  refine lx_callL hC (sat_X8_spread (xl X) hl (ys (3 * k + 1)) s1) (run_V (as := [.int (ys (3 * k + 1))]) (rest := []) hC hE ly8 rfl cw_X8_spread ci_X8_spread wd1855 cs_X8_spread ce_X8_spread cd_X8_spread (by decide) (by decide) (Nat.le_of_ble_eq_true rfl) dL_law_1014 rfl) e2 ?_
  refine lx_istore hC dL_law_1017 (by decide) ?_
  refine lx_sub (lv' := (7, .int v2) :: (6, .int v1) :: LV (nI (3 * k))) [0, 1, 2, 3, 4, 5, 6, 7] rfl ?_
  exact tl_I hC hE hl dL_law_1019 dL_law_1020 dL_law_1023 dL_law_1025 dL_law_1030 dL_law_1032 dL_law_1035 dL_law_1036 dL_law_1037 dL_law_1038 dL_law_1040 dL_law_1041 dL_law_1042 dL_law_1047 (by decide) e3 e4 (kk _ _ j)
theorem bk_12 (hC : Cok X V A RL cL_law 9) (hE : Env0 V adV A (xs X) (xs X).heap) (hl : (xl X).stackTraces = false) (hS : Scr X V A L ys) (hL : L ≤ 1536) (hk : 3 * k + 2 < L) (h : J CC SS k σ A0) (kk : ∀ σ1 A1, J CC SS (k + 1) σ1 A1 → LX X V A 2048 94400 c0 s0 F 3341 (LV (nI (3 * k))) [] σ1 r) : LX X V A 2048 94400 c0 s0 F 1050 (LV (nI (3 * k))) [] σ r := by
  obtain ⟨v, s1, s2, A1, e1, e2, j⟩ := zo_rowCount  h (by omega)
  refine lx_aload_n hC dL_law_1050 rfl 1 rfl ?_
  refine lx_callL hC (sat_X7_rowCount (xl X) hl σ) (run_V (as := []) (rest := []) hC hE ly0 rfl cw_X7_rowCount ci_X7_rowCount wd347 cs_X7_rowCount ce_X7_rowCount cd_X7_rowCount (by decide) (by decide) (Nat.le_of_ble_eq_true rfl) dL_law_1051 rfl) e1 ?_
  refine lx_aload_n hC dL_law_1054 rfl 2 rfl ?_
  refine lx_callL hC (sat_X8_rowCount (xl X) hl s1) (run_V (as := []) (rest := [.int v]) hC hE ly8 rfl cw_X8_rowCount ci_X8_rowCount wd1879 cs_X8_rowCount ce_X8_rowCount cd_X8_rowCount (by decide) (by decide) (Nat.le_of_ble_eq_true rfl) dL_law_1055 rfl) e2 ?_
  refine lx_eqT hC 3341 dL_law_1058 (by decide) rfl ?_
  exact kk _ _ j
theorem bk_13 (hC : Cok X V A RL cL_law 9) (hE : Env0 V adV A (xs X) (xs X).heap) (hl : (xl X).stackTraces = false) (hS : Scr X V A L ys) (hL : L ≤ 1536) (hk : 3 * k + 2 < L) (h : J CC SS k σ A0) (kk : ∀ σ1 A1, J CC SS (k + 1) σ1 A1 → LX X V A 2048 94400 c0 s0 F 3341 (LV (nI (3 * k))) [] σ1 r) : LX X V A 2048 94400 c0 s0 F 1063 (LV (nI (3 * k))) [] σ r := by
  obtain ⟨v1, s1, v2, s2, A1, e1, e2, e3, e4, j⟩ := zo_capacity (p := (ys (3 * k + 1))) h (by omega)
  refine lx_aload_n hC dL_law_1063 rfl 1 rfl ?_
  refine lx_aload_n hC dL_law_1064 rfl 0 rfl ?_
  refine lx_iload hC dL_law_1065 5 rfl ?_
  refine lx_iconstv (v := 1) hC dL_law_1067 rfl ?_
  refine lx_iadd hC dL_law_1068 ?_
  refine lx_sld (n := 3 * k + 1) hC hS (nI_add (3 * k) 1) (by omega) hL dL_law_1069 ?_
  refine lx_aload_n hC dL_law_1070 rfl 3 rfl ?_
  refine lx_callW (as := [.ref 0, .int (ys (3 * k + 1)), .ref 9]) (rest := []) hC hE (sat_L_capacity (xl X) hl (ys (3 * k + 1)) σ) lc_capacity li_L wd852 ls_capacity ld_capacity (by decide) (by decide) (Nat.le_of_ble_eq_true rfl) dL_law_1071 rfl e1 ?_
  refine lx_istore hC dL_law_1074 (by decide) ?_
  refine lx_aload_n hC dL_law_1076 rfl 3 rfl ?_
  refine lx_aload_n hC dL_law_1077 rfl 1 rfl ?_
  refine lx_iload hC dL_law_1078 6 rfl ?_
  refine lx_iconstv (v := 1) hC dL_law_1080 rfl ?_
  refine lx_iadd hC dL_law_1081 ?_
  refine lx_sld (n := 3 * k + 1) hC hS (nI_add (3 * k) 1) (by omega) hL dL_law_1082 ?_
  refine lx_callL hC (sat_X8_capacity (xl X) hl (ys (3 * k + 1)) s1) (run_V (as := [.int (ys (3 * k + 1))]) (rest := []) hC hE ly8 rfl cw_X8_capacity ci_X8_capacity wd1883 cs_X8_capacity ce_X8_capacity cd_X8_capacity (by decide) (by decide) (Nat.le_of_ble_eq_true rfl) dL_law_1083 rfl) e2 ?_
  refine lx_istore hC dL_law_1086 (by decide) ?_
  refine lx_sub (lv' := (7, .int v2) :: (6, .int v1) :: LV (nI (3 * k))) [0, 1, 2, 3, 4, 5, 6, 7] rfl ?_
  exact tl_I hC hE hl dL_law_1088 dL_law_1089 dL_law_1092 dL_law_1094 dL_law_1099 dL_law_1101 dL_law_1104 dL_law_1105 dL_law_1106 dL_law_1107 dL_law_1109 dL_law_1110 dL_law_1111 dL_law_1116 (by decide) e3 e4 (kk _ _ j)
theorem bk_14 (hC : Cok X V A RL cL_law 9) (hE : Env0 V adV A (xs X) (xs X).heap) (hl : (xl X).stackTraces = false) (hS : Scr X V A L ys) (hL : L ≤ 1536) (hk : 3 * k + 2 < L) (h : J CC SS k σ A0) (kk : ∀ σ1 A1, J CC SS (k + 1) σ1 A1 → LX X V A 2048 94400 c0 s0 F 3341 (LV (nI (3 * k))) [] σ1 r) : LX X V A 2048 94400 c0 s0 F 1119 (LV (nI (3 * k))) [] σ r := by
  obtain ⟨v1, s1, v2, s2, A1, e1, e2, e3, e4, j⟩ := zo_phantoms (p := (ys (3 * k + 1))) h (by omega)
  refine lx_aload_n hC dL_law_1119 rfl 1 rfl ?_
  refine lx_aload_n hC dL_law_1120 rfl 0 rfl ?_
  refine lx_iload hC dL_law_1121 5 rfl ?_
  refine lx_iconstv (v := 1) hC dL_law_1123 rfl ?_
  refine lx_iadd hC dL_law_1124 ?_
  refine lx_sld (n := 3 * k + 1) hC hS (nI_add (3 * k) 1) (by omega) hL dL_law_1125 ?_
  refine lx_aload_n hC dL_law_1126 rfl 3 rfl ?_
  refine lx_callW (as := [.ref 0, .int (ys (3 * k + 1)), .ref 9]) (rest := []) hC hE (sat_L_phantoms (xl X) hl (ys (3 * k + 1)) σ) lc_phantoms li_L wd864 ls_phantoms ld_phantoms (by decide) (by decide) (Nat.le_of_ble_eq_true rfl) dL_law_1127 rfl e1 ?_
  refine lx_istore hC dL_law_1130 (by decide) ?_
  refine lx_aload_n hC dL_law_1132 rfl 3 rfl ?_
  refine lx_aload_n hC dL_law_1133 rfl 1 rfl ?_
  refine lx_iload hC dL_law_1134 6 rfl ?_
  refine lx_iconstv (v := 1) hC dL_law_1136 rfl ?_
  refine lx_iadd hC dL_law_1137 ?_
  refine lx_sld (n := 3 * k + 1) hC hS (nI_add (3 * k) 1) (by omega) hL dL_law_1138 ?_
  refine lx_callL hC (sat_X8_phantoms (xl X) hl (ys (3 * k + 1)) s1) (run_V (as := [.int (ys (3 * k + 1))]) (rest := []) hC hE ly8 rfl cw_X8_phantoms ci_X8_phantoms wd1887 cs_X8_phantoms ce_X8_phantoms cd_X8_phantoms (by decide) (by decide) (Nat.le_of_ble_eq_true rfl) dL_law_1139 rfl) e2 ?_
  refine lx_istore hC dL_law_1142 (by decide) ?_
  refine lx_sub (lv' := (7, .int v2) :: (6, .int v1) :: LV (nI (3 * k))) [0, 1, 2, 3, 4, 5, 6, 7] rfl ?_
  exact tl_I hC hE hl dL_law_1144 dL_law_1145 dL_law_1148 dL_law_1150 dL_law_1155 dL_law_1157 dL_law_1160 dL_law_1161 dL_law_1162 dL_law_1163 dL_law_1165 dL_law_1166 dL_law_1167 dL_law_1172 (by decide) e3 e4 (kk _ _ j)
theorem bk_15 (hC : Cok X V A RL cL_law 9) (hE : Env0 V adV A (xs X) (xs X).heap) (hl : (xl X).stackTraces = false) (hS : Scr X V A L ys) (hL : L ≤ 1536) (hk : 3 * k + 2 < L) (h : J CC SS k σ A0) (kk : ∀ σ1 A1, J CC SS (k + 1) σ1 A1 → LX X V A 2048 94400 c0 s0 F 3341 (LV (nI (3 * k))) [] σ1 r) : LX X V A 2048 94400 c0 s0 F 1175 (LV (nI (3 * k))) [] σ r := by
  obtain ⟨v1, s1, v2, s2, A1, e1, e2, e3, e4, j⟩ := zo_occupancy (p := (ys (3 * k + 1))) h (by omega)
  refine lx_aload_n hC dL_law_1175 rfl 1 rfl ?_
  refine lx_aload_n hC dL_law_1176 rfl 0 rfl ?_
  refine lx_iload hC dL_law_1177 5 rfl ?_
  refine lx_iconstv (v := 1) hC dL_law_1179 rfl ?_
  refine lx_iadd hC dL_law_1180 ?_
  refine lx_sld (n := 3 * k + 1) hC hS (nI_add (3 * k) 1) (by omega) hL dL_law_1181 ?_
  refine lx_aload_n hC dL_law_1182 rfl 3 rfl ?_
  refine lx_callW (as := [.ref 0, .int (ys (3 * k + 1)), .ref 9]) (rest := []) hC hE (sat_L_occupancy (xl X) hl (ys (3 * k + 1)) σ) lc_occupancy li_L wd871 ls_occupancy ld_occupancy (by decide) (by decide) (Nat.le_of_ble_eq_true rfl) dL_law_1183 rfl e1 ?_
  refine lx_istore hC dL_law_1186 (by decide) ?_
  refine lx_aload_n hC dL_law_1188 rfl 3 rfl ?_
  refine lx_aload_n hC dL_law_1189 rfl 1 rfl ?_
  refine lx_iload hC dL_law_1190 6 rfl ?_
  refine lx_iconstv (v := 1) hC dL_law_1192 rfl ?_
  refine lx_iadd hC dL_law_1193 ?_
  refine lx_sld (n := 3 * k + 1) hC hS (nI_add (3 * k) 1) (by omega) hL dL_law_1194 ?_
  refine lx_callL hC (sat_X8_occupancy (xl X) hl (ys (3 * k + 1)) s1) (run_V (as := [.int (ys (3 * k + 1))]) (rest := []) hC hE ly8 rfl cw_X8_occupancy ci_X8_occupancy wd1891 cs_X8_occupancy ce_X8_occupancy cd_X8_occupancy (by decide) (by decide) (Nat.le_of_ble_eq_true rfl) dL_law_1195 rfl) e2 ?_
  refine lx_istore hC dL_law_1198 (by decide) ?_
  refine lx_sub (lv' := (7, .int v2) :: (6, .int v1) :: LV (nI (3 * k))) [0, 1, 2, 3, 4, 5, 6, 7] rfl ?_
  exact tl_I hC hE hl dL_law_1200 dL_law_1201 dL_law_1204 dL_law_1206 dL_law_1211 dL_law_1213 dL_law_1216 dL_law_1217 dL_law_1218 dL_law_1219 dL_law_1221 dL_law_1222 dL_law_1223 dL_law_1228 (by decide) e3 e4 (kk _ _ j)
theorem bk_16 (hC : Cok X V A RL cL_law 9) (hE : Env0 V adV A (xs X) (xs X).heap) (hl : (xl X).stackTraces = false) (hS : Scr X V A L ys) (hL : L ≤ 1536) (hk : 3 * k + 2 < L) (h : J CC SS k σ A0) (kk : ∀ σ1 A1, J CC SS (k + 1) σ1 A1 → LX X V A 2048 94400 c0 s0 F 3341 (LV (nI (3 * k))) [] σ1 r) : LX X V A 2048 94400 c0 s0 F 1231 (LV (nI (3 * k))) [] σ r := by
  obtain ⟨v1, s1, v2, s2, A1, e1, e2, e3, e4, j⟩ := zo_freeSeats (p := (ys (3 * k + 1))) h (by omega)
  refine lx_aload_n hC dL_law_1231 rfl 1 rfl ?_
  refine lx_aload_n hC dL_law_1232 rfl 0 rfl ?_
  refine lx_iload hC dL_law_1233 5 rfl ?_
  refine lx_iconstv (v := 1) hC dL_law_1235 rfl ?_
  refine lx_iadd hC dL_law_1236 ?_
  refine lx_sld (n := 3 * k + 1) hC hS (nI_add (3 * k) 1) (by omega) hL dL_law_1237 ?_
  refine lx_aload_n hC dL_law_1238 rfl 3 rfl ?_
  refine lx_callW (as := [.ref 0, .int (ys (3 * k + 1)), .ref 9]) (rest := []) hC hE (sat_L_freeSeats (xl X) hl (ys (3 * k + 1)) σ) lc_freeSeats li_L wd879 ls_freeSeats ld_freeSeats (by decide) (by decide) (Nat.le_of_ble_eq_true rfl) dL_law_1239 rfl e1 ?_
  refine lx_istore hC dL_law_1242 (by decide) ?_
  refine lx_aload_n hC dL_law_1244 rfl 3 rfl ?_
  refine lx_aload_n hC dL_law_1245 rfl 1 rfl ?_
  refine lx_iload hC dL_law_1246 6 rfl ?_
  refine lx_iconstv (v := 1) hC dL_law_1248 rfl ?_
  refine lx_iadd hC dL_law_1249 ?_
  refine lx_sld (n := 3 * k + 1) hC hS (nI_add (3 * k) 1) (by omega) hL dL_law_1250 ?_
  refine lx_callL hC (sat_X8_freeSeats (xl X) hl (ys (3 * k + 1)) s1) (run_V (as := [.int (ys (3 * k + 1))]) (rest := []) hC hE ly8 rfl cw_X8_freeSeats ci_X8_freeSeats wd1895 cs_X8_freeSeats ce_X8_freeSeats cd_X8_freeSeats (by decide) (by decide) (Nat.le_of_ble_eq_true rfl) dL_law_1251 rfl) e2 ?_
  refine lx_istore hC dL_law_1254 (by decide) ?_
  refine lx_sub (lv' := (7, .int v2) :: (6, .int v1) :: LV (nI (3 * k))) [0, 1, 2, 3, 4, 5, 6, 7] rfl ?_
  exact tl_I hC hE hl dL_law_1256 dL_law_1257 dL_law_1260 dL_law_1262 dL_law_1267 dL_law_1269 dL_law_1272 dL_law_1273 dL_law_1274 dL_law_1275 dL_law_1277 dL_law_1278 dL_law_1279 dL_law_1284 (by decide) e3 e4 (kk _ _ j)
theorem bk_17 (hC : Cok X V A RL cL_law 9) (hE : Env0 V adV A (xs X) (xs X).heap) (hl : (xl X).stackTraces = false) (hS : Scr X V A L ys) (hL : L ≤ 1536) (hk : 3 * k + 2 < L) (h : J CC SS k σ A0) (kk : ∀ σ1 A1, J CC SS (k + 1) σ1 A1 → LX X V A 2048 94400 c0 s0 F 3341 (LV (nI (3 * k))) [] σ1 r) : LX X V A 2048 94400 c0 s0 F 1287 (LV (nI (3 * k))) [] σ r := by
  obtain ⟨v1, s1, v2, s2, A1, e1, e2, e3, e4, j⟩ := zo_rowLoudness (p := (ys (3 * k + 1))) h (by omega)
  refine lx_aload_n hC dL_law_1287 rfl 1 rfl ?_
  refine lx_aload_n hC dL_law_1288 rfl 0 rfl ?_
  refine lx_iload hC dL_law_1289 5 rfl ?_
  refine lx_iconstv (v := 1) hC dL_law_1291 rfl ?_
  refine lx_iadd hC dL_law_1292 ?_
  refine lx_sld (n := 3 * k + 1) hC hS (nI_add (3 * k) 1) (by omega) hL dL_law_1293 ?_
  refine lx_aload_n hC dL_law_1294 rfl 3 rfl ?_
  refine lx_callW (as := [.ref 0, .int (ys (3 * k + 1)), .ref 9]) (rest := []) hC hE (sat_L_rowLoudness (xl X) hl (ys (3 * k + 1)) σ) lc_rowLoudness li_L wd887 ls_rowLoudness ld_rowLoudness (by decide) (by decide) (Nat.le_of_ble_eq_true rfl) dL_law_1295 rfl e1 ?_
  refine lx_istore hC dL_law_1298 (by decide) ?_
  refine lx_aload_n hC dL_law_1300 rfl 3 rfl ?_
  refine lx_aload_n hC dL_law_1301 rfl 1 rfl ?_
  refine lx_iload hC dL_law_1302 6 rfl ?_
  refine lx_iconstv (v := 1) hC dL_law_1304 rfl ?_
  refine lx_iadd hC dL_law_1305 ?_
  refine lx_sld (n := 3 * k + 1) hC hS (nI_add (3 * k) 1) (by omega) hL dL_law_1306 ?_
  refine lx_callL hC (sat_X8_rowLoudness (xl X) hl (ys (3 * k + 1)) s1) (run_V (as := [.int (ys (3 * k + 1))]) (rest := []) hC hE ly8 rfl cw_X8_rowLoudness ci_X8_rowLoudness wd1899 cs_X8_rowLoudness ce_X8_rowLoudness cd_X8_rowLoudness (by decide) (by decide) (Nat.le_of_ble_eq_true rfl) dL_law_1307 rfl) e2 ?_
  refine lx_istore hC dL_law_1310 (by decide) ?_
  refine lx_sub (lv' := (7, .int v2) :: (6, .int v1) :: LV (nI (3 * k))) [0, 1, 2, 3, 4, 5, 6, 7] rfl ?_
  exact tl_I hC hE hl dL_law_1312 dL_law_1313 dL_law_1316 dL_law_1318 dL_law_1323 dL_law_1325 dL_law_1328 dL_law_1329 dL_law_1330 dL_law_1331 dL_law_1333 dL_law_1334 dL_law_1335 dL_law_1340 (by decide) e3 e4 (kk _ _ j)
theorem bk_18 (hC : Cok X V A RL cL_law 9) (hE : Env0 V adV A (xs X) (xs X).heap) (hl : (xl X).stackTraces = false) (hS : Scr X V A L ys) (hL : L ≤ 1536) (hk : 3 * k + 2 < L) (h : J CC SS k σ A0) (kk : ∀ σ1 A1, J CC SS (k + 1) σ1 A1 → LX X V A 2048 94400 c0 s0 F 3341 (LV (nI (3 * k))) [] σ1 r) : LX X V A 2048 94400 c0 s0 F 1343 (LV (nI (3 * k))) [] σ r := by
  obtain ⟨v1, s1, v2, s2, A1, e1, e2, e3, e4, j⟩ := zo_isLocked (p := (ys (3 * k + 1))) h (by omega)
  refine lx_aload_n hC dL_law_1343 rfl 1 rfl ?_
  refine lx_aload_n hC dL_law_1344 rfl 0 rfl ?_
  refine lx_iload hC dL_law_1345 5 rfl ?_
  refine lx_iconstv (v := 1) hC dL_law_1347 rfl ?_
  refine lx_iadd hC dL_law_1348 ?_
  refine lx_sld (n := 3 * k + 1) hC hS (nI_add (3 * k) 1) (by omega) hL dL_law_1349 ?_
  refine lx_aload_n hC dL_law_1350 rfl 3 rfl ?_
  refine lx_callW (as := [.ref 0, .int (ys (3 * k + 1)), .ref 9]) (rest := []) hC hE (sat_L_isLocked (xl X) hl (ys (3 * k + 1)) σ) lc_isLocked li_L wd898 ls_isLocked ld_isLocked (by decide) (by decide) (Nat.le_of_ble_eq_true rfl) dL_law_1351 rfl e1 ?_
  refine lx_istore hC dL_law_1354 (by decide) ?_
  refine lx_aload_n hC dL_law_1356 rfl 3 rfl ?_
  refine lx_aload_n hC dL_law_1357 rfl 1 rfl ?_
  refine lx_iload hC dL_law_1358 6 rfl ?_
  refine lx_iconstv (v := 1) hC dL_law_1360 rfl ?_
  refine lx_iadd hC dL_law_1361 ?_
  refine lx_sld (n := 3 * k + 1) hC hS (nI_add (3 * k) 1) (by omega) hL dL_law_1362 ?_
  refine lx_callL hC (sat_X8_isLocked (xl X) hl (ys (3 * k + 1)) s1) (run_V (as := [.int (ys (3 * k + 1))]) (rest := []) hC hE ly8 rfl cw_X8_isLocked ci_X8_isLocked wd1907 cs_X8_isLocked ce_X8_isLocked cd_X8_isLocked (by decide) (by decide) (Nat.le_of_ble_eq_true rfl) dL_law_1363 rfl) e2 ?_
  refine lx_istore hC dL_law_1366 (by decide) ?_
  refine lx_sub (lv' := (7, .int v2) :: (6, .int v1) :: LV (nI (3 * k))) [0, 1, 2, 3, 4, 5, 6, 7] rfl ?_
  exact tl_Z hC hE hl dL_law_1368 dL_law_1369 dL_law_1372 dL_law_1374 dL_law_1379 dL_law_1381 dL_law_1384 dL_law_1385 dL_law_1386 dL_law_1387 dL_law_1389 dL_law_1392 dL_law_1393 dL_law_1396 dL_law_1397 dL_law_1398 dL_law_1403 (by decide) e3 e4 (kk _ _ j)
theorem bk_19 (hC : Cok X V A RL cL_law 9) (hE : Env0 V adV A (xs X) (xs X).heap) (hl : (xl X).stackTraces = false) (hS : Scr X V A L ys) (hL : L ≤ 1536) (hk : 3 * k + 2 < L) (h : J CC SS k σ A0) (kk : ∀ σ1 A1, J CC SS (k + 1) σ1 A1 → LX X V A 2048 94400 c0 s0 F 3341 (LV (nI (3 * k))) [] σ1 r) : LX X V A 2048 94400 c0 s0 F 1406 (LV (nI (3 * k))) [] σ r := by
  obtain ⟨v1, s1, v2, s2, A1, e1, e2, e3, e4, j⟩ := zo_isCrowded (p := (ys (3 * k + 1))) h (by omega)
  refine lx_aload_n hC dL_law_1406 rfl 1 rfl ?_
  refine lx_aload_n hC dL_law_1407 rfl 0 rfl ?_
  refine lx_iload hC dL_law_1408 5 rfl ?_
  refine lx_iconstv (v := 1) hC dL_law_1410 rfl ?_
  refine lx_iadd hC dL_law_1411 ?_
  refine lx_sld (n := 3 * k + 1) hC hS (nI_add (3 * k) 1) (by omega) hL dL_law_1412 ?_
  refine lx_aload_n hC dL_law_1413 rfl 3 rfl ?_
  refine lx_callW (as := [.ref 0, .int (ys (3 * k + 1)), .ref 9]) (rest := []) hC hE (sat_L_isCrowded (xl X) hl (ys (3 * k + 1)) σ) lc_isCrowded li_L wd905 ls_isCrowded ld_isCrowded (by decide) (by decide) (Nat.le_of_ble_eq_true rfl) dL_law_1414 rfl e1 ?_
  refine lx_istore hC dL_law_1417 (by decide) ?_
  refine lx_aload_n hC dL_law_1419 rfl 3 rfl ?_
  refine lx_aload_n hC dL_law_1420 rfl 1 rfl ?_
  refine lx_iload hC dL_law_1421 6 rfl ?_
  refine lx_iconstv (v := 1) hC dL_law_1423 rfl ?_
  refine lx_iadd hC dL_law_1424 ?_
  refine lx_sld (n := 3 * k + 1) hC hS (nI_add (3 * k) 1) (by omega) hL dL_law_1425 ?_
  refine lx_callL hC (sat_X8_isCrowded (xl X) hl (ys (3 * k + 1)) s1) (run_V (as := [.int (ys (3 * k + 1))]) (rest := []) hC hE ly8 rfl cw_X8_isCrowded ci_X8_isCrowded wd1911 cs_X8_isCrowded ce_X8_isCrowded cd_X8_isCrowded (by decide) (by decide) (Nat.le_of_ble_eq_true rfl) dL_law_1426 rfl) e2 ?_
  refine lx_istore hC dL_law_1429 (by decide) ?_
  refine lx_sub (lv' := (7, .int v2) :: (6, .int v1) :: LV (nI (3 * k))) [0, 1, 2, 3, 4, 5, 6, 7] rfl ?_
  exact tl_Z hC hE hl dL_law_1431 dL_law_1432 dL_law_1435 dL_law_1437 dL_law_1442 dL_law_1444 dL_law_1447 dL_law_1448 dL_law_1449 dL_law_1450 dL_law_1452 dL_law_1455 dL_law_1456 dL_law_1459 dL_law_1460 dL_law_1461 dL_law_1466 (by decide) e3 e4 (kk _ _ j)
theorem bk_20 (hC : Cok X V A RL cL_law 9) (hE : Env0 V adV A (xs X) (xs X).heap) (hl : (xl X).stackTraces = false) (hS : Scr X V A L ys) (hL : L ≤ 1536) (hk : 3 * k + 2 < L) (h : J CC SS k σ A0) (kk : ∀ σ1 A1, J CC SS (k + 1) σ1 A1 → LX X V A 2048 94400 c0 s0 F 3341 (LV (nI (3 * k))) [] σ1 r) : LX X V A 2048 94400 c0 s0 F 1469 (LV (nI (3 * k))) [] σ r := by
  obtain ⟨v1, s1, v2, s2, A1, e1, e2, e3, e4, j⟩ := zo_idInRow (p := (ys (3 * k + 1))) (q := (ys (3 * k + 2))) h (by omega)
  refine lx_aload_n hC dL_law_1469 rfl 1 rfl ?_
  refine lx_aload_n hC dL_law_1470 rfl 0 rfl ?_
  refine lx_iload hC dL_law_1471 5 rfl ?_
  refine lx_iconstv (v := 1) hC dL_law_1473 rfl ?_
  refine lx_iadd hC dL_law_1474 ?_
  refine lx_sld (n := 3 * k + 1) hC hS (nI_add (3 * k) 1) (by omega) hL dL_law_1475 ?_
  refine lx_aload_n hC dL_law_1476 rfl 0 rfl ?_
  refine lx_iload hC dL_law_1477 5 rfl ?_
  refine lx_iconstv (v := 2) hC dL_law_1479 rfl ?_
  refine lx_iadd hC dL_law_1480 ?_
  refine lx_sld (n := 3 * k + 2) hC hS (nI_add (3 * k) 2) (by omega) hL dL_law_1481 ?_
  refine lx_aload_n hC dL_law_1482 rfl 3 rfl ?_
  refine lx_callW (as := [.ref 0, .int (ys (3 * k + 1)), .int (ys (3 * k + 2)), .ref 9]) (rest := []) hC hE (sat_L_idInRow (xl X) hl (ys (3 * k + 1)) (ys (3 * k + 2)) σ) lc_idInRow li_L wd913 ls_idInRow ld_idInRow (by decide) (by decide) (Nat.le_of_ble_eq_true rfl) dL_law_1483 rfl e1 ?_
  refine lx_istore hC dL_law_1486 (by decide) ?_
  refine lx_aload_n hC dL_law_1488 rfl 3 rfl ?_
  refine lx_aload_n hC dL_law_1489 rfl 1 rfl ?_
  refine lx_iload hC dL_law_1490 6 rfl ?_
  refine lx_iconstv (v := 1) hC dL_law_1492 rfl ?_
  refine lx_iadd hC dL_law_1493 ?_
  refine lx_sld (n := 3 * k + 1) hC hS (nI_add (3 * k) 1) (by omega) hL dL_law_1494 ?_
  refine lx_aload_n hC dL_law_1495 rfl 1 rfl ?_
  refine lx_iload hC dL_law_1496 6 rfl ?_
  refine lx_iconstv (v := 2) hC dL_law_1498 rfl ?_
  refine lx_iadd hC dL_law_1499 ?_
  refine lx_sld (n := 3 * k + 2) hC hS (nI_add (3 * k) 2) (by omega) hL dL_law_1500 ?_
  refine lx_callL hC (sat_X8_idInRow (xl X) hl (ys (3 * k + 1)) (ys (3 * k + 2)) s1) (run_V (as := [.int (ys (3 * k + 1)), .int (ys (3 * k + 2))]) (rest := []) hC hE ly8 rfl cw_X8_idInRow ci_X8_idInRow wd1915 cs_X8_idInRow ce_X8_idInRow cd_X8_idInRow (by decide) (by decide) (Nat.le_of_ble_eq_true rfl) dL_law_1501 rfl) e2 ?_
  refine lx_istore hC dL_law_1504 (by decide) ?_
  refine lx_sub (lv' := (7, .int v2) :: (6, .int v1) :: LV (nI (3 * k))) [0, 1, 2, 3, 4, 5, 6, 7] rfl ?_
  exact tl_I hC hE hl dL_law_1506 dL_law_1507 dL_law_1510 dL_law_1512 dL_law_1517 dL_law_1519 dL_law_1522 dL_law_1523 dL_law_1524 dL_law_1525 dL_law_1527 dL_law_1528 dL_law_1529 dL_law_1534 (by decide) e3 e4 (kk _ _ j)
end
