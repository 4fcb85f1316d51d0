/-! ===== the law's cases ===== -/
abbrev LV (i : Int32) : List (Nat × Value) := [(0, .ref 2000), (1, .ref 0), (2, .ref 8), (3, .ref 9), (4, .ref 10), (5, .int i)]
section
variable {X : Cx} {V : Vx} {A : Nat → Prop} {adV : Nat → Nat} {c0 s0 : Nat} {α : Type} {F : (α ⊕ String) × Mem → Room → State → Prop} {σ : Mem} {r : Res α} {CC SS k L : Nat} {ys : Nat → Int32} {A0 : Ab}
theorem lx_thr (hC : Cok X V A RL cL_law 9) (hE : Env0 V adV A (xs X) (xs X).heap) (hl : (xl X).stackTraces = false) {pc : Nat} {lv : List (Nat × Value)} (hdg : decode cL_law pc = .ok (.invokevirtual 189, 3)) (k : LX X V A 2048 94400 c0 s0 F (pc + 3) lv [.int (gI σ 8 0)] σ r) : LX X V A 2048 94400 c0 s0 F pc lv [.ref 8] σ r :=
  lx_callL hC (sat_X8_thrown (xl X) hl σ) (run_V (as := []) (rest := []) hC hE ly8 rfl cw_X8_thrown ci_X8_thrown wd1661 cs_X8_thrown ce_X8_thrown cd_X8_thrown (by decide) (by decide) (Nat.le_of_ble_eq_true rfl) hdg rfl) (v := gI σ 8 0) (σ1 := σ) rfl k
theorem tl_I (hC : Cok X V A RL cL_law 9) (hE : Env0 V adV A (xs X) (xs X).heap) (hl : (xl X).stackTraces = false) {t : Nat} (d0 : decode cL_law t = .ok (.aload_n 2, 1)) (d1 : decode cL_law (t + 1) = .ok (.invokevirtual 189, 3)) (d2 : decode cL_law (t + 4) = .ok (.iload 6, 2)) (d3 : decode cL_law (t + 6) = .ok (.if_icmp .eq 5, 3)) (d4 : decode cL_law (t + 11) = .ok (.iload 6, 2)) (d5 : decode cL_law (t + 13) = .ok (.ifCond .ne 15, 3))
    (d6 : decode cL_law (t + 16) = .ok (.aload_n 3, 1)) (d7 : decode cL_law (t + 17) = .ok (.iconst 0, 1)) (d8 : decode cL_law (t + 18) = .ok (.laload, 1)) (d9 : decode cL_law (t + 19) = .ok (.iload 7, 2)) (d10 : decode cL_law (t + 21) = .ok (.i2l, 1)) (d11 : decode cL_law (t + 22) = .ok (.lcmp, 1)) (d12 : decode cL_law (t + 23) = .ok (.ifCond .eq 5, 3)) {off : Int} (d13 : decode cL_law (t + 28) = .ok (.goto off, 3)) (ht : ((t + 28 : Nat) : Int) + off = (3341 : Nat))
    {v1 v2 i : Int32} (e3 : gI σ 8 0 = v1) (e4 : v1 = 0 → gJ σ 9 0 = v2.toInt64) (kk : LX X V A 2048 94400 c0 s0 F 3341 (LV i) [] σ r) : LX X V A 2048 94400 c0 s0 F t ((7, .int v2) :: (6, .int v1) :: LV i) [] σ r := by
  refine lx_aload_n hC d0 rfl 4 rfl ?_
  refine lx_thr hC hE hl d1 ?_
  refine lx_iload hC (pc := t + 4) d2 1 rfl ?_
  refine lx_eqT hC (pc := t + 6) (t + 11) d3 (by omega) e3 ?_
  refine lx_iload hC (pc := t + 11) d4 1 rfl ?_
  by_cases z : v1 = 0
  · refine lx_nF hC (pc := t + 13) (t + 28) d5 (by omega) z ?_
    refine lx_aload_n hC (pc := t + 16) d6 rfl 5 rfl ?_
    refine lx_iconstv (v := 0) hC (pc := t + 17) d7 rfl ?_
    refine lx_out hC (pc := t + 18) d8 ?_
    refine lx_iload hC (pc := t + 19) d9 0 rfl ?_
    refine lx_i2l hC (pc := t + 21) d10 ?_
    refine lx_lcmp hC (pc := t + 22) d11 ?_
    refine lx_zT hC (pc := t + 23) (t + 28) d12 (by omega) ((lg_cmp_eq _ _).mpr (e4 z)) ?_
    refine lx_goto hC (pc := t + 28) 3341 d13 ht ?_
    exact lx_sub [2, 3, 4, 5, 6, 7] rfl kk
  · refine lx_nT hC (pc := t + 13) (t + 28) d5 (by omega) z ?_
    refine lx_goto hC (pc := t + 28) 3341 d13 ht ?_
    exact lx_sub [2, 3, 4, 5, 6, 7] rfl kk
theorem tl_Z (hC : Cok X V A RL cL_law 9) (hE : Env0 V adV A (xs X) (xs X).heap) (hl : (xl X).stackTraces = false) {t : Nat} (d0 : decode cL_law t = .ok (.aload_n 2, 1)) (d1 : decode cL_law (t + 1) = .ok (.invokevirtual 189, 3)) (d2 : decode cL_law (t + 4) = .ok (.iload 6, 2)) (d3 : decode cL_law (t + 6) = .ok (.if_icmp .eq 5, 3)) (d4 : decode cL_law (t + 11) = .ok (.iload 6, 2)) (d5 : decode cL_law (t + 13) = .ok (.ifCond .ne 22, 3))
    (d6 : decode cL_law (t + 16) = .ok (.aload_n 3, 1)) (d7 : decode cL_law (t + 17) = .ok (.iconst 0, 1)) (d8 : decode cL_law (t + 18) = .ok (.laload, 1)) (d9 : decode cL_law (t + 19) = .ok (.iload 7, 2)) (d10 : decode cL_law (t + 21) = .ok (.ifCond .eq 7, 3)) (d11 : decode cL_law (t + 24) = .ok (.lconst 1, 1)) (d12 : decode cL_law (t + 25) = .ok (.goto 4, 3)) (d13 : decode cL_law (t + 28) = .ok (.lconst 0, 1)) (d14 : decode cL_law (t + 29) = .ok (.lcmp, 1)) (d15 : decode cL_law (t + 30) = .ok (.ifCond .eq 5, 3)) {off : Int} (d16 : decode cL_law (t + 35) = .ok (.goto off, 3)) (ht : ((t + 35 : Nat) : Int) + off = (3341 : Nat))
    {v1 v2 i : Int32} (e3 : gI σ 8 0 = v1) (e4 : v1 = 0 → gJ σ 9 0 = if v2 = 0 then 0 else 1) (kk : LX X V A 2048 94400 c0 s0 F 3341 (LV i) [] σ r) : LX X V A 2048 94400 c0 s0 F t ((7, .int v2) :: (6, .int v1) :: LV i) [] σ r := by
  refine lx_aload_n hC d0 rfl 4 rfl ?_
  refine lx_thr hC hE hl d1 ?_
  refine lx_iload hC (pc := t + 4) d2 1 rfl ?_
  refine lx_eqT hC (pc := t + 6) (t + 11) d3 (by omega) e3 ?_
  refine lx_iload hC (pc := t + 11) d4 1 rfl ?_
  by_cases z : v1 = 0
  · refine lx_nF hC (pc := t + 13) (t + 35) d5 (by omega) z ?_
    refine lx_aload_n hC (pc := t + 16) d6 rfl 5 rfl ?_
    refine lx_iconstv (v := 0) hC (pc := t + 17) d7 rfl ?_
    refine lx_out hC (pc := t + 18) d8 ?_
    refine lx_iload hC (pc := t + 19) d9 0 rfl ?_
    have e := e4 z
    by_cases q : v2 = 0
    · rw [if_pos q] at e
      refine lx_zT hC (pc := t + 21) (t + 28) d10 (by omega) q ?_
      refine lx_lconst (v := 0) hC (pc := t + 28) d13 (by decide) ?_
      refine lx_lcmp hC (pc := t + 29) d14 ?_
      refine lx_zT hC (pc := t + 30) (t + 35) d15 (by omega) ((lg_cmp_eq _ _).mpr e) ?_
      refine lx_goto hC (pc := t + 35) 3341 d16 ht ?_
      exact lx_sub [2, 3, 4, 5, 6, 7] rfl kk
    · rw [if_neg q] at e
      refine lx_zF hC (pc := t + 21) (t + 28) d10 (by omega) q ?_
      refine lx_lconst (v := 1) hC (pc := t + 24) d11 (by decide) ?_
      refine lx_goto hC (pc := t + 25) (t + 29) d12 (by omega) ?_
      refine lx_lcmp hC (pc := t + 29) d14 ?_
      refine lx_zT hC (pc := t + 30) (t + 35) d15 (by omega) ((lg_cmp_eq _ _).mpr e) ?_
      refine lx_goto hC (pc := t + 35) 3341 d16 ht ?_
      exact lx_sub [2, 3, 4, 5, 6, 7] rfl kk
  · refine lx_nT hC (pc := t + 13) (t + 35) d5 (by omega) z ?_
    refine lx_goto hC (pc := t + 35) 3341 d16 ht ?_
    exact lx_sub [2, 3, 4, 5, 6, 7] rfl kk
theorem bk_0 (hC : Cok X V A RL cL_law 9) (hE : Env0 V adV A (xs X) (xs X).heap) (hl : (xl X).stackTraces = false) (hS : Scr X V A L ys) (hL : L ≤ 1536) (hk : 3 * k + 2 < L) (h : J CC SS k σ A0) (kk : ∀ σ1 A1, J CC SS (k + 1) σ1 A1 → LX X V A 2048 94400 c0 s0 F 3341 (LV (nI (3 * k))) [] σ1 r) : LX X V A 2048 94400 c0 s0 F 304 (LV (nI (3 * k))) [] σ r := by
  obtain ⟨v1, s1, v2, s2, A1, e1, e2, e3, e4, j⟩ := zo_addRow (p := (ys (3 * k + 1))) h (by omega)
  refine lx_aload_n hC dL_law_304 rfl 1 rfl ?_
  refine lx_aload_n hC dL_law_305 rfl 0 rfl ?_
  refine lx_iload hC dL_law_306 5 rfl ?_
  refine lx_iconstv (v := 1) hC dL_law_308 rfl ?_
  refine lx_iadd hC dL_law_309 ?_
  refine lx_sld (n := 3 * k + 1) hC hS (nI_add (3 * k) 1) (by omega) hL dL_law_310 ?_
  refine lx_aload_n hC dL_law_311 rfl 3 rfl ?_
  refine lx_callW (as := [.ref 0, .int (ys (3 * k + 1)), .ref 9]) (rest := []) hC hE (sat_L_addRow (xl X) hl (ys (3 * k + 1)) σ) lc_addRow li_L wd492 ls_addRow ld_addRow (by decide) (by decide) (Nat.le_of_ble_eq_true rfl) dL_law_312 rfl e1 ?_
  refine lx_istore hC dL_law_315 (by decide) ?_
  refine lx_aload_n hC dL_law_317 rfl 3 rfl ?_
  refine lx_aload_n hC dL_law_318 rfl 1 rfl ?_
  refine lx_iload hC dL_law_319 6 rfl ?_
  refine lx_iconstv (v := 1) hC dL_law_321 rfl ?_
  refine lx_iadd hC dL_law_322 ?_
  refine lx_sld (n := 3 * k + 1) hC hS (nI_add (3 * k) 1) (by omega) hL dL_law_323 ?_
  refine lx_callL hC (sat_X8_addRow (xl X) hl (ys (3 * k + 1)) s1) (run_V (as := [.int (ys (3 * k + 1))]) (rest := []) hC hE ly8 rfl cw_X8_addRow ci_X8_addRow wd1665 cs_X8_addRow ce_X8_addRow cd_X8_addRow (by decide) (by decide) (Nat.le_of_ble_eq_true rfl) dL_law_324 rfl) e2 ?_
  refine lx_istore hC dL_law_327 (by decide) ?_
  refine lx_sub (lv' := (7, .int v2) :: (6, .int v1) :: LV (nI (3 * k))) [0, 1, 2, 3, 4, 5, 6, 7] rfl ?_
  exact tl_I hC hE hl dL_law_329 dL_law_330 dL_law_333 dL_law_335 dL_law_340 dL_law_342 dL_law_345 dL_law_346 dL_law_347 dL_law_348 dL_law_350 dL_law_351 dL_law_352 dL_law_357 (by decide) e3 e4 (kk _ _ j)
theorem bk_1 (hC : Cok X V A RL cL_law 9) (hE : Env0 V adV A (xs X) (xs X).heap) (hl : (xl X).stackTraces = false) (hS : Scr X V A L ys) (hL : L ≤ 1536) (hk : 3 * k + 2 < L) (h : J CC SS k σ A0) (kk : ∀ σ1 A1, J CC SS (k + 1) σ1 A1 → LX X V A 2048 94400 c0 s0 F 3341 (LV (nI (3 * k))) [] σ1 r) : LX X V A 2048 94400 c0 s0 F 360 (LV (nI (3 * k))) [] σ r := by
  obtain ⟨v1, s1, v2, s2, A1, e1, e2, e3, e4, j⟩ := zo_addPhantoms (p := (ys (3 * k + 1))) (q := (ys (3 * k + 2))) h (by omega)
  refine lx_aload_n hC dL_law_360 rfl 1 rfl ?_
  refine lx_aload_n hC dL_law_361 rfl 0 rfl ?_
  refine lx_iload hC dL_law_362 5 rfl ?_
  refine lx_iconstv (v := 1) hC dL_law_364 rfl ?_
  refine lx_iadd hC dL_law_365 ?_
  refine lx_sld (n := 3 * k + 1) hC hS (nI_add (3 * k) 1) (by omega) hL dL_law_366 ?_
  refine lx_aload_n hC dL_law_367 rfl 0 rfl ?_
  refine lx_iload hC dL_law_368 5 rfl ?_
  refine lx_iconstv (v := 2) hC dL_law_370 rfl ?_
  refine lx_iadd hC dL_law_371 ?_
  refine lx_sld (n := 3 * k + 2) hC hS (nI_add (3 * k) 2) (by omega) hL dL_law_372 ?_
  refine lx_aload_n hC dL_law_373 rfl 3 rfl ?_
  refine lx_callW (as := [.ref 0, .int (ys (3 * k + 1)), .int (ys (3 * k + 2)), .ref 9]) (rest := []) hC hE (sat_L_addPhantoms (xl X) hl (ys (3 * k + 1)) (ys (3 * k + 2)) σ) lc_addPhantoms li_L wd753 ls_addPhantoms ld_addPhantoms (by decide) (by decide) (Nat.le_of_ble_eq_true rfl) dL_law_374 rfl e1 ?_
  refine lx_istore hC dL_law_377 (by decide) ?_
  refine lx_aload_n hC dL_law_379 rfl 3 rfl ?_
  refine lx_aload_n hC dL_law_380 rfl 1 rfl ?_
  refine lx_iload hC dL_law_381 6 rfl ?_
  refine lx_iconstv (v := 1) hC dL_law_383 rfl ?_
  refine lx_iadd hC dL_law_384 ?_
  refine lx_sld (n := 3 * k + 1) hC hS (nI_add (3 * k) 1) (by omega) hL dL_law_385 ?_
  refine lx_aload_n hC dL_law_386 rfl 1 rfl ?_
  refine lx_iload hC dL_law_387 6 rfl ?_
  refine lx_iconstv (v := 2) hC dL_law_389 rfl ?_
  refine lx_iadd hC dL_law_390 ?_
  refine lx_sld (n := 3 * k + 2) hC hS (nI_add (3 * k) 2) (by omega) hL dL_law_391 ?_
  refine lx_callL hC (sat_X8_addPhantoms (xl X) hl (ys (3 * k + 1)) (ys (3 * k + 2)) s1) (run_V (as := [.int (ys (3 * k + 1)), .int (ys (3 * k + 2))]) (rest := []) hC hE ly8 rfl cw_X8_addPhantoms ci_X8_addPhantoms wd1700 cs_X8_addPhantoms ce_X8_addPhantoms cd_X8_addPhantoms (by decide) (by decide) (Nat.le_of_ble_eq_true rfl) dL_law_392 rfl) e2 ?_
  refine lx_istore hC dL_law_395 (by decide) ?_
  refine lx_sub (lv' := (7, .int v2) :: (6, .int v1) :: LV (nI (3 * k))) [0, 1, 2, 3, 4, 5, 6, 7] rfl ?_
  exact tl_I hC hE hl dL_law_397 dL_law_398 dL_law_401 dL_law_403 dL_law_408 dL_law_410 dL_law_413 dL_law_414 dL_law_415 dL_law_416 dL_law_418 dL_law_419 dL_law_420 dL_law_425 (by decide) e3 e4 (kk _ _ j)
end
