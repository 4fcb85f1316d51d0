/-! ===== the law's loop ===== -/
theorem and63 (v : Int32) : ∃ n, n < 64 ∧ v &&& 63 = nI n := by
  refine ⟨(v &&& 63).toBitVec.toNat, ?_, ?_⟩
  · rw [show (v &&& 63).toBitVec = v.toBitVec &&& 63#32 from rfl, BitVec.toNat_and]
    exact Nat.lt_of_le_of_lt Nat.and_le_right (by decide)
  · apply Int32.toBitVec_inj.mp
    show (v &&& 63).toBitVec = BitVec.ofNat 32 _
    rw [BitVec.ofNat_toNat, BitVec.setWidth_eq]
section
variable {X : Cx} {V : Vx} {A : Nat → Prop} {adV : Nat → Nat} {c0 s0 : Nat} {α : Type} {F : (α ⊕ String) × Mem → Room → State → Prop} {σ : Mem} {r : Res α} {CC SS k L : Nat} {ys : Nat → Int32} {A0 : Ab}
theorem J.next (h : J CC SS k σ A0) : J CC SS (k + 1) σ A0 := ⟨h.1, h.2.1, h.up, h.2.2.2.1, by have := h.2.2.2.2.1; omega, by have := h.2.2.2.2.2; omega⟩
set_option maxRecDepth 100000 in
set_option maxHeartbeats 4000000 in
theorem lw_switch (hC : Cok X V A RL cL_law 9) (hE : Env0 V adV A (xs X) (xs X).heap) (hl : (xl X).stackTraces = false) (hS : Scr X V A L ys) (hL : L ≤ 1536) (hk : 3 * k + 2 < L) (h : J CC SS k σ A0) (kk : ∀ σ1 A1, J CC SS (k + 1) σ1 A1 → LX X V A 2048 94400 c0 s0 F 3341 (LV (nI (3 * k))) [] σ1 r) : LX X V A 2048 94400 c0 s0 F 44 (LV (nI (3 * k))) [.int (ys (3 * k) &&& 63)] σ r := by
  obtain ⟨n, hn, e⟩ := and63 (ys (3 * k))
  rw [e]
  by_cases q0 : n = 0
  · subst q0; exact lx_tin hC 304 rfl dL_law_44 (by decide) (by decide) rfl (by decide) (bk_0 hC hE hl hS hL hk h kk)
  by_cases q1 : n = 1
  · subst q1; exact lx_tin hC 360 rfl dL_law_44 (by decide) (by decide) rfl (by decide) (bk_1 hC hE hl hS hL hk h kk)
  by_cases q2 : n = 2
  · subst q2; exact lx_tin hC 428 rfl dL_law_44 (by decide) (by decide) rfl (by decide) (bk_2 hC hE hl hS hL hk h kk)
  by_cases q3 : n = 3
  · subst q3; exact lx_tin hC 496 rfl dL_law_44 (by decide) (by decide) rfl (by decide) (bk_3 hC hE hl hS hL hk h kk)
  by_cases q4 : n = 4
  · subst q4; exact lx_tin hC 564 rfl dL_law_44 (by decide) (by decide) rfl (by decide) (bk_4 hC hE hl hS hL hk h kk)
  by_cases q5 : n = 5
  · subst q5; exact lx_tin hC 632 rfl dL_law_44 (by decide) (by decide) rfl (by decide) (bk_5 hC hE hl hS hL hk h kk)
  by_cases q6 : n = 6
  · subst q6; exact lx_tin hC 688 rfl dL_law_44 (by decide) (by decide) rfl (by decide) (bk_6 hC hE hl hS hL hk h kk)
  by_cases q7 : n = 7
  · subst q7; exact lx_tin hC 756 rfl dL_law_44 (by decide) (by decide) rfl (by decide) (bk_7 hC hE hl hS hL hk h kk)
  by_cases q8 : n = 8
  · subst q8; exact lx_tin hC 812 rfl dL_law_44 (by decide) (by decide) rfl (by decide) (bk_8 hC hE hl hS hL hk h kk)
  by_cases q9 : n = 9
  · subst q9; exact lx_tin hC 868 rfl dL_law_44 (by decide) (by decide) rfl (by decide) (bk_9 hC hE hl hS hL hk h kk)
  by_cases q10 : n = 10
  · subst q10; exact lx_tin hC 924 rfl dL_law_44 (by decide) (by decide) rfl (by decide) (bk_10 hC hE hl hS hL hk h kk)
  by_cases q11 : n = 11
  · subst q11; exact lx_tin hC 994 rfl dL_law_44 (by decide) (by decide) rfl (by decide) (bk_11 hC hE hl hS hL hk h kk)
  by_cases q12 : n = 12
  · subst q12; exact lx_tin hC 1050 rfl dL_law_44 (by decide) (by decide) rfl (by decide) (bk_12 hC hE hl hS hL hk h kk)
  by_cases q13 : n = 13
  · subst q13; exact lx_tin hC 1063 rfl dL_law_44 (by decide) (by decide) rfl (by decide) (bk_13 hC hE hl hS hL hk h kk)
  by_cases q14 : n = 14
  · subst q14; exact lx_tin hC 1119 rfl dL_law_44 (by decide) (by decide) rfl (by decide) (bk_14 hC hE hl hS hL hk h kk)
  by_cases q15 : n = 15
  · subst q15; exact lx_tin hC 1175 rfl dL_law_44 (by decide) (by decide) rfl (by decide) (bk_15 hC hE hl hS hL hk h kk)
  by_cases q16 : n = 16
  · subst q16; exact lx_tin hC 1231 rfl dL_law_44 (by decide) (by decide) rfl (by decide) (bk_16 hC hE hl hS hL hk h kk)
  by_cases q17 : n = 17
  · subst q17; exact lx_tin hC 1287 rfl dL_law_44 (by decide) (by decide) rfl (by decide) (bk_17 hC hE hl hS hL hk h kk)
  by_cases q18 : n = 18
  · subst q18; exact lx_tin hC 1343 rfl dL_law_44 (by decide) (by decide) rfl (by decide) (bk_18 hC hE hl hS hL hk h kk)
  by_cases q19 : n = 19
  · subst q19; exact lx_tin hC 1406 rfl dL_law_44 (by decide) (by decide) rfl (by decide) (bk_19 hC hE hl hS hL hk h kk)
  by_cases q20 : n = 20
  · subst q20; exact lx_tin hC 1469 rfl dL_law_44 (by decide) (by decide) rfl (by decide) (bk_20 hC hE hl hS hL hk h kk)
  by_cases q21 : n = 21
  · subst q21; exact lx_tin hC 1537 rfl dL_law_44 (by decide) (by decide) rfl (by decide) (bk_21 hC hE hl hS hL hk h kk)
  by_cases q22 : n = 22
  · subst q22; exact lx_tin hC 1550 rfl dL_law_44 (by decide) (by decide) rfl (by decide) (bk_22 hC hE hl hS hL hk h kk)
  by_cases q23 : n = 23
  · subst q23; exact lx_tin hC 1575 rfl dL_law_44 (by decide) (by decide) rfl (by decide) (bk_23 hC hE hl hS hL hk h kk)
  by_cases q24 : n = 24
  · subst q24; exact lx_tin hC 1631 rfl dL_law_44 (by decide) (by decide) rfl (by decide) (bk_24 hC hE hl hS hL hk h kk)
  by_cases q25 : n = 25
  · subst q25; exact lx_tin hC 1687 rfl dL_law_44 (by decide) (by decide) rfl (by decide) (bk_25 hC hE hl hS hL hk h kk)
  by_cases q26 : n = 26
  · subst q26; exact lx_tin hC 1743 rfl dL_law_44 (by decide) (by decide) rfl (by decide) (bk_26 hC hE hl hS hL hk h kk)
  by_cases q27 : n = 27
  · subst q27; exact lx_tin hC 1806 rfl dL_law_44 (by decide) (by decide) rfl (by decide) (bk_27 hC hE hl hS hL hk h kk)
  by_cases q28 : n = 28
  · subst q28; exact lx_tin hC 1862 rfl dL_law_44 (by decide) (by decide) rfl (by decide) (bk_28 hC hE hl hS hL hk h kk)
  by_cases q29 : n = 29
  · subst q29; exact lx_tin hC 1918 rfl dL_law_44 (by decide) (by decide) rfl (by decide) (bk_29 hC hE hl hS hL hk h kk)
  by_cases q30 : n = 30
  · subst q30; exact lx_tin hC 1974 rfl dL_law_44 (by decide) (by decide) rfl (by decide) (bk_30 hC hE hl hS hL hk h kk)
  by_cases q31 : n = 31
  · subst q31; exact lx_tin hC 2030 rfl dL_law_44 (by decide) (by decide) rfl (by decide) (bk_31 hC hE hl hS hL hk h kk)
  by_cases q32 : n = 32
  · subst q32; exact lx_tin hC 2086 rfl dL_law_44 (by decide) (by decide) rfl (by decide) (bk_32 hC hE hl hS hL hk h kk)
  by_cases q33 : n = 33
  · subst q33; exact lx_tin hC 2154 rfl dL_law_44 (by decide) (by decide) rfl (by decide) (bk_33 hC hE hl hS hL hk h kk)
  by_cases q34 : n = 34
  · subst q34; exact lx_tin hC 2222 rfl dL_law_44 (by decide) (by decide) rfl (by decide) (bk_34 hC hE hl hS hL hk h kk)
  by_cases q35 : n = 35
  · subst q35; exact lx_tin hC 2278 rfl dL_law_44 (by decide) (by decide) rfl (by decide) (bk_35 hC hE hl hS hL hk h kk)
  by_cases q36 : n = 36
  · subst q36; exact lx_tin hC 2334 rfl dL_law_44 (by decide) (by decide) rfl (by decide) (bk_36 hC hE hl hS hL hk h kk)
  by_cases q37 : n = 37
  · subst q37; exact lx_tin hC 2390 rfl dL_law_44 (by decide) (by decide) rfl (by decide) (bk_37 hC hE hl hS hL hk h kk)
  by_cases q38 : n = 38
  · subst q38; exact lx_tin hC 2434 rfl dL_law_44 (by decide) (by decide) rfl (by decide) (bk_38 hC hE hl hS hL hk h kk)
  by_cases q39 : n = 39
  · subst q39; exact lx_tin hC 2478 rfl dL_law_44 (by decide) (by decide) rfl (by decide) (bk_39 hC hE hl hS hL hk h kk)
  by_cases q40 : n = 40
  · subst q40; exact lx_tin hC 2543 rfl dL_law_44 (by decide) (by decide) rfl (by decide) (bk_40 hC hE hl hS hL hk h kk)
  by_cases q41 : n = 41
  · subst q41; exact lx_tin hC 2601 rfl dL_law_44 (by decide) (by decide) rfl (by decide) (bk_41 hC hE hl hS hL hk h kk)
  by_cases q42 : n = 42
  · subst q42; exact lx_tin hC 2657 rfl dL_law_44 (by decide) (by decide) rfl (by decide) (bk_42 hC hE hl hS hL hk h kk)
  by_cases q43 : n = 43
  · subst q43; exact lx_tin hC 2670 rfl dL_law_44 (by decide) (by decide) rfl (by decide) (bk_43 hC hE hl hS hL hk h kk)
  by_cases q44 : n = 44
  · subst q44; exact lx_tin hC 2683 rfl dL_law_44 (by decide) (by decide) rfl (by decide) (bk_44 hC hE hl hS hL hk h kk)
  by_cases q45 : n = 45
  · subst q45; exact lx_tin hC 2697 rfl dL_law_44 (by decide) (by decide) rfl (by decide) (bk_45 hC hE hl hS hL hk h kk)
  by_cases q46 : n = 46
  · subst q46; exact lx_tin hC 2711 rfl dL_law_44 (by decide) (by decide) rfl (by decide) (bk_46 hC hE hl hS hL hk h kk)
  by_cases q47 : n = 47
  · subst q47; exact lx_tin hC 2725 rfl dL_law_44 (by decide) (by decide) rfl (by decide) (bk_47 hC hE hl hS hL hk h kk)
  by_cases q48 : n = 48
  · subst q48; exact lx_tin hC 2790 rfl dL_law_44 (by decide) (by decide) rfl (by decide) (bk_48 hC hE hl hS hL hk h kk)
  by_cases q49 : n = 49
  · subst q49; exact lx_tin hC 2856 rfl dL_law_44 (by decide) (by decide) rfl (by decide) (bk_49 hC hE hl hS hL hk h kk)
  by_cases q50 : n = 50
  · subst q50; exact lx_tin hC 2869 rfl dL_law_44 (by decide) (by decide) rfl (by decide) (bk_50 hC hE hl hS hL hk h kk)
  by_cases q51 : n = 51
  · subst q51; exact lx_tin hC 2925 rfl dL_law_44 (by decide) (by decide) rfl (by decide) (bk_51 hC hE hl hS hL hk h kk)
  by_cases q52 : n = 52
  · subst q52; exact lx_tin hC 2981 rfl dL_law_44 (by decide) (by decide) rfl (by decide) (bk_52 hC hE hl hS hL hk h kk)
  by_cases q53 : n = 53
  · subst q53; exact lx_tin hC 3037 rfl dL_law_44 (by decide) (by decide) rfl (by decide) (bk_53 hC hE hl hS hL hk h kk)
  by_cases q54 : n = 54
  · subst q54; exact lx_tin hC 3095 rfl dL_law_44 (by decide) (by decide) rfl (by decide) (bk_54 hC hE hl hS hL hk h kk)
  by_cases q55 : n = 55
  · subst q55; exact lx_tin hC 3139 rfl dL_law_44 (by decide) (by decide) rfl (by decide) (bk_55 hC hE hl hS hL hk h kk)
  by_cases q56 : n = 56
  · subst q56; exact lx_tin hC 3183 rfl dL_law_44 (by decide) (by decide) rfl (by decide) (bk_56 hC hE hl hS hL hk h kk)
  by_cases q57 : n = 57
  · subst q57; exact lx_tin hC 3227 rfl dL_law_44 (by decide) (by decide) rfl (by decide) (bk_57 hC hE hl hS hL hk h kk)
  by_cases q58 : n = 58
  · subst q58; exact lx_tin hC 3240 rfl dL_law_44 (by decide) (by decide) rfl (by decide) (bk_58 hC hE hl hS hL hk h kk)
  by_cases q59 : n = 59
  · subst q59; exact lx_tin hC 3284 rfl dL_law_44 (by decide) (by decide) rfl (by decide) (bk_59 hC hE hl hS hL hk h kk)
  by_cases q60 : n = 60
  · subst q60; exact lx_tin hC 3297 rfl dL_law_44 (by decide) (by decide) rfl (by decide) (bk_60 hC hE hl hS hL hk h kk)
  have h60 : 60 < n := by omega
  exact lx_tout hC 3341 dL_law_44 (Or.inr (by rw [nI_toInt (by omega)]; omega)) (by decide) (kk _ _ h.next)
theorem lw_loop (hC : Cok X V A RL cL_law 9) (hE : Env0 V adV A (xs X) (xs X).heap) (hl : (xl X).stackTraces = false) (hS : Scr X V A L ys) (hL : L ≤ 1536) (hend : ∀ k σ1 A1, k ≤ 512 → J CC SS k σ1 A1 → LX X V A 2048 94400 c0 s0 F 3347 (LV (nI (3 * k))) [] σ1 r) : ∀ (n k : Nat) (σ : Mem) (A0 : Ab), L < 3 * (k + n) → 3 * k ≤ L → J CC SS k σ A0 → LX X V A 2048 94400 c0 s0 F 28 (LV (nI (3 * k))) [] σ r
  | 0, k, σ, A0, h1, h2, h => absurd h1 (by omega)
  | n + 1, k, σ, A0, h1, h2, h => by
    refine lx_iload hC dL_law_28 5 rfl ?_
    refine lx_aload_n hC dL_law_30 rfl 0 rfl ?_
    refine lx_slen hC hS dL_law_31 ?_
    refine lx_iconstv (v := 3) hC dL_law_32 rfl ?_
    refine lx_isub hC dL_law_33 ?_
    by_cases q : 3 * k + 2 < L
    · refine lx_gtF hC 3347 dL_law_34 (by decide) (by rw [show nI L - 3 = nI (L - 3) from nS' (a := L) (b := 3) (by omega)]; exact nI_nlt (by omega) (by omega)) ?_
      refine lx_aload_n hC dL_law_37 rfl 0 rfl ?_
      refine lx_iload hC dL_law_38 5 rfl ?_
      refine lx_sld (n := 3 * k) hC hS rfl (by omega) hL dL_law_40 ?_
      refine lx_bipush (v := 63) hC dL_law_41 (by decide) ?_
      refine lx_iand hC dL_law_43 ?_
      refine lw_switch hC hE hl hS hL q h (fun σ1 A1 j => ?_)
      refine lx_iinc hC dL_law_3341 5 rfl (by decide) ?_
      rw [show nI (3 * k) + Int32.ofInt 3 = nI (3 * (k + 1)) from nI_add (3 * k) 3]
      refine lx_goto hC 28 dL_law_3344 (by decide) ?_
      refine lx_sub (lv' := LV (nI (3 * (k + 1)))) [1, 2, 3, 4, 5, 0] rfl ?_
      exact lw_loop hC hE hl hS hL hend n (k + 1) σ1 A1 (by omega) (by omega) j
    · refine lx_gtT hC 3347 dL_law_34 (by decide) ?_ (hend k σ A0 (by omega) h)
      by_cases q3 : 3 ≤ L
      · rw [show nI L - 3 = nI (L - 3) from nS' (a := L) (b := 3) q3]
        exact nI_lt (by omega) (by omega)
      · have hk0 : k = 0 := by omega
        subst hk0
        rcases (show L = 0 ∨ L = 1 ∨ L = 2 by omega) with rfl | rfl | rfl <;> decide
end
