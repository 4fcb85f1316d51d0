/-! ===== removing, as the law looks at it ===== -/
def beq (T : Th) (d : Nat) : Nat := sm (fun i => if tH T i = some d then 1 else 0) (tN T)
theorem beq_le {T : Th} {d : Nat} : beq T d ≤ tN T := by
  have h1 := sm_le (f := fun i => if tH T i = some d then 1 else 0) (n := tN T) (c := 1) (fun k _ => by by_cases z : tH T k = some d <;> simp [z])
  unfold beq
  omega
section
variable {T : Th} {L : List String} {j d x n : Nat} {p : Int32}
theorem v_loud (w : Sz T) (hj : j < tN T) (e : sltp T p = some j) : vL L (a_loudness T p) = lN (tU T j) := by
  have h1 := (w.2.2.2.1 j hj).2.2.2.1
  unfold a_loudness actQ
  rw [e]
  exact nI_l (by omega)
theorem v_row (w : Sz T) (hj : j < tN T) (e : sltp T p = some j) : vL L (a_rowOf T p) = lN (tW T j) := by
  have h1 := (w.2.2.2.1 j hj).2.1
  have h2 := w.1
  unfold a_rowOf actQ
  rw [e]
  exact nI_l (by omega)
theorem v_beq (w : Sz T) (e : sltp T p = some j) : vL L (a_bequeathers T p) = lN (beq T (tI T j)) := by
  have h1 := beq_le (T := T) (d := tI T j)
  have h2 := w.2.1
  unfold a_bequeathers actQ
  rw [e]
  exact nI_l (n := beq T (tI T j)) (by omega)
theorem lng_le {k : Nat} : lng T k ≤ 24 := by
  have h1 := sm_le (f := fun i => if (hs T (it T i k)).isSome then 1 else 0) (n := 24) (c := 1) (fun i _ => by by_cases z : (hs T (it T i k)).isSome <;> simp [z])
  unfold lng
  omega
theorem v_steps (e : sltp T p = some j) : vL L (a_stepsToLastHeir T p) = lN (lng T j) := by
  have h1 := lng_le (T := T) (k := j)
  unfold a_stepsToLastHeir actQ
  rw [e]
  exact nI_l (by omega)
theorem v_heirS (w : Sz T) (hj : j < tN T) (e : sltp T p = some j) (hd : tH T j = some d) : vL L (a_heir T p) = lN d := by
  have h1 := (w.2.2.2.1 j hj).2.2.2.2 d hd
  have h2 := w.2.2.1.1
  unfold a_heir actQ
  rw [e]
  dsimp only
  rw [hd]
  exact nI_l (by omega)
theorem v_heirN (e : sltp T p = some j) (hd : tH T j = none) : a_heir T p = .inl 4 := by
  unfold a_heir actQ
  rw [e]
  dsimp only
  rw [hd]
theorem lng_0 (h : hs T j = none) : lng T j = 0 := lng_at (m := 0) h (Nat.zero_le _) (fun i hi => absurd hi (Nat.not_lt_zero _))
theorem lng_1 (h : hs T j = some x) : 1 ≤ lng T j := by
  have h1 : sm (fun i => if (hs T (it T i j)).isSome then 1 else 0) 1 ≤ sm (fun i => if (hs T (it T i j)).isSome then 1 else 0) 24 := sm_mono (by decide)
  have h2 : sm (fun i => if (hs T (it T i j)).isSome then 1 else 0) 1 = 1 := by
    show 0 + (if (hs T (it T 0 j)).isSome then 1 else 0) = 1
    rw [show it T 0 j = j from rfl, h]
    rfl
  unfold lng
  omega
theorem hs_none (h : tH T j = none) : hs T j = none := by
  unfold hs
  rw [h]
/-- the removed one is gone -/
theorem op5_gone (W : WT n T) (w : Sz T) (hj : j < tN T) : sltp (op5 T j) (nI (tI T j)) = none := by
  unfold sltp
  refine fnd_none fun k hk => ?_
  have hk' : k < tN T - 1 := hk
  simp only [decide_eq_false_iff_not]
  intro h
  have h : nI (del j (tI T) k) = nI (tI T j) := h
  obtain ⟨i, hi, hne, _, e2⟩ := del_ex (k := j) (n := tN T) (i := k) (by omega)
  rw [e2, nE (tI_lt w hi) (tI_lt w hj)] at h
  exact hne (W.inj hi hj h)
/-- the heir's slot behind it -/
theorem op5_heir (W : WT n T) (hn : n < 9999) (hj : j < tN T) (hx : x < tN T) (hne : x ≠ j) : sltp (op5 T j) (nI (tI T x)) = some (dix j x) ∧ dix j x < tN (op5 T j) ∧ tI (op5 T j) (dix j x) = tI T x := by
  have W5 := W.k5 hj
  have e : tI (op5 T j) (dix j x) = tI T x := del_dix hne
  have hlt : dix j x < tN (op5 T j) := by
    show dix j x < tN T - 1
    unfold dix
    by_cases q : x < j
    · rw [if_pos q]; omega
    · rw [if_neg q]; omega
  have := sltp_E W5 (W5.sz (by omega)) hlt
  rw [e] at this
  exact ⟨this, hlt, e⟩
theorem op5_loud (hne : x ≠ j) (h : hs T j = some x) : tU (op5 T j) (dix j x) = min (tU T x + tU T j) 999 := by
  show del j (bqU T j) (dix j x) = _
  rw [del_dix hne]
  unfold bqU
  rw [h]
  exact uf_s
theorem lost_S (h : hs T j = some x) : lost T j = tU T x + tU T j - min (tU T x + tU T j) 999 := by
  unfold lost
  rw [h]
theorem lost_N (h : hs T j = none) : lost T j = tU T j := by
  unfold lost
  rw [h]
theorem lost_le (w : Sz T) (hj : j < tN T) : lost T j ≤ 1998 := by
  have h1 := (w.2.2.2.1 j hj).2.2.2.1
  cases e : hs T j with
  | none => rw [lost_N e]; omega
  | some x =>
    have h2 := (w.2.2.2.1 x (hs_lt e).1).2.2.2.1
    rw [lost_S e]; omega
theorem op5_beq (hj : j < tN T) (h : tH T j = some d) (hne : d ≠ tI T j) : beq (op5 T j) d + 1 = beq T d + beq T (tI T j) := by
  obtain ⟨M, hM⟩ : ∃ M, tN T = M + 1 := ⟨tN T - 1, by omega⟩
  have h1 : beq (op5 T j) d = sm (del j (fun i => if bqH T j i = some d then 1 else 0)) M := by
    show sm (fun i => if del j (bqH T j) i = some d then 1 else 0) (tN T - 1) = _
    rw [hM]
    refine sm_congr fun k _ => ?_
    by_cases q : k < j
    · rw [del_lo q, del_lo q]
    · rw [del_hi q, del_hi q]
  have h2 := sm_del (f := fun i => if bqH T j i = some d then 1 else 0) (k := j) (n := M) (by omega)
  have h3 : (if bqH T j j = some d then 1 else 0) = 1 := by
    refine if_pos ?_
    unfold bqH
    rw [h, if_neg (fun z => hne (Option.some.inj z))]
  have h4 : sm (fun i => if bqH T j i = some d then 1 else 0) (M + 1) = sm (fun i => (if tH T i = some d then 1 else 0) + (if tH T i = some (tI T j) then 1 else 0)) (M + 1) := by
    refine sm_congr fun i _ => ?_
    show (if bqH T j i = some d then 1 else 0) = _
    unfold bqH
    by_cases q : tH T i = some (tI T j)
    · rw [if_pos q, if_pos h, if_neg (fun z => hne (Option.some.inj (z.symm.trans q))), if_pos q]
    · rw [if_neg q, if_neg q, Nat.add_zero]
  rw [sm_add] at h4
  unfold beq at h1 ⊢
  rw [h1]
  rw [hM]
  have h2 : sm (del j (fun i => if bqH T j i = some d then 1 else 0)) M + (if bqH T j j = some d then 1 else 0) = sm (fun i => if bqH T j i = some d then 1 else 0) (M + 1) := h2
  rw [h3, h4] at h2
  exact h2
end
section
variable {s s0 s1 : Mem} {A A' : Ab} {n c k j : Nat} {v : Int64} {p : Int32}
theorem rm_j255 (h : CK s A) (W : WA n A) (hn : n < 10000) (hU : aU A ≠ 0) (hv : v = mrk (aH A 0)) : ∃ s1 A', m_L_removes_j255 v 1 1 s = some (.inl 1, s1) ∧ CK s1 A' ∧ Sm n (popA A) A' ∧ Ku 73 s s1 := by
  subst hv
  obtain ⟨s1, e1, c1, u1⟩ := y_undo h W
  have e2 : (undA A).2 = popA A := by unfold undA; rw [if_neg hU]
  have W1 : WA n (popA A) := by have := W.und; rw [e2] at this; exact this
  rw [e2] at c1
  obtain ⟨s2, A2, e3, c2, m2, u2⟩ := y_mark' c1 W1 hn
  refine ⟨s2, A2, ?_, c2, m2, (u1.trans u2).up (by decide)⟩
  unfold m_L_removes_j255
  rw [vl_i, e1, bR_l, if_neg (by decide), e3, bR_l, show aT (popA A) = aH A 0 from rfl, if_neg (fun z => z (lg_rf _))]
theorem rm_j221 (h : CK s A) (W : WA n A) (hn : n < 10000) (hU : aU A ≠ 0) (ha : sltp (aT A) p = none) (hv : v = mrk (aH A 0)) : ∃ s1 A', m_L_removes_j221 p v 1 s = some (.inl 1, s1) ∧ CK s1 A' ∧ Sm n (popA A) A' ∧ Ku 73 s s1 := by
  obtain ⟨s1, A1, e1, c1, m1, u1⟩ := rm_j255 h W hn hU hv
  refine ⟨s1, A1, ?_, c1, m1, u1⟩
  have w := W.1.sz (by omega)
  have ea : a_isActive (aT A) p = nI 0 := by
    unfold a_isActive
    rw [ha]
    rfl
  have e3 : lN (tA (aT A)) = lN (lall (aT A)) + lN (tL (aT A)) := by rw [lN_add, W.1.2.2.1.2.2.2.2]
  unfold m_L_removes_j221
  rw [k_isActive h w, bP_some, ea, if_neg (show ¬ ¬ nI 0 = 0 from fun z => z rfl), k_addedLoudness h, bP_some, k_activeLoudness h w, bP_some, k_lostLoudness h, bP_some, ← e3, if_neg (fun z => z (lg_rf _)), e1]
/-- removing an echo is as the law asks -/
theorem y_removes (h : CK s A) (W : WA n A) (hn : n < 9000) (hj : j < tN (aT A)) : ∃ s1 A', m_L_removes (nI (tI (aT A) j)) s = some (.inl 1, s1) ∧ CK s1 A' ∧ aT A' = aT A ∧ WA (n + 1) A' ∧ Ku 200 s s1 := by
  have w := W.1.sz (by omega)
  have hN := w.2.1
  have hjr := (w.2.2.2.1 j hj).2.1
  obtain ⟨s1, A1, e1, c1, m1, u1⟩ := y_mark' h W (by omega)
  have t1 : aT A1 = aT A := m1.1
  have W1 : WA n A1 := m1.2.2.2
  have w1 : Sz (aT A1) := by rw [t1]; exact w
  have hp : sltp (aT A1) (nI (tI (aT A) j)) = some j := by rw [t1]; exact sltp_E W.1 w hj
  have hj1 : j < tN (aT A1) := by rw [t1]; exact hj
  generalize hpd : nI (tI (aT A) j) = p at hp ⊢
  obtain ⟨s2, e2, c2, u2⟩ := y_loudness c1 w1 (p := p)
  obtain ⟨s3, e3, c3, u3⟩ := y_heir c2 w1 (p := p)
  obtain ⟨s4, e4, c4, u4⟩ := y_stepsToLastHeir c3 w1 W1.1.ac (p := p)
  unfold m_L_removes
  rw [e1, bR_l, e2, bR_l, e3, bR_l, e4, bR_l, v_loud w1 hj1 hp, v_steps hp]
  have lgl := lng_le (T := aT A1) (k := j)
  have lol := lost_le w1 hj1
  have tul := (w1.2.2.2.1 j hj1).2.2.2.1
  -- the last heirs, told twice; then the removal
  have tail : ∀ (x39 x40 x41 : Int64) (z : Int32) {s5 : Mem}, CK s5 A1 → Ku 90 s s5 →
      (tK (aT A1) (tW (aT A1) j) = false → ∀ s6, CK s6 (pushA A1 (op5 (aT A1) j)) → Ku 93 s s6 → ∃ s7 A7, (if 0 ≤ lg_cmp x39 0 then (bindR (m_L_loudness (Int64.toInt32 x39) s6) (fun v51 s50 => if ¬ lg_cmp v51 ((x40 + lN (tU (aT A1) j)) - lN (lost (aT A1) j)) = 0 then (m_L_removes_j220 p (mrk (aT A)) s50 ) else (bindR (m_L_bequeathers (Int64.toInt32 x39) s50) (fun v87 s86 => if ¬ lg_cmp v87 x41 = 0 then (m_L_removes_j220 p (mrk (aT A)) s86 ) else (m_L_removes_j221 p (mrk (aT A)) 1 s86 ))))) else (if ¬ lg_cmp (lN (lost (aT A1) j)) (lN (tU (aT A1) j)) = 0 then (m_L_removes_j221 p (mrk (aT A)) 0 s6 ) else (m_L_removes_j221 p (mrk (aT A)) 1 s6 ))) = some (.inl 1, s7) ∧ CK s7 A7 ∧ Sm (n + 1) (popA (pushA A1 (op5 (aT A1) j))) A7 ∧ Ku 75 s6 s7) →
      ∃ s1 A', m_L_removes_j98 p (mrk (aT A)) (lN (tU (aT A1) j)) x39 x40 x41 z z s5 = some (.inl 1, s1) ∧ CK s1 A' ∧ aT A' = aT A ∧ WA (n + 1) A' ∧ Ku 200 s s1 := by
    intro x39 x40 x41 z s5 c5 u5 hrm
    obtain ⟨s6, e6, c6, u6⟩ := y_lastHeir c5 w1 W1.1.ac (p := p)
    obtain ⟨s7, e7, c7, u7⟩ := y_lastHeirByDoubling c6 w1 W1.1.ac (p := p)
    obtain ⟨s8, e8, c8, u8⟩ := y_remove c7 W1 (by omega) (p := p)
    unfold m_L_removes_j98
    rw [if_neg (fun y => y rfl), e6, bR_l, e7, bR_l, show vL L_lastHeirByDoubling (a_lastHeir (aT A1) p) = vL L_lastHeir (a_lastHeir (aT A1) p) from rfl, if_pos (lg_rf _), e8, bR_l]
    cases y : tK (aT A1) (tW (aT A1) j) with
    | true =>
      have ec : chA A1 5 p 0 = (.inl 4, A1) := by
        unfold chA
        rw [show rs (aT A1) 5 p 0 = rs5 (aT A1) p from rfl]
        unfold rs5
        rw [hp]
        dsimp only
        rw [if_neg (by rw [y]; exact fun z => Bool.noConfusion z)]
      rw [ec] at c8 ⊢
      have hth := vL_thr (L := L_remove) (c := 4) (by have := cdo_remove (A := A1) (p := p); rw [ec] at this; exact this)
      rw [if_neg (by rw [lg_cmp_ge]; exact fun z => absurd (Int64.le_trans z hth) (by decide))]
      obtain ⟨s9, e9, c9, u9⟩ := y_rowOf c8 w1 (p := p)
      have hrow : tW (aT A1) j < tR (aT A1) := (w1.2.2.2.1 j hj1).2.1
      rw [e9, bR_l, v_row w1 hj1 hp, lN_i]
      obtain ⟨s10, e10, c10, u10⟩ := y_isLocked c9 w1 (p := nI (tW (aT A1) j))
      obtain ⟨s11, A11, e11, c11, m11, u11⟩ := y_mark' c10 W1 (by omega)
      rw [e10, bR_l, v_lock w1 hrow, y, if_pos rfl, if_neg (fun z => z (lg_rf _)), e11, bR_l, t1, if_neg (fun z => z (lg_rf _))]
      exact ⟨s11, A11, rfl, c11, m11.1.trans t1, m11.2.2.2.up (Nat.le_succ _), ((((((u5.trans u6).trans u7).trans u8).trans u9).trans u10).trans u11).up (by decide)⟩
    | false =>
      have ec : chA A1 5 p 0 = (.inr (nI (lost (aT A1) j)), pushA A1 (op5 (aT A1) j)) := by
        unfold chA
        rw [show rs (aT A1) 5 p 0 = rs5 (aT A1) p from rfl]
        unfold rs5
        rw [hp]
        dsimp only
        rw [if_pos y]
        rfl
      rw [ec] at c8 ⊢
      have hv : vL L_remove (.inr (nI (lost (aT A1) j))) = lN (lost (aT A1) j) := nI_l (by omega)
      rw [hv, if_pos (by rw [lg_cmp_ge]; exact (lN_le (a := 0) (b := lost (aT A1) j) (by decide) (by omega)).mpr (Nat.zero_le _))]
      obtain ⟨s9, A9, e9, c9, m9, u9⟩ := hrm y s8 c8 ((((u5.trans u6).trans u7).trans u8).up (by decide))
      exact ⟨s9, A9, e9, c9, (m9.1.trans pop_1).trans t1, m9.2.2.2, ((((u5.trans u6).trans u7).trans u8).trans u9).up (by decide)⟩
  have hUp : aU (pushA A1 (op5 (aT A1) j)) ≠ 0 := by show min (aU A1 + 1) 8 ≠ 0; omega
  have hWp : WA (n + 1) (pushA A1 (op5 (aT A1) j)) := W1.push (W1.1.k5 hj1)
  have e0 : mrk (aT A) = mrk (aH (pushA A1 (op5 (aT A1) j)) 0) := by rw [push_h0, t1]
  have hgone : sltp (aT (pushA A1 (op5 (aT A1) j))) p = none := by
    rw [← hpd, ← t1]
    exact op5_gone W1.1 w1 hj1
  have u14 := ((u1.trans u2).trans u3).trans u4
  cases hd : tH (aT A1) j with
  | none =>
    have hn' := hs_none hd
    rw [v_heirN hp hd]
    have hth := vL_thr (L := L_heir) (c := 4) (by have := cdo_heir (A := A1) (p := p); rw [v_heirN hp hd] at this; exact this)
    have hneg : ¬ 0 ≤ lg_cmp (vL L_heir (.inl 4)) 0 := by rw [lg_cmp_ge]; exact fun z => absurd (Int64.le_trans z hth) (by decide)
    rw [if_neg hneg]
    unfold m_L_removes_j44
    rw [if_neg hneg]
    unfold m_L_removes_j72
    rw [if_neg hneg]
    unfold m_L_removes_j86
    rw [lng_0 hn', if_neg (show ¬ ¬ lg_cmp (lN 0) 0 = 0 from fun z => z (lg_rf _))]
    refine tail _ 0 0 1 c4 (u14.up (by decide)) (fun y s6 c6 u6 => ?_)
    obtain ⟨s7, A7, e7, c7, m7, u7⟩ := rm_j221 (p := p) c6 hWp (by omega) hUp hgone e0
    rw [if_neg hneg, lost_N hn', if_neg (fun z => z (lg_rf _))]
    exact ⟨s7, A7, e7, c7, m7, u7.up (by decide)⟩
  | some d =>
    obtain ⟨x, hx, hxd, hsx⟩ := W1.1.hsE hj1 hd
    have hne : x ≠ j := hs_ne W1.1.ac hj1 hsx
    have hdl : d < 2 ^ 31 := by rw [← hxd]; exact tI_lt w1 hx
    have hpx : sltp (aT A1) (nI d) = some x := by rw [← hxd]; exact sltp_E W1.1 w1 hx
    have tux := (w1.2.2.2.1 x hx).2.2.2.1
    have hpos : 0 ≤ lg_cmp (lN d) 0 := by rw [lg_cmp_ge]; exact (lN_le (a := 0) (b := d) (by decide) hdl).mpr (Nat.zero_le _)
    have hdj : d ≠ tI (aT A1) j := fun z => hne (W1.1.inj hx hj1 (hxd.trans z))
    rw [v_heirS w1 hj1 hp hd, if_pos hpos, lN_i]
    obtain ⟨s5, e5, c5, u5⟩ := y_loudness c4 w1 (p := nI d)
    rw [e5, bR_l, v_loud w1 hx hpx]
    unfold m_L_removes_j44
    obtain ⟨s6, e6, c6, u6⟩ := y_bequeathers c5 w1 (p := nI d)
    obtain ⟨s7, e7, c7, u7⟩ := y_bequeathers c6 w1 (p := p)
    rw [if_pos hpos, lN_i, e6, bR_l, e7, bR_l, v_beq w1 hpx, v_beq w1 hp, hxd]
    unfold m_L_removes_j72
    rw [if_pos hpos]
    unfold m_L_removes_j86
    have hl1 := lng_1 hsx
    rw [if_pos (show ¬ lg_cmp (lN (lng (aT A1) j)) 0 = 0 from fun z => by
      have z := (lg_cmp_eq _ _).mp z
      have z := (lN_eq (a := lng (aT A1) j) (b := 0) (by omega) (by decide)).mp z
      omega)]
    refine tail _ _ _ 0 c7 ((((u14.trans u5).trans u6).trans u7).up (by decide)) (fun y s8 c8 u8 => ?_)
    obtain ⟨h5a, h5b, h5c⟩ := op5_heir W1.1 (by omega) hj1 hx hne
    rw [hxd] at h5a h5c
    have wp : Sz (aT (pushA A1 (op5 (aT A1) j))) := hWp.1.sz (by omega)
    obtain ⟨s9, e9, c9, u9⟩ := y_loudness c8 wp (p := nI d)
    obtain ⟨s10, e10, c10, u10⟩ := y_bequeathers c9 wp (p := nI d)
    obtain ⟨s11, A11, e11, c11, m11, u11⟩ := rm_j221 (p := p) c10 hWp (by omega) hUp hgone e0
    have v1 : vL L_loudness (a_loudness (aT (pushA A1 (op5 (aT A1) j))) (nI d)) = lN (min (tU (aT A1) x + tU (aT A1) j) 999) := by
      rw [v_loud wp h5b h5a]
      exact congrArg lN (op5_loud hne hsx)
    have v2 : lN (tU (aT A1) x) + lN (tU (aT A1) j) - lN (lost (aT A1) j) = lN (min (tU (aT A1) x + tU (aT A1) j) 999) := by
      rw [lost_S hsx, lN_add, lN_sub (Nat.sub_le _ _)]
      exact congrArg lN (by omega)
    have v3 : vL L_bequeathers (a_bequeathers (aT (pushA A1 (op5 (aT A1) j))) (nI d)) = lN (beq (aT A1) d) + lN (beq (aT A1) (tI (aT A1) j)) - 1 := by
      have hb := op5_beq hj1 hd hdj
      rw [v_beq wp h5a, show tI (aT (pushA A1 (op5 (aT A1) j))) (dix j x) = d from h5c, lN_add, ← hb, show (1 : Int64) = lN 1 from rfl, lN_sub (Nat.le_add_left _ _), Nat.add_sub_cancel]
      rfl
    rw [if_pos hpos, lN_i, e9, bR_l, v1, v2, if_neg (fun z => z (lg_rf _)), e10, bR_l, v3, if_neg (fun z => z (lg_rf _))]
    exact ⟨s11, A11, e11, c11, m11, ((u9.trans u10).trans u11).up (by decide)⟩
end
