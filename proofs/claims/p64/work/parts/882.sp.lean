/-! ===== spreading, as the law looks at it ===== -/
theorem bst_none {P : Nat → Bool} {f : Nat → Nat} : ∀ {n : Nat}, bst P f n = none → ∀ k, k < n → P k = false
  | 0, _, k, hk => absurd hk (Nat.not_lt_zero _)
  | n + 1, h, k, hk => by
    rw [bst] at h
    cases e : bst P f n with
    | some b =>
      rw [e] at h
      dsimp only at h
      by_cases q : P n = true ∧ f b < f n
      · rw [if_pos q] at h; cases h
      · rw [if_neg q] at h; cases h
    | none =>
      rw [e] at h
      dsimp only at h
      by_cases q : P n = true
      · rw [if_pos q] at h; cases h
      · by_cases z : k = n
        · subst z; simpa using q
        · exact bst_none e k (by omega)
theorem rsp_some {T : Th} {r x : Nat} (hr : r < tR T) (hx : x < tR T) (hne : x ≠ r) (hk : tK T x = false) (hc : cnt T x < tC T x) : ∃ y, rsp T r = some y := by
  obtain ⟨d, d1, d2, d3⟩ : ∃ d, 1 ≤ d ∧ d < tR T ∧ (r + d) % tR T = x := by
    by_cases q : r < x
    · exact ⟨x - r, by omega, by omega, by rw [show r + (x - r) = x by omega]; exact Nat.mod_eq_of_lt hx⟩
    · exact ⟨x + tR T - r, by omega, by omega, by rw [show r + (x + tR T - r) = x + tR T by omega, Nat.add_mod_right]; exact Nat.mod_eq_of_lt hx⟩
  unfold rsp
  cases e : fnd (fun d => decide (1 ≤ d ∧ tK T ((r + d) % tR T) = false ∧ cnt T ((r + d) % tR T) < tC T ((r + d) % tR T))) (tR T) with
  | some y => exact ⟨_, rfl⟩
  | none =>
    have h1 := fnd_no e d d2
    simp only [decide_eq_false_iff_not, d3] at h1
    exact absurd ⟨d1, hk, hc⟩ h1
theorem spn_free {T : Th} {n : Nat} (h : WT n T) {r x : Nat} (hr : r < tR T) (hc : tC (spn T r 24).2 r < cnt (spn T r 24).2 r) (hx : x < tR (spn T r 24).2) (hk : tK (spn T r 24).2 x = false) (hf : cnt (spn T r 24).2 x < tC (spn T r 24).2 x) : False := by
  have e := spn_end h (r := r)
  have hR := (spn_w h (r := r) 24).2.2.2.1
  revert e hR hc hx hk hf
  generalize (spn T r 24).2 = T'
  intro hc hx hk hf e hR
  unfold sps at e
  rw [if_neg (by omega)] at e
  obtain ⟨k, k1, k2, _⟩ := pos_hit (T := T') (r := r) (p := 0) (n := tN T') (show 0 < cnt T' r by omega)
  cases e1 : ldst T' r with
  | none => exact absurd (bst_none e1 k k1) (by simp [k2])
  | some b =>
    obtain ⟨y, e2⟩ := rsp_some (T := T') (r := r) (x := x) (by omega) hx (fun z => by subst z; omega) hk hf
    rw [e1, e2] at e
    cases e
theorem spn_cnt {T : Th} {r : Nat} : ∀ m, cnt (spn T r m).2 r + (spn T r m).1 = cnt T r
  | 0 => rfl
  | m + 1 => by
    have ih := spn_cnt (T := T) (r := r) m
    cases e : sps (spn T r m).2 r with
    | none =>
      have e2 : spn T r (m + 1) = spn T r m := by
        show (match sps (spn T r m).2 r with | none => spn T r m | some T' => ((spn T r m).1 + 1, T')) = _
        rw [e]
      rw [e2]; exact ih
    | some T' =>
      have e2 : spn T r (m + 1) = ((spn T r m).1 + 1, T') := by
        show (match sps (spn T r m).2 r with | none => spn T r m | some T' => ((spn T r m).1 + 1, T')) = _
        rw [e]
      rw [e2]
      obtain ⟨k, x, q1, q2, q3, q4, q5⟩ := sps_is e
      obtain ⟨p1, p2⟩ := ldst_lt q2
      subst q5
      have h9 := cnt_op4 (T := (spn T r m).2) (r0 := x) (r := r) p1
      rw [if_pos p2, if_neg q4] at h9
      show cnt (op4 (spn T r m).2 k x) r + ((spn T r m).1 + 1) = _
      omega
theorem cnt_tN {T : Th} {r : Nat} : cnt T r ≤ tN T := by
  have h1 := sm_le (f := fun k => if tW T k = r then 1 else 0) (n := tN T) (c := 1) (fun k _ => by by_cases z : tW T k = r <;> simp [z])
  unfold cnt
  omega
section
variable {T : Th} {L : List String} {r : Nat}
theorem v_occ (w : Sz T) (hr : r < tR T) : vL L (a_occupancy T (nI r)) = lN (cnt T r) := by
  have h1 := cnt_tN (T := T) (r := r)
  have h2 := w.2.1
  unfold a_occupancy rowQ
  rw [rwp_of w hr]
  exact nI_l (by omega)
theorem v_cap (w : Sz T) (hr : r < tR T) : vL L (a_capacity T (nI r)) = lN (tC T r) := by
  have h2 := (w.2.2.2.2 r).1
  unfold a_capacity rowQ
  rw [rwp_of w hr]
  exact nI_l (by omega)
theorem v_lock (w : Sz T) (hr : r < tR T) : vZ L (a_isLocked T (nI r)) = if tK T r = true then 1 else 0 := by
  unfold a_isLocked rowQ
  rw [rwp_of w hr]
  show (if bI (tK T r) = 0 then (0 : Int64) else 1) = _
  cases tK T r
  · rfl
  · rfl
theorem v_crowd (w : Sz T) (hr : r < tR T) : vZ L (a_isCrowded T (nI r)) = if cnt T r ≤ tC T r then 0 else 1 := by
  unfold a_isCrowded rowQ
  rw [rwp_of w hr]
  show (if nI (if cnt T r ≤ tC T r then 0 else 1) = 0 then (0 : Int64) else 1) = _
  by_cases q : cnt T r ≤ tC T r
  · rw [if_pos q, if_pos q]; rfl
  · rw [if_neg q, if_neg q]; rfl
end
section
variable {s s0 s1 : Mem} {A A' : Ab} {n c k r : Nat} {v : Int64}
theorem y_mark' (h : CK s A) (W : WA n A) (hn : n < 10000) : ∃ s1 A', m_L_mark s = some (.inl (mrk (aT A)), s1) ∧ CK s1 A' ∧ Sm n A A' ∧ Ku 72 s s1 := by
  obtain ⟨s1, x, e, h1, h2, h3⟩ := y_mark h W hn
  exact ⟨s1, setL A x, e, h1, ⟨rfl, rfl, rfl, h2⟩, h3⟩
theorem push_h0 {T : Th} : aH (pushA A T) 0 = aT A := rfl
theorem pop_1 {T : Th} : (popA (pushA A T)).1 = aT A := rfl
theorem lg_rf (v : Int64) : lg_cmp v v = 0 := (lg_cmp_eq v v).mpr rfl
/-- what is undone behind it -/
theorem sp_j150 (h : CK s A) (W : WA n A) (hn : n < 10000) (hU : aU A ≠ 0) : ∃ s1 A', m_L_spreads_j150 (mrk (aH A 0)) 1 s = some (.inl 1, s1) ∧ CK s1 A' ∧ Sm n (popA A) A' ∧ Ku 73 s s1 := by
  obtain ⟨s1, e1, c1, u1⟩ := y_undo h W
  have e2 : (undA A).2 = popA A := by unfold undA; rw [if_neg hU]
  have W1 : WA n (popA A) := by have := W.und; rw [e2] at this; exact this
  rw [e2] at c1
  obtain ⟨s2, A2, e3, c2, m2, u2⟩ := y_mark' c1 W1 hn
  refine ⟨s2, A2, ?_, c2, m2, (u1.trans u2).up (by decide)⟩
  unfold m_L_spreads_j150
  rw [e1, bR_l, if_neg (by decide), e3, bR_l, show aT (popA A) = aH A 0 from rfl, if_neg (fun z => z (lg_rf _))]
theorem sp_j138 (h : CK s A) (W : WA n A) (hn : n < 10000) (hU : aU A ≠ 0) : ∃ s1 A', m_L_spreads_j138 (mrk (aH A 0)) s = some (.inl 1, s1) ∧ CK s1 A' ∧ Sm n (popA A) A' ∧ Ku 74 s s1 := by
  obtain ⟨s1, e1, c1, u1⟩ := y_isConsistent h (W.1.sz (by omega)) W.1
  obtain ⟨s2, A2, e2, c2, m2, u2⟩ := sp_j150 c1 W hn hU
  refine ⟨s2, A2, ?_, c2, m2, (u1.trans u2).up (by decide)⟩
  unfold m_L_spreads_j138
  rw [e1, bR_l, if_neg (show ¬ nI 1 = 0 by decide), e2]
theorem or0 (x : Int32) : x ||| 0 = x := by
  apply Int32.toBitVec_inj.mp
  show x.toBitVec ||| 0#32 = x.toBitVec
  exact BitVec.or_zero
/-- the rows are looked through -/
theorem sp_b57 (h : CK s A) (W : WA n A) (hn : n < 10000) (hU : aU A ≠ 0) (hr : r < tR (aT A)) {m N : Nat} {v1 : Int64} (hv1 : v1 = mrk (aH A 0)) (hN1 : cnt (aT A) r + m = N) (hm : N < 2 ^ 31) (hf : tC (aT A) r < cnt (aT A) r → ∀ x, x < tR (aT A) → tK (aT A) x = false → ¬ cnt (aT A) x < tC (aT A) x) :
    okR (lp (fun kf57 (a : Int32 × Int32 × Mem) => m_L_spreads_b57 (nI r) v1 (lN N) (lN m) a.2.2 kf57 a.1 a.2.1) FUEL (0, 0, s)) (fun o s1 => o = .inl 1 ∧ ∃ A', CK s1 A' ∧ Sm n (popA A) A' ∧ Ku 100 s s1) := by
  subst hv1
  subst hN1
  have w := W.1.sz (by omega)
  have hR := w.1
  have hN := w.2.1
  refine lp_i (fun k (a : Int32 × Int32 × Mem) => (a.1 ≠ 0 → ∃ x, x < tR (aT A) ∧ tK (aT A) x = false ∧ cnt (aT A) x < tC (aT A) x) ∧ a.2.1 = nI k ∧ CK a.2.2 A ∧ Ku (3 * k) s a.2.2) (tR (aT A)) ⟨fun z => absurd rfl z, rfl, h, Ku.refl⟩ (by omega) (fun k a kf hk hI hkf => ?_)
  obtain ⟨w8, w9, σ⟩ := a
  obtain ⟨e1, e2, e3, e4⟩ := hI
  dsimp only at e1 e2 e3 e4 ⊢
  subst e2
  unfold m_L_spreads_b57
  rw [k_rowCount e3, bP_some]
  by_cases q : k = tR (aT A)
  · rw [if_pos (nI_le (show tR (aT A) ≤ k by omega) (by omega))]
    obtain ⟨s1, f1, f2, f3⟩ := y_occupancy e3 w (p := nI r)
    have d1 := cnt_tN (T := aT A) (r := r)
    rw [f1, bR_l, v_occ w hr, lN_sub (Nat.le_add_left _ _), Nat.add_sub_cancel, if_neg (fun z => z (lg_rf _))]
    obtain ⟨s2, g1, g2, g3⟩ := y_isCrowded f2 w (p := nI r)
    rw [g1, bR_l, v_crowd w hr]
    obtain ⟨s3, A3, j1, j2, j3, j4⟩ := sp_j138 g2 W hn hU
    have fin : okR (m_L_spreads_j138 (mrk (aH A 0)) s2) (fun o s1 => o = .inl 1 ∧ ∃ A', CK s1 A' ∧ Sm n (popA A) A' ∧ Ku 100 s s1) := by
      rw [j1]
      exact okR_some.mpr ⟨rfl, A3, j2, j3, (((e4.trans f3).trans g3).trans j4).up (by omega)⟩
    by_cases z : cnt (aT A) r ≤ tC (aT A) r
    · rw [if_pos z, if_pos (lg_rf _)]; exact fin
    · rw [if_neg z, if_neg (by decide)]
      by_cases y : w8 = 0
      · rw [if_neg (fun v => v y)]; exact fin
      · obtain ⟨x, x1, x2, x3⟩ := e1 y
        exact absurd x3 (hf (by omega) x x1 x2)
  · have hk' : k < tR (aT A) := by omega
    rw [if_neg (nI_ge hk' (by omega))]
    obtain ⟨s1, f1, f2, f3⟩ := y_isLocked e3 w (p := nI k)
    rw [f1, bR_l, v_lock w hk']
    cases y : tK (aT A) k with
    | true =>
      rw [if_pos rfl, if_pos (show ¬ lg_cmp 1 0 = 0 by decide), vl_i, vl_i, or0, nI_1]
      exact hkf _ (by omega) ⟨e1, rfl, f2, (e4.trans f3).up (by omega)⟩
    | false =>
      rw [if_neg (fun z => Bool.noConfusion z), if_neg (fun z => z (lg_rf _))]
      obtain ⟨s2, g1, g2, g3⟩ := y_occupancy f2 w (p := nI k)
      obtain ⟨s3, j1, j2, j3⟩ := y_capacity g2 w (p := nI k)
      have d1 := cnt_tN (T := aT A) (r := k)
      have d2 := (w.2.2.2.2 k).1
      rw [g1, bR_l, v_occ w hk', j1, bR_l, v_cap w hk']
      have u : Ku (3 * (k + 1)) s s3 := (((e4.trans f3).trans g3).trans j3).up (by omega)
      by_cases z : cnt (aT A) k < tC (aT A) k
      · rw [if_neg (by rw [lg_cmp_ge, lN_le (by omega) (by omega)]; omega), vl_i, vl_i, nI_1]
        exact hkf _ (by omega) ⟨fun _ => ⟨k, hk', y, z⟩, rfl, j2, u⟩
      · rw [if_pos (by rw [lg_cmp_ge, lN_le (by omega) (by omega)]; omega), vl_i, vl_i, or0, nI_1]
        exact hkf _ (by omega) ⟨e1, rfl, j2, u⟩
theorem ch_spread (W : WT n (aT A)) (hr : r < tR (aT A)) (erw : rwp (aT A) (nI r) = some r) (y : tK (aT A) r = false) : ∃ (T2 : Th) (m2 : Nat), chA A 11 (nI r) 0 = (.inr (nI m2), pushA A T2) ∧ m2 ≤ 24 ∧ tR T2 = tR (aT A) ∧ cnt T2 r + m2 = cnt (aT A) r ∧ (tC T2 r < cnt T2 r → ∀ x, x < tR T2 → tK T2 x = false → ¬ cnt T2 x < tC T2 x) := by
  have hsp := spn_w W (r := r) 24
  refine ⟨(spn (aT A) r 24).2, (spn (aT A) r 24).1, ?_, hsp.2.2.1, hsp.2.2.2.1, spn_cnt 24, fun q1 x q2 q3 q4 => spn_free W hr q1 q2 q3 q4⟩
  unfold chA
  rw [show rs (aT A) 11 (nI r) 0 = rs8 true (aT A) (nI r) from rfl]
  unfold rs8
  rw [erw]
  dsimp only
  rw [if_neg (by rw [y]; exact fun z => Bool.noConfusion z)]
  dsimp only
  rw [opN11]
/-- spreading a row is as the law asks -/
theorem y_spreads (h : CK s A) (W : WA n A) (hn : n < 9000) (hr : r < tR (aT A)) : ∃ s1 A', m_L_spreads (nI r) s = some (.inl 1, s1) ∧ CK s1 A' ∧ aT A' = aT A ∧ WA (n + 1) A' ∧ Ku 180 s s1 := by
  have w := W.1.sz (by omega)
  have hN := w.2.1
  obtain ⟨s1, A1, e1, c1, m1, u1⟩ := y_mark' h W (by omega)
  have t1 : aT A1 = aT A := m1.1
  have w1 : Sz (aT A1) := by rw [t1]; exact w
  obtain ⟨s2, e2, c2, u2⟩ := y_occupancy c1 w1 (p := nI r)
  obtain ⟨s3, e3, c3, u3⟩ := y_spread c2 m1.2.2.2 (by omega) (p := nI r)
  have hW3 := m1.2.2.2.chA (kind := 11) (by decide) (p := nI r) (q := 0)
  unfold m_L_spreads
  rw [e1, bR_l, e2, bR_l, e3, bR_l, v_occ w1 (by rw [t1]; exact hr)]
  have erw : rwp (aT A1) (nI r) = some r := rwp_of w1 (by rw [t1]; exact hr)
  cases y : tK (aT A1) r with
  | true =>
    have ec : chA A1 11 (nI r) 0 = (.inl 4, A1) := by
      unfold chA
      rw [show rs (aT A1) 11 (nI r) 0 = rs8 true (aT A1) (nI r) from rfl]
      unfold rs8
      rw [erw]
      dsimp only
      rw [if_pos y]
    rw [ec] at c3 ⊢
    have hth := vL_thr (L := L_spread) (c := 4) (by have := cdo_spread (A := A1) (p := nI r); rw [ec] at this; exact this)
    rw [if_neg (by rw [lg_cmp_ge]; exact fun z => absurd (Int64.le_trans z hth) (by decide))]
    obtain ⟨s4, e4, c4, u4⟩ := y_isLocked c3 w1 (p := nI r)
    obtain ⟨s5, A5, e5, c5, m5, u5⟩ := y_mark' c4 m1.2.2.2 (by omega)
    rw [e4, bR_l, v_lock w1 (by rw [t1]; exact hr), y, if_pos rfl, if_neg (fun z => z (lg_rf _)), e5, bR_l, t1, if_neg (fun z => z (lg_rf _))]
    exact ⟨s5, A5, rfl, c5, m5.1.trans t1, m5.2.2.2.up (Nat.le_succ _), ((((u1.trans u2).trans u3).trans u4).trans u5).up (by decide)⟩
  | false =>
    obtain ⟨T2, m2, ec, f1, f2, f3, f4⟩ := ch_spread m1.2.2.2.1 (by rw [t1]; exact hr) erw y
    rw [ec] at c3 hW3 ⊢
    have d1 := cnt_tN (T := aT A1) (r := r)
    have d2 := w1.2.1
    have hv : vL L_spread (.inr (nI m2)) = lN m2 := nI_l (by omega)
    rw [hv, if_pos (by rw [lg_cmp_ge]; exact (lN_le (a := 0) (b := m2) (by decide) (by omega)).mpr (Nat.zero_le _))]
    obtain ⟨o, s9, e10, rfl, A9, c9, m9, u9⟩ := sp_b57 (A := pushA A1 T2) (r := r) (m := m2) (N := cnt (aT A1) r) (v1 := mrk (aT A)) c3 hW3 (by omega) (show min (aU A1 + 1) 8 ≠ 0 by omega) (show r < tR T2 by rw [f2, t1]; exact hr) (by rw [push_h0, t1]) f3 (by omega) f4
    exact ⟨s9, A9, e10, c9, (m9.1.trans pop_1).trans t1, m9.2.2.2, ((((u1.trans u2).trans u3)).trans u9).up (by decide)⟩
end
