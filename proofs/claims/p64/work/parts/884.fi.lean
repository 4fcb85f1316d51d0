/-! ===== all that must fit; the law's body ===== -/
theorem bst_max {P : Nat → Bool} {f : Nat → Nat} : ∀ {n b : Nat}, bst P f n = some b → ∀ k, k < n → P k = true → f k ≤ f b
  | 0, _, h, _, _, _ => by cases h
  | n + 1, b, h, k, hk, hp => by
    rw [bst] at h
    cases e : bst P f n with
    | none =>
      rw [e] at h
      dsimp only at h
      by_cases q : k = n
      · subst q
        rw [if_pos hp] at h
        cases h
        exact Nat.le_refl _
      · have := bst_none e k (by omega)
        rw [this] at hp
        cases hp
    | some x =>
      rw [e] at h
      dsimp only at h
      have ih : k < n → f k ≤ f x := fun z => bst_max e k z hp
      by_cases q : P n = true ∧ f x < f n
      · rw [if_pos q] at h
        cases h
        by_cases z : k = n
        · subst z; exact Nat.le_refl _
        · have := ih (by omega); omega
      · rw [if_neg q] at h
        cases h
        by_cases z : k = n
        · subst z
          exact Nat.not_lt.mp fun y => q ⟨hp, y⟩
        · exact ih (by omega)
section
variable {T : Th} {L : List String} {j k n : Nat} {p : Int32}
theorem v_rank (w : Sz T) (hj : j < tN T) (e : sltp T p = some j) : vL L (a_rank T p) = lN (rnk T j) := by
  have h1 := rnk_top w hj
  have h2 := w.2.1
  unfold a_rank actQ
  rw [e]
  exact nI_l (by omega)
theorem v_pos (w : Sz T) (hj : j < tN T) (e : sltp T p = some j) : vL L (a_positionInRow T p) = lN (pos T (tW T j) j) := by
  have h1 := pos_le T (tW T j) j
  have h2 := w.2.1
  unfold a_positionInRow actQ
  rw [e]
  exact nI_l (by omega)
theorem v_inrow (w : Sz T) (hj : j < tN T) : vL L (a_idInRow T (nI (tW T j)) (nI (pos T (tW T j) j))) = lN (tI T j) := by
  unfold a_idInRow rowQ
  rw [rwp_of w (w.2.2.2.1 j hj).2.1]
  dsimp only
  rw [satp_some w hj rfl]
  exact nI_l (tI_lt w hj)
theorem idr_l (w : Sz T) (hk : k < tN T) (e : rks T k = some j) (hj : j < tN T) : vL L (a_idByRank T (nI k)) = lN (tI T j) := by
  rw [idr_val w hk e, nI_l (tI_lt w hj)]
theorem v_loudest (w : Sz T) (h0 : 0 < tN T) : ∃ b, b < tN T ∧ vL L (a_loudest T) = lN (tI T b) ∧ ∀ k, k < tN T → tU T k ≤ tU T b := by
  unfold a_loudest
  cases e : bst (fun _ => true) (tU T) (tN T) with
  | none => exact absurd (bst_none e 0 h0) (by decide)
  | some b =>
    have h1 := (bst_lt e).1
    exact ⟨b, h1, nI_l (tI_lt w h1), fun k hk => bst_max e k hk rfl⟩
end
theorem bN_l {α β : Type} {v : β} {s : Mem} {f : β → Mem → Res α} : bindN (some (.inl v, s)) f = f v s := rfl
section
variable {s s0 s1 : Mem} {A A' : Ab} {n c k j : Nat} {v : Int64} {p : Int32}
/-- behind the ranks -/
theorem fi_end (h : CK s A) (W : WA n A) (hn : n < 10000) (hR : 1 ≤ tR (aT A)) {x5 : Int32} {kf37 : (Int32 × Mem) → Res Int32} : ∃ s1, m_L_fits_b37 x5 s kf37 (nI (tN (aT A))) = some (.inl 1, s1) ∧ CK s1 A ∧ Ku 6 s s1 := by
  have w := W.1.sz (by omega)
  have hR8 := w.1
  have hN := w.2.1
  unfold m_L_fits_b37
  rw [k_echoCount h, bP_some, if_pos (nI_le (Nat.le_refl _) (by omega)), k_rowCount h, bP_some]
  obtain ⟨m, _, em⟩ := chosen_val (s := s) (p := x5) (d := tR (aT A)) hR (by omega)
  rw [em, bP_some, bP_some, vl_i]
  obtain ⟨s1, e1, c1, u1⟩ := y_countInRows h w (p := nI m) (q := nI (tR (aT A)) - 1)
  obtain ⟨s2, e2, c2, u2⟩ := y_countInRowsByTree c1 w (p := nI m) (q := nI (tR (aT A)) - 1)
  rw [e1, bR_l, e2, bR_l, show vL L_countInRowsByTree (a_countInRows (aT A) (nI m) (nI (tR (aT A)) - 1)) = vL L_countInRows (a_countInRows (aT A) (nI m) (nI (tR (aT A)) - 1)) from rfl, if_neg (fun z => z (lg_rf _)), k_echoCount c2, bP_some]
  by_cases q : tN (aT A) = 0
  · rw [q, if_pos (show nI 0 = 0 from rfl)]
    exact ⟨s2, rfl, c2, (u1.trans u2).up (by decide)⟩
  · rw [if_neg (nI_ne0 (by omega) (by omega))]
    obtain ⟨b, b1, b2, b3⟩ := v_loudest (L := L_loudest) w (show 0 < tN (aT A) by omega)
    obtain ⟨j, j1, j2⟩ := rks_ex w (show 0 < tN (aT A) by omega)
    have t1 := (w.2.2.2.1 b b1).2.2.2.1
    have t2 := (w.2.2.2.1 j j1).2.2.2.1
    obtain ⟨s3, e3, c3, u3⟩ := y_loudest c2 w
    rw [e3, bR_l, b2, lN_i]
    obtain ⟨s4, e4, c4, u4⟩ := y_loudness c3 w (p := nI (tI (aT A) b))
    obtain ⟨s5, e5, c5, u5⟩ := y_idByRank c4 w (p := 0)
    obtain ⟨s6, e6, c6, u6⟩ := y_loudness c5 w (p := nI (tI (aT A) j))
    rw [e4, bR_l, e5, bR_l, show vL L_idByRank (a_idByRank (aT A) 0) = lN (tI (aT A) j) from idr_l w (k := 0) (by omega) j2 j1, lN_i, e6, bR_l, v_loud w b1 (sltp_E W.1 w b1), v_loud w j1 (sltp_E W.1 w j1), if_neg (by rw [lg_cmp_lt, lN_lt (by omega) (by omega)]; have := b3 j j1; omega)]
    exact ⟨s6, rfl, c6, (((((u1.trans u2).trans u3).trans u4).trans u5).trans u6).up (by decide)⟩
/-- the ranks -/
theorem fi_b37 (h : CK s A) (W : WA n A) (hn : n < 8950) (hR : 1 ≤ tR (aT A)) {x5 : Int32} {T : Th} (ht : aT A = T) : okR (lp (fun kf37 (a : Int32 × Mem) => m_L_fits_b37 x5 a.2 kf37 a.1) FUEL (0, s)) (fun o s1 => o = .inl 1 ∧ ∃ A', CK s1 A' ∧ aT A' = T ∧ WA (n + 24) A' ∧ Ku 4990 s s1) := by
  subst ht
  have hN := (W.1.sz (by omega)).2.1
  refine lp_i (fun k (a : Int32 × Mem) => a.1 = nI k ∧ ∃ A1, CK a.2 A1 ∧ aT A1 = aT A ∧ WA (n + k) A1 ∧ Ku (207 * k) s a.2) (tN (aT A)) ⟨rfl, A, h, rfl, W, Ku.refl⟩ (by omega) (fun k a kf hk hI hkf => ?_)
  obtain ⟨w2, σ⟩ := a
  obtain ⟨e0, A1, c0, t0, W0, u0⟩ := hI
  dsimp only at e0 c0 t0 W0 u0 ⊢
  subst e0
  by_cases q : k = tN (aT A)
  · obtain ⟨s1, e1, c1, u1⟩ := fi_end c0 W0 (by omega) (by rw [t0]; exact hR) (x5 := x5) (kf37 := kf)
    rw [t0, ← q] at e1
    rw [e1]
    exact okR_some.mpr ⟨rfl, A1, c1, t0, W0.up (by omega), (u0.trans u1).up (by omega)⟩
  · have w := W0.1.sz (by omega)
    have hk' : k < tN (aT A1) := by rw [t0]; omega
    obtain ⟨j, j1, j2⟩ := rks_ex w hk'
    have hp := sltp_E W0.1 w j1
    have hrk := (rks_lt j2).2
    unfold m_L_fits_b37
    rw [k_echoCount c0, bP_some, if_neg (nI_ge hk' (by rw [t0]; omega))]
    obtain ⟨s1, e1, c1, u1⟩ := y_idByRank c0 w (p := nI k)
    obtain ⟨s2, e2, c2, u2⟩ := y_idByRankByTree c1 w (p := nI k)
    obtain ⟨s3, e3, c3, u3⟩ := y_rank c2 w (p := nI (tI (aT A1) j))
    obtain ⟨s4, e4, c4, u4⟩ := y_rowOf c3 w (p := nI (tI (aT A1) j))
    obtain ⟨s5, e5, c5, u5⟩ := y_positionInRow c4 w (p := nI (tI (aT A1) j))
    obtain ⟨s6, e6, c6, u6⟩ := y_idInRow c5 w (p := nI (tW (aT A1) j)) (q := nI (pos (aT A1) (tW (aT A1) j) j))
    obtain ⟨s7, A7, e7, c7, t7, W7, u7⟩ := y_removes c6 W0 (by omega) j1
    rw [e1, bR_l, idr_l w hk' j2 j1, vl_i, lN_i, e2, bR_l, idr_l w hk' j2 j1, nI_l (tI_lt w j1), if_neg (fun z => z (lg_rf _)), e3, bR_l, v_rank w j1 hp, hrk, nI_l (show k < 2 ^ 31 by rw [t0] at hk'; omega), if_neg (fun z => z (lg_rf _)), e4, bR_l, v_row w j1 hp, e5, bR_l, v_pos w j1 hp, lN_i, lN_i, e6, bR_l, v_inrow w j1, if_neg (fun z => z (lg_rf _)), e7, bR_l, if_pos (show ¬ (1 : Int32) = 0 by decide), vl_i, nI_1]
    exact hkf _ (by omega) ⟨rfl, A7, c7, t7.trans t0, W7, (((((((u0.trans u1).trans u2).trans u3).trans u4).trans u5).trans u6).trans u7).up (by omega)⟩
/-- all fits -/
theorem y_fits (h : CK s A) (W : WA n A) (hn : n < 8900) (hR : 1 ≤ tR (aT A)) : ∃ s1 A', m_L_fits p s = some (.inl 1, s1) ∧ CK s1 A' ∧ aT A' = aT A ∧ WA (n + 40) A' ∧ Ku 6500 s s1 := by
  have hR8 := (W.1.sz (by omega)).1
  obtain ⟨s1, e1, c1, u1⟩ := y_isConsistent h (W.1.sz (by omega)) W.1
  have key : okR (lp (fun kf11 (a : Int32 × Mem) => m_L_fits_b11 p a.2 kf11 a.1) FUEL (0, s1)) (fun o s2 => o = .inl 1 ∧ ∃ A', CK s2 A' ∧ aT A' = aT A ∧ WA (n + 40) A' ∧ Ku 6490 s1 s2) := by
    refine lp_i (fun k (a : Int32 × Mem) => a.1 = nI k ∧ ∃ A1, CK a.2 A1 ∧ aT A1 = aT A ∧ WA (n + k) A1 ∧ Ku (180 * k) s1 a.2) (tR (aT A)) ⟨rfl, A, c1, rfl, W, Ku.refl⟩ (by omega) (fun k a kf hk hI hkf => ?_)
    obtain ⟨w2, σ⟩ := a
    obtain ⟨e0, A1, c0, t0, W0, u0⟩ := hI
    dsimp only at e0 c0 t0 W0 u0 ⊢
    subst e0
    unfold m_L_fits_b11
    rw [k_rowCount c0, bP_some, t0]
    by_cases q : k = tR (aT A)
    · rw [if_pos (nI_le (show tR (aT A) ≤ k by omega) (by omega))]
      refine okR_mono (fi_b37 c0 W0 (by omega) (by rw [t0]; exact hR) t0) fun o s2 ⟨z1, A2, z2, z3, z4, z5⟩ => ⟨z1, A2, z2, z3, z4.up (by omega), (u0.trans z5).up (by omega)⟩
    · rw [if_neg (nI_ge (show k < tR (aT A) by omega) (by omega))]
      obtain ⟨s2, A2, e2, c2, t2, W2, u2⟩ := y_spreads c0 W0 (by omega) (r := k) (by rw [t0]; omega)
      rw [e2, bR_l, if_pos (show ¬ (1 : Int32) = 0 by decide), vl_i, nI_1]
      exact hkf _ (by omega) ⟨rfl, A2, c2, t2.trans t0, W2, (u0.trans u2).up (by omega)⟩
  obtain ⟨o, s2, e2, rfl, A2, c2, t2, W2, u2⟩ := key
  refine ⟨s2, A2, ?_, c2, t2, W2, (u1.trans u2).up (by decide)⟩
  unfold m_L_fits
  rw [e1, bR_l, if_pos (show ¬ nI 1 = 0 by decide), e2]
end
