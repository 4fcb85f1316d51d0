/-! ===== the law's body answers true ===== -/
/-- what the law's body ends with -/
def lQ : Int32 ⊕ String → Mem → Prop := fun o s => o = .inl 1 ∧ s = sgE
/-- what stands between two steps -/
def lI (s0 : Mem) (n c : Nat) (s : Mem) : Prop := ∃ A, CK s A ∧ WA n A ∧ 1 ≤ tR (aT A) ∧ Ku c s0 s
section
variable {s s0 s1 : Mem} {A A' : Ab} {n m c d k j : Nat} {v : Int64} {p : Int32} {cl : Int32 → Int32}
theorem Act.rows (h : Act n A A' v) : tR (aT A) ≤ tR (aT A') := by
  obtain ⟨_, _, h1 | h1⟩ := h
  · exact Nat.le_of_eq (congrArg tR h1.2.1.symm)
  · exact h1.2.1
theorem lI.up (h : lI s0 n c s) (hn : n ≤ m) (hc : c ≤ d) : lI s0 m d s := by
  obtain ⟨A, h1, h2, h3, h4⟩ := h
  exact ⟨A, h1, h2.up hn, h3, h4.up hc⟩
theorem lI.act (h : lI s0 n c s) (hn : n < 8900) : ∃ v s1, m_L_acts p s = some (.inl v, s1) ∧ lI s0 (n + 10) (c + 24) s1 := by
  obtain ⟨A, h1, h2, h3, h4⟩ := h
  obtain ⟨v, s1, A1, e, c1, a1, u1⟩ := y_acts h1 h2 (by omega) h3 (p := p)
  exact ⟨v, s1, e, A1, c1, a1.1, Nat.le_trans h3 a1.rows, h4.trans u1⟩
/-- the last of a round: all must fit -/
theorem lt_268 (h : lI s0 n c s) (hn : n < 8800) {x22 x23 : Int32} {kf : (Int32 × Mem) → Res Int32} {Q : Int32 ⊕ String → Mem → Prop} (K : ∀ s1, lI s0 (n + 40) (c + 6500) s1 → okR (kf (x22 + 1, s1)) Q) : okR (m_L_law_j268 cl x22 x23 s kf) Q := by
  unfold m_L_law_j268
  by_cases q : x22 - x22 / 3 * 3 = 1
  · rw [if_neg (fun z => z q)]
    obtain ⟨A, h1, h2, h3, h4⟩ := h
    obtain ⟨s1, A1, e, c1, t1, W1, u1⟩ := y_fits h1 h2 (by omega) h3 (p := x23 >>> (3 &&& 31))
    rw [e, bN_l, if_pos (show ¬ (1 : Int32) = 0 by decide), vl_i]
    exact K s1 ⟨A1, c1, W1, by rw [t1]; exact h3, h4.trans u1⟩
  · rw [if_pos q, vl_i]
    exact K s (h.up (by omega) (by omega))
theorem und_thr : vL L_undo (.inl 4) = -4000000000000000001 := by decide +kernel
/-- a copy is saved, and restored -/
theorem lt_199 (h : lI s0 n c s) (hn : n < 8700) {x20 x21 : Int32} {kf : (Int32 × Mem) → Res Int32} {Q : Int32 ⊕ String → Mem → Prop} (K : ∀ s1, lI s0 (n + 50) (c + 6700) s1 → okR (kf (x20 + 1, s1)) Q) : okR (m_L_law_j199 cl x20 x21 s kf) Q := by
  unfold m_L_law_j199
  by_cases q : x20 - x20 / 5 * 5 = 0
  · rw [if_neg (fun z => z q)]
    obtain ⟨A, h1, h2, h3, h4⟩ := h
    obtain ⟨s1, A1, e1, c1, m1, u1⟩ := y_mark' h1 h2 (by omega)
    have t1 : aT A1 = aT A := m1.1
    have W1 := m1.2.2.2
    obtain ⟨s2, e2, c2, u2⟩ := y_save c1 (W1.1.sz (by omega))
    rw [e1, bN_l, e2, bN_l, k_echoCount c2, bP_some, if_pos (show nI (tN (aT A1)) = nI (tN (aT (savA A1))) from rfl)]
    obtain ⟨v3, s3, A3, e3, c3, a3, u3⟩ := y_acts c2 W1.sav (by omega) (show 1 ≤ tR (aT A1) by rw [t1]; exact h3) (p := x21 + 1)
    have hs : aS A3 = some (aT A1) := a3.2.1
    have er : rstA A3 = (.inr (nI (tN (aT A1))), (aT A1, (0, aH A3), A3.2.2)) := by
      unfold rstA
      rw [hs]
    obtain ⟨s4, e4, c4, u4⟩ := y_restore c3 a3.1 (by omega)
    have W4 := a3.1.rst
    rw [er] at e4 c4 W4
    have hN := (W1.1.sz (by omega)).2.1
    rw [e3, bN_l, e4, bN_l, k_echoCount c4, bP_some]
    rw [show vL L_restore (.inr (nI (tN (aT A1)))) = (nI (tN (aT A1))).toInt64 from rfl]
    rw [if_neg (show ¬ ¬ lg_cmp (nI (tN (aT A1))).toInt64 (nI (tN (aT (aT A1, (0, aH A3), A3.2.2)))).toInt64 = 0 from fun z => z (lg_rf _))]
    obtain ⟨s5, A5, e5, c5, m5, u5⟩ := y_mark' c4 W4 (by omega)
    obtain ⟨s6, e6, c6, u6⟩ := y_undo c5 m5.2.2.2
    have eu : undA A5 = (.inl 4, A5) := by
      unfold undA
      rw [if_pos (show aU A5 = 0 from congrArg Prod.fst m5.2.1)]
    rw [eu] at e6 c6
    rw [e5, bN_l, show mrk (aT (aT A1, (0, aH A3), A3.2.2)) = mrk (aT A1) from rfl, t1, if_neg (fun z => z (lg_rf _)), e6, bN_l, und_thr, if_pos (lg_rf _)]
    refine lt_268 (n := n + 10) (c := c + 200) ⟨A5, c6, m5.2.2.2, ?_, ((((((h4.trans u1).trans u2).trans u3).trans u4).trans u5).trans u6).up (by omega)⟩ (by omega) (fun s7 h7 => K s7 (h7.up (by omega) (by omega)))
    have e9 : aT A5 = aT A1 := m5.1
    rw [e9, t1]
    exact h3
  · rw [if_pos q]
    exact lt_268 h (by omega) (fun s1 h1 => K s1 (h1.up (by omega) (by omega)))
theorem min7 {u : Nat} (hu : u ≤ 8) : (if (7 : Int64) < lN u then 7 else lN u) = lN (min u 7) := by
  show (if lN 7 < lN u then lN 7 else lN u) = _
  by_cases q : 7 < u
  · rw [if_pos ((lN_lt (a := 7) (b := u) (by decide) (by omega)).mpr q), show min u 7 = 7 by omega]
  · rw [if_neg (fun z => q ((lN_lt (a := 7) (b := u) (by decide) (by omega)).mp z)), show min u 7 = u by omega]
/-- one round -/
theorem lt_89 (h : lI s0 n c s) (hn : n < 8600) {k : Nat} (hk : k < 23) {kf : (Int32 × Mem) → Res Int32} {Q : Int32 ⊕ String → Mem → Prop} (K : ∀ s1, lI s0 (n + 80) (c + 7000) s1 → okR (kf (nI (k + 1) + 1, s1)) Q) : okR (m_L_law_b89 cl s kf (nI (k + 1))) Q := by
  unfold m_L_law_b89
  rw [if_neg (show ¬ (24 : Int32) ≤ nI (k + 1) from nI_ge (b := 24) (show k + 1 < 24 by omega) (by decide)), if_pos (show (0 : Int32) ≤ nI (k + 1) from nI_pos' (by omega)), vl_i]
  obtain ⟨A, h1, h2, h3, h4⟩ := h
  obtain ⟨s1, A1, e1, c1, m1, u1⟩ := y_mark' h1 h2 (by omega)
  have t1 : aT A1 = aT A := m1.1
  have W1 := m1.2.2.2
  obtain ⟨v2, s2, A2, e2, c2, a2, u2⟩ := y_acts c1 W1 (by omega) (show 1 ≤ tR (aT A1) by rw [t1]; exact h3) (p := cl (nI (k + 1)))
  have hU := W1.2.1
  rw [e1, bN_l, k_undoableCount c1, bP_some, e2, bN_l]
  have r2 : 1 ≤ tR (aT A2) := Nat.le_trans (by rw [t1]; exact h3) a2.rows
  obtain ⟨W2, _, ⟨b1, b2, b3⟩ | ⟨b1, b2, b3⟩⟩ := a2
  · have t2 : aT A2 = aT A1 := b2
    rw [if_neg (show ¬ 0 < lg_cmp v2 (-4000000000000000001) by rw [lg_cmp_gt]; exact fun z => Int64.lt_irrefl (Int64.lt_of_lt_of_le z b1))]
    unfold m_L_law_j135
    rw [if_neg (show ¬ (1 : Int32) = 0 by decide)]
    obtain ⟨s3, A3, e3, c3, m3, u3⟩ := y_mark' c2 W2 (by omega)
    rw [e3, bN_l, t2, t1, if_pos (lg_rf _)]
    unfold m_L_law_j154
    rw [if_pos (show ¬ (1 : Int32) = 0 by decide)]
    have t3 : aT A3 = aT A2 := m3.1
    exact lt_199 (n := n + 10) (c := c + 200) ⟨A3, c3, m3.2.2.2, by rw [t3]; exact r2, (((h4.trans u1).trans u2).trans u3).up (by omega)⟩ (by omega) (fun s7 h7 => K s7 (h7.up (by omega) (by omega)))
  · rw [if_pos (show 0 < lg_cmp v2 (-4000000000000000001) by rw [lg_cmp_gt]; exact b1)]
    unfold m_L_law_j135
    rw [if_pos (show (0 : Int32) = 0 from rfl)]
    unfold m_L_law_j154
    rw [if_neg (show ¬ ¬ (0 : Int32) = 0 from fun z => z rfl)]
    by_cases q : nI (k + 1) - nI (k + 1) / 3 * 3 = 0
    · rw [if_neg (fun z => z q)]
      obtain ⟨s3, e3, c3, u3⟩ := y_undo c2 W2
      have W3 := W2.und
      have hU2 : aU A2 = min (aU A1 + 1) 8 := congrArg Prod.fst b3
      have hH2 : aH A2 = fun j => if j = 0 then aT A1 else aH A1 (j - 1) := congrArg Prod.snd b3
      have eu : undA A2 = (.inr (nI (min (aU A1) 7)), popA A2) := by
        unfold undA
        rw [if_neg (by rw [hU2]; omega), hU2, show min (aU A1 + 1) 8 - 1 = min (aU A1) 7 by omega]
      rw [eu] at e3 c3 W3
      rw [e3, bN_l, nI_l (show aU A1 < 2 ^ 31 by omega), min7 hU, show vL L_undo (.inr (nI (min (aU A1) 7))) = lN (min (aU A1) 7) from nI_l (by omega), if_neg (fun z => z (lg_rf _))]
      have t3 : aT (popA A2) = aT A1 := by
        show aH A2 0 = aT A1
        rw [hH2]
        rfl
      obtain ⟨s4, A4, e4, c4, m4, u4⟩ := y_mark' c3 W3 (by omega)
      have t4 : aT A4 = aT (popA A2) := m4.1
      rw [e4, bN_l, t3, t1, if_pos (lg_rf _)]
      obtain ⟨v5, s5, e5, h5⟩ := lI.act (s0 := s0) (n := n + 10) (c := c + 200) (s := s4) (p := cl (nI (k + 1))) ⟨A4, c4, m4.2.2.2, by rw [t4, t3, t1]; exact h3, ((((h4.trans u1).trans u2).trans u3).trans u4).up (by omega)⟩ (by omega)
      rw [e5, bN_l]
      exact lt_199 h5 (by omega) (fun s7 h7 => K s7 (h7.up (by omega) (by omega)))
    · rw [if_pos q]
      exact lt_199 (n := n + 10) (c := c + 200) ⟨A2, c2, W2, r2, ((h4.trans u1).trans u2).up (by omega)⟩ (by omega) (fun s7 h7 => K s7 (h7.up (by omega) (by omega)))
/-- all rounds -/
theorem lt_rounds (h : lI s0 n c s) (hn : n < 100) (hc : c ≤ 1000) (hb : Cb s0) (h1 : nC s0 = 119) (h2 : nS s0 = 1807) : okR (lp (fun kf89 (a : Int32 × Mem) => m_L_law_b89 cl a.2 kf89 a.1) FUEL (1, s)) lQ := by
  refine lp_i (fun k (a : Int32 × Mem) => a.1 = nI (k + 1) ∧ lI s0 (n + 80 * k) (c + 7000 * k) a.2) 23 ⟨rfl, h⟩ (by decide) (fun k a kf hk hI hkf => ?_)
  obtain ⟨w2, σ⟩ := a
  obtain ⟨e0, i0⟩ := hI
  dsimp only at e0 i0 ⊢
  subst e0
  by_cases q : k = 23
  · subst q
    obtain ⟨A, c0, W0, _, u0⟩ := i0
    unfold m_L_law_b89
    rw [if_pos (show (24 : Int32) ≤ nI (23 + 1) by decide +kernel)]
    obtain ⟨_, ⟨u1, u2⟩, u3⟩ := u0
    obtain ⟨b1, b2⟩ := u3 hb
    unfold cap at u1 u2
    unfold finS
    rw [if_pos ⟨by omega, by omega⟩]
    exact okR_some.mpr ⟨rfl, rfl⟩
  · refine lt_89 i0 (by omega) (show k < 23 by omega) (fun s1 h1 => ?_)
    rw [nI_1]
    exact hkf _ (by omega) ⟨rfl, h1.up (by omega) (by omega)⟩
/-- five echoes -/
theorem lt_adds (h : lI s0 n c s) (hn : n < 50) (hc : c ≤ 900) (hb : Cb s0) (h1 : nC s0 = 119) (h2 : nS s0 = 1807) : okR (lp (fun kf50 (a : Int32 × Mem) => m_L_law_b50 cl a.2 kf50 a.1) FUEL (0, s)) lQ := by
  refine lp_i (fun k (a : Int32 × Mem) => a.1 = nI k ∧ lI s0 (n + k) (c + k) a.2) 5 ⟨rfl, h⟩ (by decide) (fun k a kf hk hI hkf => ?_)
  obtain ⟨w2, σ⟩ := a
  obtain ⟨e0, i0⟩ := hI
  dsimp only at e0 i0 ⊢
  subst e0
  unfold m_L_law_b50
  by_cases q : k = 5
  · subst q
    rw [if_pos (show (5 : Int32) ≤ nI 5 by decide +kernel)]
    exact lt_rounds i0 (by omega) (by omega) hb h1 h2
  · obtain ⟨A, c0, W0, r0, u0⟩ := i0
    rw [if_neg (show ¬ (5 : Int32) ≤ nI k from nI_ge (b := 5) (show k < 5 by omega) (by decide)), if_pos (show (0 : Int32) ≤ 0 by decide)]
    obtain ⟨m, _, em⟩ := chosen_val (s := σ) (p := cl 0 >>> (2 * nI k &&& 31)) (d := 3) (by decide) (by decide)
    rw [show m_L_chosen (cl 0 >>> (2 * nI k &&& 31)) 3 σ = _ from em, bP_some]
    obtain ⟨v3, s3, A3, e3, c3, a3, u3⟩ := ac_add c0 W0 (by omega) (p := nI m) (q := 100 + 150 * nI k)
    rw [e3, bN_l, vl_i, nI_1]
    exact hkf _ (by omega) ⟨rfl, A3, c3, a3.1, Nat.le_trans r0 a3.rows, u0.trans u3⟩
theorem ch_row {a : Nat} (h1 : 1 ≤ a) (h2 : a ≤ 12) (hR : tR (aT A) < 8) : chA A 0 (nI a) 0 = (.inr (nI (tR (aT A))), pushA A (op0 (aT A) a)) := by
  unfold chA
  rw [show rs (aT A) 0 (nI a) 0 = rs0 (aT A) (nI a) from rfl]
  unfold rs0
  rw [nbp_of (by decide) h1 h2]
  dsimp only
  rw [if_pos hR]
  rfl
/-- the law's body, from the empty census on -/
theorem law_true (h : CK s ab0) (W : WA 0 ab0) (hb : Cb s) (h1 : nC s = 119) (h2 : nS s = 1807) : m_L_law cl s = some (.inl 1, sgE) := by
  have key : okR (m_L_law cl s) lQ := by
    unfold m_L_law
    refine lp_i (fun k (a : Int32 × Mem) => a.1 = nI k ∧ ∃ A1, CK a.2 A1 ∧ WA k A1 ∧ tR (aT A1) = k ∧ Ku k s a.2) 3 ⟨rfl, ab0, h, W, rfl, Ku.refl⟩ (by decide) (fun k a kf hk hI hkf => ?_)
    obtain ⟨w2, σ⟩ := a
    obtain ⟨e0, A0, c0, W0, r0, u0⟩ := hI
    dsimp only at e0 c0 W0 r0 u0 ⊢
    subst e0
    unfold m_L_law_b10
    by_cases q : k = 3
    · subst q
      rw [if_pos (show (3 : Int32) ≤ nI 3 by decide +kernel)]
      obtain ⟨v3, s3, A3, e3, c3, a3, u3⟩ := ac_addPhantoms c0 W0 (by omega) (p := 0) (q := 3)
      rw [e3, bN_l]
      exact lt_adds ⟨A3, c3, a3.1, Nat.le_trans (by omega) a3.rows, u0.trans u3⟩ (by omega) (by omega) hb h1 h2
    · rw [if_neg (show ¬ (3 : Int32) ≤ nI k from nI_ge (b := 3) (show k < 3 by omega) (by decide)), if_pos (show (0 : Int32) ≤ 0 by decide)]
      obtain ⟨m, hm, em⟩ := chosen_val (s := σ) (p := cl 0 >>> (3 * nI k &&& 31)) (d := 5) (by decide) (by decide)
      rw [show m_L_chosen (cl 0 >>> (3 * nI k &&& 31)) 5 σ = _ from em, bP_some, show (1 : Int32) + nI m = nI (1 + m) from nI_add 1 m]
      obtain ⟨s3, e3, c3, u3⟩ := y_addRow c0 W0 (by omega) (p := nI (1 + m))
      have W3 := W0.chA (kind := 0) (by decide) (p := nI (1 + m)) (q := 0)
      have ec := ch_row (A := A0) (a := 1 + m) (by omega) (by omega) (by omega)
      rw [ec] at e3 c3 W3
      rw [e3, bN_l, vl_i, nI_1]
      exact hkf _ (by omega) ⟨rfl, _, c3, W3, by show tR (aT A0) + 1 = k + 1; rw [r0], u0.trans u3⟩
  obtain ⟨o, s', e, rfl, rfl⟩ := key
  exact e
end
