/-! ===== the tree filled, and asked; the tables of heirs ===== -/
section
variable {t : Nat} {s : Mem} {T : Th}
theorem cnt_out (w : Sz T) {r : Nat} (hr : tR T ≤ r) : cnt T r = 0 := sm_zero fun k hk => if_neg (by have := (w.2.2.2.1 k hk).2.1; omega)
theorem c_treeFill (h : RC t s T) (w : Sz T) (ht : isTh t) : okR (m_X1_fillFrom t s) (fun o s' => o = .inl () ∧ FW (cnt T) 8 s' ∧ Ow 3 s s') := by
  have hR := w.1
  have ht1 := ht.1
  have ht2 := ht.2
  refine lp_i (fun k a => a.1 = nI k ∧ (∀ node, node < k → gI a.2 67 node = nI 0) ∧ Ow 3 s a.2) 9 ⟨rfl, fun _ q => absurd q (Nat.not_lt_zero _), Ow.refl⟩ (by omega) fun k a kf hk hI hkf => ?_
  obtain ⟨w2, s1⟩ := a
  obtain ⟨e1, h1, h2⟩ := hI
  dsimp only at e1 h1 h2
  subst e1
  simp (disch := omega) only [m_X1_fillFrom_b2, ltI, nL, nIb, nN]
  by_cases q : k < 9
  · rw [if_neg (by omega), if_pos q, okR_vl, okR_vl]
    refine hkf _ q ⟨nI_add _ _, fun node hn => ?_, h2.pI (by decide)⟩
    dsimp only
    by_cases z : node = k
    · subst z; exact gI_s
    · rw [gI_k z]; exact h1 node (by omega)
  · have e : k = 9 := by omega
    subst e
    rw [if_pos (by omega)]
    refine lp_i (fun k a => a.1 = nI k ∧ FW (cnt T) k a.2 ∧ Ow 3 s a.2) (tR T) ⟨rfl, fun node hn => ?_, h2⟩ (by omega) fun k a kf hk hI hkf => ?_
    · rw [h1 node hn]; rfl
    · obtain ⟨w2, s2⟩ := a
      obtain ⟨e1, h3, h4⟩ := hI
      dsimp only at e1 h3 h4
      subst e1
      have hT := h.ow h4 (by omega)
      simp (disch := omega) only [m_X1_fillFrom_b23, hT.hR, nLe]
      by_cases q : k < tR T
      · rw [if_neg (by omega), c_echoesIn hT w (by omega), bP_some, okR_bindR]
        refine okR_mono (c_count h3 (by omega)) fun o s3 hq => ?_
        obtain ⟨rfl, h5, h6⟩ := hq
        rw [thn_l, okR_vl]
        exact hkf _ q ⟨nI_add _ _, h5, h4.trans h6⟩
      · have e : k = tR T := by omega
        rw [if_pos (by omega), okR_some]
        refine ⟨rfl, fun node hn => ?_, h4⟩
        rw [h3 node hn]
        congr 1
        have : ∀ n, tR T ≤ n → fsm (cnt T) n node = fsm (cnt T) (tR T) node := by
          intro n hn
          induction n with
          | zero => have : tR T = 0 := by omega
                    rw [this]
          | succ n ih =>
            by_cases z : tR T ≤ n
            · show sm _ (n + 1) = _
              rw [sm, cnt_out w z]
              simp only [ite_self, Nat.add_zero]
              exact ih z
            · have : tR T = n + 1 := by omega
              rw [this]
        rw [e, this 8 hR]
/-- sums of the first rows, told one by one -/
theorem sm8 (f : Nat → Nat) : sm f 0 = 0 ∧ sm f 1 = f 0 ∧ sm f 2 = f 0 + f 1 ∧ sm f 3 = f 0 + f 1 + f 2 ∧ sm f 4 = f 0 + f 1 + f 2 + f 3 ∧ sm f 5 = f 0 + f 1 + f 2 + f 3 + f 4 ∧ sm f 6 = f 0 + f 1 + f 2 + f 3 + f 4 + f 5 ∧ sm f 7 = f 0 + f 1 + f 2 + f 3 + f 4 + f 5 + f 6 ∧ sm f 8 = f 0 + f 1 + f 2 + f 3 + f 4 + f 5 + f 6 + f 7 := by
  simp only [sm, Nat.zero_add, and_self]
theorem fw8 {f : Nat → Nat} {s : Mem} (h : FW f 8 s) : gI s 67 1 = nI (f 0) ∧ gI s 67 2 = nI (f 0 + f 1) ∧ gI s 67 3 = nI (f 2) ∧ gI s 67 4 = nI (f 0 + f 1 + f 2 + f 3) ∧ gI s 67 5 = nI (f 4) ∧ gI s 67 6 = nI (f 4 + f 5) ∧ gI s 67 7 = nI (f 6) ∧ gI s 67 8 = nI (f 0 + f 1 + f 2 + f 3 + f 4 + f 5 + f 6 + f 7) := by
  rw [h 1 (by omega), h 2 (by omega), h 3 (by omega), h 4 (by omega), h 5 (by omega), h 6 (by omega), h 7 (by omega), h 8 (by omega)]
  simp [fsm, sm, inr]
theorem c_sumOfFirst {f : Nat → Nat} (h : FW f 8 s) {n : Nat} (hn : n ≤ 8) : m_X1_sumOfFirst (nI n) s = some (nI (sm f n)) := by
  obtain ⟨a1, a2, a3, a4, a5, a6, a7, a8⟩ := fw8 h
  obtain ⟨b0, b1, b2, b3, b4, b5, b6, b7, b8⟩ := sm8 f
  unfold m_X1_sumOfFirst
  rw [lpO_F]
  rcases (show n = 0 ∨ n = 1 ∨ n = 2 ∨ n = 3 ∨ n = 4 ∨ n = 5 ∨ n = 6 ∨ n = 7 ∨ n = 8 by omega) with rfl | rfl | rfl | rfl | rfl | rfl | rfl | rfl | rfl
  all_goals
    simp (disch := omega) only [m_X1_sumOfFirst_b4, lpO_s, ltI, nLe, nIb, nN, ↓reduceIte, ↓vl_i, lc1, lc2, lc3, lc4, lc5, lc6, lc7, lc8, Nat.zero_add, Nat.reduceAdd, Nat.reduceLT, Nat.reduceLeDiff, Nat.le_refl, a1, a2, a3, a4, a5, a6, a7, a8, nI_add, b0, b1, b2, b3, b4, b5, b6, b7, b8]
  all_goals try (congr 2; omega)
theorem c_sumBetween {f : Nat → Nat} (h : FW f 8 s) {a b : Nat} (ha : a ≤ b) (hb : b < 8) : m_X1_sumBetween (nI a) (nI b) s = some (nI (sm f (b + 1) - sm f a)) := by
  unfold m_X1_sumBetween
  rw [ltI, nI_add, c_sumOfFirst h (by omega), bO_some, c_sumOfFirst h (by omega), bO_some, nS' (sm_mono (by omega))]
theorem sm_btw (T : Th) {a b : Nat} (h : a ≤ b) : sm (cnt T) b - sm (cnt T) a = btw T a b := by
  have : ∀ n, sm (cnt T) (a + n) = sm (cnt T) a + sm (fun i => cnt T (a + i)) n := by
    intro n
    induction n with
    | zero => rfl
    | succ n ih => show sm (cnt T) (a + n + 1) = _; rw [sm, ih, sm]; omega
  have h1 := this (b - a)
  rw [show a + (b - a) = b by omega] at h1
  unfold btw
  omega
theorem c_rowWithRank {f : Nat → Nat} (h : FW f 8 s) {p : Nat} (hp : p < sm f 8) (hb : sm f 8 < 1000) : ∃ r, r < 8 ∧ sm f r ≤ p ∧ p < sm f (r + 1) ∧ m_X1_rowWithRank (nI p) s = some (nI r) := by
  obtain ⟨a1, a2, a3, a4, a5, a6, a7, a8⟩ := fw8 h
  obtain ⟨b0, b1, b2, b3, b4, b5, b6, b7, b8⟩ := sm8 f
  have key : ∀ v : Option Int32, m_X1_rowWithRank (nI p) s = v → ∃ r, r < 8 ∧ sm f r ≤ p ∧ p < sm f (r + 1) ∧ v = some (nI r) := by
    intro v
    unfold m_X1_rowWithRank
    rw [lpO_F]
    have d1 : nI 8 / nI 2 = nI 4 := by decide
    have d2 : nI 4 / nI 2 = nI 2 := by decide
    have d3 : nI 2 / nI 2 = nI 1 := by decide
    have d4 : nI 1 / nI 2 = nI 0 := by decide
    rw [b8] at hp hb
    have c1 : p < f 0 + f 1 + f 2 + f 3 ∨ f 0 + f 1 + f 2 + f 3 ≤ p := by omega
    rcases c1 with c1 | c1
    · have c2 : p < f 0 + f 1 ∨ f 0 + f 1 ≤ p := by omega
      rcases c2 with c2 | c2
      · have c3 : p < f 0 ∨ f 0 ≤ p := by omega
        rcases c3 with c3 | c3
        · simp (disch := omega) only [m_X1_rowWithRank_b8, lpO_s, ltI, nLe, nL, nIb, nN, ↓reduceIte, ↓vl_i, d1, d2, d3, d4, Nat.zero_add, Nat.reduceAdd, Nat.reduceLT, Nat.reduceLeDiff, Nat.le_refl, a1, a2, a3, a4, a5, a6, a7, a8, nI_add, hp, c1, c2, c3]
          rintro rfl
          exact ⟨0, by omega, by omega, (by show p < sm f 1; omega), rfl⟩
        · simp (disch := omega) only [m_X1_rowWithRank_b8, lpO_s, ltI, nLe, nL, nIb, nN, ↓reduceIte, ↓vl_i, d1, d2, d3, d4, Nat.zero_add, Nat.reduceAdd, Nat.reduceLT, Nat.reduceLeDiff, Nat.le_refl, a1, a2, a3, a4, a5, a6, a7, a8, nI_add, hp, c1, c2, Nat.not_lt.mpr c3, nS']
          rintro rfl
          exact ⟨1, by omega, by omega, (by show p < sm f 2; omega), rfl⟩
      · have c3 : p - (f 0 + f 1) < f 2 ∨ f 2 ≤ p - (f 0 + f 1) := by omega
        rcases c3 with c3 | c3
        · simp (disch := omega) only [m_X1_rowWithRank_b8, lpO_s, ltI, nLe, nL, nIb, nN, ↓reduceIte, ↓vl_i, d1, d2, d3, d4, Nat.zero_add, Nat.reduceAdd, Nat.reduceLT, Nat.reduceLeDiff, Nat.le_refl, a1, a2, a3, a4, a5, a6, a7, a8, nI_add, hp, c1, Nat.not_lt.mpr c2, c3, nS']
          rintro rfl
          exact ⟨2, by omega, by omega, (by show p < sm f 3; omega), rfl⟩
        · simp (disch := omega) only [m_X1_rowWithRank_b8, lpO_s, ltI, nLe, nL, nIb, nN, ↓reduceIte, ↓vl_i, d1, d2, d3, d4, Nat.zero_add, Nat.reduceAdd, Nat.reduceLT, Nat.reduceLeDiff, Nat.le_refl, a1, a2, a3, a4, a5, a6, a7, a8, nI_add, hp, c1, Nat.not_lt.mpr c2, Nat.not_lt.mpr c3, nS']
          rintro rfl
          exact ⟨3, by omega, by omega, (by show p < sm f 4; omega), rfl⟩
    · have c2 : p - (f 0 + f 1 + f 2 + f 3) < f 4 + f 5 ∨ f 4 + f 5 ≤ p - (f 0 + f 1 + f 2 + f 3) := by omega
      rcases c2 with c2 | c2
      · have c3 : p - (f 0 + f 1 + f 2 + f 3) < f 4 ∨ f 4 ≤ p - (f 0 + f 1 + f 2 + f 3) := by omega
        rcases c3 with c3 | c3
        · simp (disch := omega) only [m_X1_rowWithRank_b8, lpO_s, ltI, nLe, nL, nIb, nN, ↓reduceIte, ↓vl_i, d1, d2, d3, d4, Nat.zero_add, Nat.reduceAdd, Nat.reduceLT, Nat.reduceLeDiff, Nat.le_refl, a1, a2, a3, a4, a5, a6, a7, a8, nI_add, hp, Nat.not_lt.mpr c1, c2, c3, nS']
          rintro rfl
          exact ⟨4, by omega, by omega, (by show p < sm f 5; omega), rfl⟩
        · simp (disch := omega) only [m_X1_rowWithRank_b8, lpO_s, ltI, nLe, nL, nIb, nN, ↓reduceIte, ↓vl_i, d1, d2, d3, d4, Nat.zero_add, Nat.reduceAdd, Nat.reduceLT, Nat.reduceLeDiff, Nat.le_refl, a1, a2, a3, a4, a5, a6, a7, a8, nI_add, hp, Nat.not_lt.mpr c1, c2, Nat.not_lt.mpr c3, nS']
          rintro rfl
          exact ⟨5, by omega, by omega, (by show p < sm f 6; omega), rfl⟩
      · have c3 : p - (f 0 + f 1 + f 2 + f 3) - (f 4 + f 5) < f 6 ∨ f 6 ≤ p - (f 0 + f 1 + f 2 + f 3) - (f 4 + f 5) := by omega
        rcases c3 with c3 | c3
        · simp (disch := omega) only [m_X1_rowWithRank_b8, lpO_s, ltI, nLe, nL, nIb, nN, ↓reduceIte, ↓vl_i, d1, d2, d3, d4, Nat.zero_add, Nat.reduceAdd, Nat.reduceLT, Nat.reduceLeDiff, Nat.le_refl, a1, a2, a3, a4, a5, a6, a7, a8, nI_add, hp, Nat.not_lt.mpr c1, Nat.not_lt.mpr c2, c3, nS']
          rintro rfl
          exact ⟨6, by omega, by omega, (by show p < sm f 7; omega), rfl⟩
        · simp (disch := omega) only [m_X1_rowWithRank_b8, lpO_s, ltI, nLe, nL, nIb, nN, ↓reduceIte, ↓vl_i, d1, d2, d3, d4, Nat.zero_add, Nat.reduceAdd, Nat.reduceLT, Nat.reduceLeDiff, Nat.le_refl, a1, a2, a3, a4, a5, a6, a7, a8, nI_add, hp, Nat.not_lt.mpr c1, Nat.not_lt.mpr c2, Nat.not_lt.mpr c3, nS']
          rintro rfl
          exact ⟨7, by omega, by omega, (by show p < sm f 8; omega), rfl⟩
  exact key _ rfl
theorem c_idRankedByTree (h : RC t s T) (w : Sz T) (hf : FW (cnt T) 8 s) {p : Nat} (hp : p < tN T) : ∃ k, k < tN T ∧ rks T p = some k ∧ m_X7_idRankedByTree t (nI p) s = some (nI (tI T k)) := by
  have hN := w.2.1
  have h8 : sm (cnt T) 8 = tN T := by
    rw [← cnt_all (T := T) (fun k hk => (w.2.2.2.1 k hk).2.1)]
    have : ∀ n, tR T ≤ n → sm (cnt T) n = sm (cnt T) (tR T) := by
      intro n hn
      induction n with
      | zero => have : tR T = 0 := by omega
                rw [this]
      | succ n ih =>
        by_cases z : tR T ≤ n
        · rw [sm, cnt_out w z, ih z]; rfl
        · have : tR T = n + 1 := by omega
          rw [this]
    exact this 8 w.1
  obtain ⟨r, hr, h1, h2, h3⟩ := c_rowWithRank hf (p := p) (by omega) (by omega)
  obtain ⟨k, hk, h4, h5⟩ := satp_rks w h1 h2
  refine ⟨k, hk, h4, ?_⟩
  unfold m_X7_idRankedByTree
  rw [h3, bO_some, c_sumOfFirst hf (by omega), bO_some, nS' h1, c_idAt h w (by omega), h5, bO_some]
end
