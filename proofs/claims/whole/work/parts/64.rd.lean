/-! ===== the reference: removal, spreading; a change carried out ===== -/
theorem bst_none {P : Nat → Bool} {f : Nat → Nat} : ∀ {n : Nat}, bst P f n = none → ∀ k, k < n → P k = false
  | 0, _, k, hk => absurd hk (Nat.not_lt_zero _)
  | n + 1, h, k, hk => by
    rw [bst] at h
    cases e : bst P f n with
    | none =>
      rw [e] at h
      cases q : P n with
      | true => simp [q] at h
      | false =>
        by_cases z : k = n
        · subst z; exact q
        · exact bst_none e k (by omega)
    | some b =>
      rw [e] at h
      by_cases q : P n = true ∧ f b < f n
      · simp [q] at h
      · simp only [q, if_false] at h; cases h
theorem ldst_ex {T : Th} {r : Nat} (h : 0 < cnt T r) : ∃ k, ldst T r = some k := by
  cases e : ldst T r with
  | some k => exact ⟨k, rfl⟩
  | none =>
    exfalso
    have h1 := bst_none (P := fun k => decide (tW T k = r)) e
    have : cnt T r = 0 := sm_zero fun k hk => if_neg (by simpa using h1 k hk)
    omega
section
variable {s : Mem} {T : Th} {n : Nat}
theorem r_inherits (h : RF 136 0 s T) (w : Sz T) {k j : Nat} (hk : k < tN T) (hj : hs T k = some j) : okR (m_X8_inherits (nI j) (nI (tU T k)) s) (fun o s' => o = .inl (nI (lost T k)) ∧ RF 136 0 s' (T.1, tC T, tP T, tK T, tB T, tI T, tW T, bqU T k, tH T) ∧ F6 s s') := by
  have w8 := w.1
  have hN := w.2.1
  have hjN := (hs_lt hj).1
  have h1 := (w.2.2.2.1 k hk).2.2.2.1
  have h2 := (w.2.2.2.1 j hjN).2.2.2.1
  unfold m_X8_inherits m_X8_inherits_j26 lost bqU
  rw [hj, show (2 : Int32) = nI 2 from rfl, r_U h w hjN, bP_some, okR_vl, nI_add, show (999 : Int32) = nI 999 from rfl]
  simp (disch := omega) only [nLe]
  by_cases q : tU T j + tU T k ≤ 999
  · rw [if_pos q, r_sets (by omega) (by decide), bR_l]
    simp only [q, if_true]
    rw [okR_some, Nat.min_eq_left q, Nat.sub_self]
    exact ⟨rfl, h.wU w8 hjN, F6.refl.p⟩
  · rw [if_neg q, r_sets (by omega) (by decide), bR_l]
    simp only [q, if_false]
    rw [okR_some, Nat.min_eq_right (by omega), nS' (by omega)]
    exact ⟨rfl, h.wU w8 hjN, F6.refl.p⟩
/-- the tail of a removal: the echoes behind move up -/
theorem r_shift {T2 : Th} (h : RF 136 0 s T2) (w : Sz T2) {k0 v : Nat} (hk : k0 < tN T2) : okR (lp (fun kf117 (a : Int32 × Mem) => m_X8_removes_b117 (nI v) (nI (39 + 4 * (tN T2 - 1))) a.2 kf117 a.1) FUEL (nI (39 + 4 * k0), pI s 136 1 (nI (tN T2 - 1)))) (rch s (nI v) ((tR T2, tN T2 - 1, tX T2, tM T2, tV T2 + 1, tA T2, tL T2 + v), tC T2, tP T2, tK T2, tB T2, del k0 (tI T2), del k0 (tW T2), del k0 (tU T2), del k0 (tH T2))) := by
  have w8 := w.1
  have hN := w.2.1
  obtain ⟨N, eN⟩ : ∃ N, N = tN T2 := ⟨_, rfl⟩
  rw [← eN] at hk hN ⊢
  obtain ⟨u, eu⟩ : ∃ u, u = pI s 136 1 (nI (N - 1)) := ⟨_, rfl⟩
  rw [← eu]
  have fu : F6 s u := by rw [eu]; exact F6.refl.p
  have gu : ∀ q, gI u 136 q = if q = 1 then nI (N - 1) else gI s 136 q := fun q => by
    rw [eu]
    by_cases z : q = 1
    · subst z; rw [if_pos rfl, gI_s]
    · rw [if_neg z, gI_k z]
  refine lp_i (fun m a => a.1 = nI (39 + 4 * k0 + m) ∧ F6 s a.2 ∧ ∀ q, gI a.2 136 q = if 39 + 4 * k0 ≤ q ∧ q < 39 + 4 * k0 + m then gI u 136 (q + 4) else gI u 136 q) (4 * (N - 1 - k0)) ⟨rfl, fu, fun q => (if_neg (by omega)).symm⟩ (by omega) fun m a kf hm hI hkf => ?_
  obtain ⟨w6, s1⟩ := a
  obtain ⟨e1, f1, h1⟩ := hI
  dsimp only at e1 f1 h1
  subst e1
  unfold m_X8_removes_b117
  dsimp only
  by_cases q : m < 4 * (N - 1 - k0)
  · rw [if_neg (show ¬ nI (39 + 4 * (N - 1)) ≤ nI (39 + 4 * k0 + m) by rw [nLe (by omega) (by omega)]; omega), show (4 : Int32) = nI 4 from rfl, nI_add, if_pos (show ib (nI (39 + 4 * k0 + m + 4)) 135 by rw [nIb (by omega)]; omega), if_pos (show ib (nI (39 + 4 * k0 + m)) 135 by rw [nIb (by omega)]; omega), okR_vl, okR_vl, nI_1, nN (by omega), nN (by omega)]
    refine hkf _ q ⟨rfl, f1.p, fun i => ?_⟩
    dsimp only
    by_cases z : i = 39 + 4 * k0 + m
    · subst z
      rw [gI_s, if_pos (by omega), h1, if_neg (by omega)]
    · rw [gI_k z, h1]
      by_cases y : 39 + 4 * k0 ≤ i ∧ i < 39 + 4 * k0 + m
      · rw [if_pos y, if_pos (by omega)]
      · rw [if_neg y, if_neg (by omega)]
  · have e : m = 4 * (N - 1 - k0) := by omega
    subst e
    have eb : 39 + 4 * k0 + 4 * (N - 1 - k0) = 39 + 4 * (N - 1) := by omega
    rw [eb] at h1
    rw [if_pos (show nI (39 + 4 * (N - 1)) ≤ nI (39 + 4 * k0 + 4 * (N - 1 - k0)) by rw [nLe (by omega) (by omega)]; omega)]
    have hfin : ∀ u3 : Mem, F6 s u3 → (∀ q, q < 39 + 4 * (N - 1) → gI u3 136 q = gI s1 136 q) → RF 136 0 u3 ((tR T2, N - 1, T2.1.2.2), tC T2, tP T2, tK T2, tB T2, del k0 (tI T2), del k0 (tW T2), del k0 (tU T2), del k0 (tH T2)) := by
      intro u3 f3 h3
      have h4 : ∀ q, q < 39 + 4 * k0 → gI u3 136 q = if q = 1 then nI (N - 1) else gI s 136 q := fun q hq => by
        rw [h3 q (by omega), h1, if_neg (by omega), gu]
      have h5 : ∀ q, 39 + 4 * k0 ≤ q → q < 39 + 4 * (N - 1) → gI u3 136 q = gI s 136 (q + 4) := fun q h6 h7 => by
        rw [h3 q h7, h1, if_pos (by omega), gu, if_neg (by omega)]
      obtain ⟨⟨a1, a2, a3, a4, a5, a6, a7⟩, b, c, d⟩ := h
      refine ⟨⟨?_, ?_, ?_, ?_, ?_, ?_, ?_⟩, fun i hi => ?_, fun r hr => ?_, fun k hk' => ?_⟩
      · rw [h4 _ (by omega), if_neg (by decide)]; exact a1
      · rw [h4 _ (by omega), if_pos rfl]; rfl
      · rw [h4 _ (by omega), if_neg (by decide)]; exact a3
      · rw [h4 _ (by omega), if_neg (by decide)]; exact a4
      · rw [h4 _ (by omega), if_neg (by decide)]; exact a5
      · rw [h4 _ (by omega), if_neg (by decide)]; exact a6
      · rw [h4 _ (by omega), if_neg (by decide)]; exact a7
      · rw [h4 _ (by omega), if_neg (by omega)]; exact b i hi
      · have hr : r < tR T2 := hr
        rw [h4 _ (by omega), if_neg (by omega), h4 _ (by omega), if_neg (by omega), h4 _ (by omega), if_neg (by omega)]
        exact c r hr
      · have hk' : k < N - 1 := hk'
        show _ = nI (del k0 (tI T2) k) ∧ _ = nI (del k0 (tW T2) k) ∧ _ = nI (del k0 (tU T2) k) ∧ _ = e1 (del k0 (tH T2) k)
        by_cases z : k < k0
        · rw [del_lo z, del_lo z, del_lo z, del_lo z]
          rw [h4 _ (by omega), if_neg (by omega), h4 _ (by omega), if_neg (by omega), h4 _ (by omega), if_neg (by omega), h4 _ (by omega), if_neg (by omega)]
          exact d k (by omega)
        · rw [del_hi z, del_hi z, del_hi z, del_hi z]
          rw [h5 _ (by omega) (by omega), h5 _ (by omega) (by omega), h5 _ (by omega) (by omega), h5 _ (by omega) (by omega)]
          have := d (k + 1) (by omega)
          rw [show 0 + 39 + 4 * k + 4 = 0 + 39 + 4 * (k + 1) by omega, show 0 + 40 + 4 * k + 4 = 0 + 40 + 4 * (k + 1) by omega, show 0 + 41 + 4 * k + 4 = 0 + 41 + 4 * (k + 1) by omega, show 0 + 42 + 4 * k + 4 = 0 + 42 + 4 * (k + 1) by omega]
          exact this
    refine lp_i (fun m a => a.1 = nI m ∧ F6 s a.2 ∧ ∀ q, q < 39 + 4 * (N - 1) → gI a.2 136 q = gI s1 136 q) 4 ⟨rfl, f1, fun q _ => rfl⟩ (by omega) fun m a kf2 hm2 hI hkf2 => ?_
    obtain ⟨w6, s2⟩ := a
    obtain ⟨e2, f2, h2⟩ := hI
    dsimp only at e2 f2 h2
    subst e2
    unfold m_X8_removes_b149
    dsimp only
    by_cases q2 : m < 4
    · rw [if_neg (show ¬ (4 : Int32) ≤ nI m by rw [show (4 : Int32) = nI 4 from rfl, nLe (by omega) (by omega)]; omega), nI_add, if_pos (show ib (nI (39 + 4 * (N - 1) + m)) 135 by rw [nIb (by omega)]; omega), okR_vl, okR_vl, nI_1, nN (by omega)]
      exact hkf2 _ q2 ⟨rfl, f2.p, fun i hi => (gI_k (by omega)).trans (h2 i hi)⟩
    · have e : m = 4 := by omega
      subst e
      have r3 := hfin s2 f2 h2
      have r4 := r3.wL w8 (v := tL T2 + v)
      have g3 : gI s2 136 (6 : Int32).toNatClampNeg = nI (tL T2) := r3.rL
      rw [if_pos (show (4 : Int32) ≤ nI 4 by decide), if_pos (show ib (6 : Int32) 135 by decide), if_pos (show ib (6 : Int32) 135 by decide), okR_vl, g3, nI_add, show (6 : Int32).toNatClampNeg = 6 from rfl]
      have g4 : gI (pI s2 136 6 (nI (tL T2 + v))) 136 (4 : Int32).toNatClampNeg = nI (tV T2) := r4.rV
      rw [if_pos (show ib (4 : Int32) 135 by decide), if_pos (show ib (4 : Int32) 135 by decide), okR_vl, okR_some, g4, nI_1, show (4 : Int32).toNatClampNeg = 4 from rfl]
      exact ⟨rfl, r4.wV w8, (f2.p).p⟩
theorem r_rem48 {s0 : Mem} (W : WT n T) (w : Sz T) {k0 : Nat} (hk : k0 < tN T) (h : RF 136 0 s (T.1, tC T, tP T, tK T, tB T, tI T, tW T, bqU T k0, tH T)) (f : F6 s0 s) : okR (lp (fun kf48 (a : Int32 × Mem) => m_X8_removes_b48 (nI (tI T k0)) (nI k0) (e1 (tH T k0)) (nI (lost T k0)) a.2 kf48 a.1) FUEL (0, s)) (rch s0 (nI (lost T k0)) (op5 T k0)) := by
  have w8 := w.1
  have hN := w.2.1
  have hX := w.2.2.1.1
  have wq : Sz (T.1, tC T, tP T, tK T, tB T, tI T, tW T, bqU T k0, tH T) := by
    refine ⟨w.1, w.2.1, w.2.2.1, fun k hk' => ?_, w.2.2.2.2⟩
    obtain ⟨a1, a2, _, _, a5⟩ := w.2.2.2.1 k hk'
    have := bqU_rng W hk (k := k) hk'
    exact ⟨a1, a2, this.1, this.2, a5⟩
  refine lp_i (fun j a => a.1 = nI j ∧ RF 136 0 a.2 (T.1, tC T, tP T, tK T, tB T, tI T, tW T, bqU T k0, fun i => if i < j then bqH T k0 i else tH T i) ∧ F6 s0 a.2) (tN T) ⟨rfl, h.eqE (fun k _ => ⟨rfl, rfl, rfl, if_neg (Nat.not_lt_zero _)⟩), f⟩ (by omega) fun j a kf hj hI hkf => ?_
  obtain ⟨w5, s1⟩ := a
  obtain ⟨e1', h1, f1⟩ := hI
  dsimp only at e1' h1 f1
  subst e1'
  have g : gI s1 136 (1 : Int32).toNatClampNeg = nI (tN T) := h1.rN
  unfold m_X8_removes_b48
  dsimp only
  rw [if_pos (show ib (1 : Int32) 135 by decide), g]
  by_cases q : j < tN T
  · have hx := (w.2.2.2.1 k0 hk).1
    have hc : m_X8_is (nI j) 3 s1 = some (e1 (tH T j)) := by
      rw [show (3 : Int32) = nI 3 from rfl, r_is (by omega) (by decide), h1.rH q]
      show some (e1 (if j < j then bqH T k0 j else tH T j)) = _
      rw [if_neg (Nat.lt_irrefl _)]
    rw [if_neg (show ¬ nI (tN T) ≤ nI j by rw [nLe (by omega) (by omega)]; omega), hc, bP_some, nI_1]
    have hcond : (e1 (tH T j) = nI (tI T k0 + 1)) ↔ tH T j = some (tI T k0) := by
      cases e : tH T j with
      | none => exact ⟨fun z => by rw [show e1 none = nI 0 from rfl, nE (by omega) (by omega)] at z; omega, fun z => by cases z⟩
      | some d =>
        have hd := (w.2.2.2.1 j q).2.2.2.2 d e
        rw [show e1 (some d) = nI (d + 1) from rfl, nE (by omega) (by omega)]
        exact ⟨fun z => by rw [show d = tI T k0 by omega], fun z => by cases z; rfl⟩
    by_cases z : tH T j = some (tI T k0)
    · rw [if_neg (fun y => y (hcond.mpr z)), show (3 : Int32) = nI 3 from rfl, r_sets (by omega) (by decide), bR_l, okR_vl, nI_1]
      refine hkf _ q ⟨rfl, ?_, f1.p⟩
      have h2 := h1.wH w8 (k := j) (v := tH T k0) q
      refine h2.eqE (fun i hi => ⟨rfl, rfl, rfl, ?_⟩)
      show (if i < j + 1 then bqH T k0 i else tH T i) = uf (fun i => if i < j then bqH T k0 i else tH T i) j (tH T k0) i
      by_cases y : i = j
      · subst y
        rw [uf_s, if_pos (Nat.lt_succ_self _)]
        exact if_pos z
      · rw [uf_k y]
        by_cases v : i < j
        · rw [if_pos v, if_pos (by omega)]
        · rw [if_neg v, if_neg (by omega)]
    · rw [if_pos (fun y => z (hcond.mp y)), okR_vl, nI_1]
      refine hkf _ q ⟨rfl, ?_, f1⟩
      refine h1.eqE (fun i hi => ⟨rfl, rfl, rfl, ?_⟩)
      show (if i < j + 1 then bqH T k0 i else tH T i) = if i < j then bqH T k0 i else tH T i
      by_cases y : i = j
      · subst y
        rw [if_pos (Nat.lt_succ_self _), if_neg (Nat.lt_irrefl _)]
        exact if_neg z
      · by_cases v : i < j
        · rw [if_pos v, if_pos (by omega)]
        · rw [if_neg v, if_neg (by omega)]
  · have e : j = tN T := by omega
    subst e
    have h2 : RF 136 0 s1 (T.1, tC T, tP T, tK T, tB T, tI T, tW T, bqU T k0, bqH T k0) := h1.eqE (fun i hi => ⟨rfl, rfl, rfl, (if_pos hi).symm⟩)
    have w2 : Sz (T.1, tC T, tP T, tK T, tB T, tI T, tW T, bqU T k0, bqH T k0) := by
      refine ⟨w.1, w.2.1, w.2.2.1, fun k hk' => ?_, w.2.2.2.2⟩
      obtain ⟨a1, a2, a3, a4, a5⟩ := wq.2.2.2.1 k hk'
      refine ⟨a1, a2, a3, a4, fun d hd => ?_⟩
      rcases bqH_old (T := T) hd with ⟨z, _⟩ | ⟨_, z⟩
      · exact (w.2.2.2.1 k hk').2.2.2.2 d z
      · exact (w.2.2.2.1 k0 hk).2.2.2.2 d z
    rw [if_pos (show nI (tN T) ≤ nI (tN T) by rw [nLe (by omega) (by omega)]; exact Nat.le_refl _), if_pos (show ib (1 : Int32) 135 by decide), if_pos (show ib (1 : Int32) 135 by decide), okR_vl, show (1 : Int32) = nI 1 from rfl, nS' (by omega), if_pos (show ib (nI 1) 135 by decide), okR_vl, okR_vl, nN (show 1 < 2 ^ 31 by decide), gI_s, show (39 : Int32) = nI 39 from rfl, show (4 : Int32) = nI 4 from rfl, nM, nM, nI_add, nI_add]
    refine okR_mono (r_shift h2 w2 hk (v := lost T k0)) fun o s' z => ?_
    exact ⟨z.1, z.2.1, f1.trans z.2.2⟩
theorem r_removes (h : RF 136 0 s T) (w : Sz T) (W : WT n T) {k : Nat} (hk : k < tN T) : okR (m_X8_removes (nI (tI T k)) s) (rch s (nI (lost T k)) (op5 T k)) := by
  have hN := w.2.1
  have hp : sltp T (nI (tI T k)) = some k := by
    have := (w.2.2.2.1 k hk).1
    have hX := w.2.2.1.1
    rw [slt_of w (by omega)]
    exact W.sltE hk
  unfold m_X8_removes
  rw [r_slotOf h w, hp, bP_some, show eo (some k) = nI k from rfl, show (3 : Int32) = nI 3 from rfl, show (2 : Int32) = nI 2 from rfl, r_U h w hk]
  rcases r_next h w W hk with ⟨a1, a2, a3⟩ | ⟨d, j, a1, a2, a3, a4, _, a5, a6⟩
  · rw [a3, bP_some, if_neg (show ¬ ¬ nI 0 = 0 by decide), bP_some]
    have el : lost T k = tU T k := by unfold lost; rw [a2]
    have eb : bqU T k = tU T := by unfold bqU; rw [a2]
    have := r_rem48 W w hk (s0 := s) (s := s) (by rw [eb]; exact h) F6.refl
    rw [a1, el, ← el] at this
    rw [← el]
    exact this
  · rw [a5, bP_some, if_pos (show ¬ nI (d + 1) = 0 from nI_ne0 (by omega) (by omega)), a6, bP_some, bP_some, okR_bindR]
    refine okR_mono (r_inherits h w hk a2) fun o s1 q => ?_
    obtain ⟨rfl, q1, q2⟩ := q
    rw [thn_l]
    have := r_rem48 W w hk q1 q2
    rw [a1] at this
    exact this
theorem r_spreads (h : RF 136 0 s T) (W : WT n T) (hn : n < 10000) {r : Nat} (hr : r < tR T) : okR (m_X8_spreads (nI r) s) (rch s (nI (spn T r 24).1) (spn T r 24).2) := by
  have hR8 := W.1
  refine lp_i (fun m a => a.1 = nI (spn T r m).1 ∧ RF 136 0 a.2 (spn T r m).2 ∧ F6 s a.2) 24 ⟨rfl, h, F6.refl⟩ (by omega) fun m a kf hm hI hkf => ?_
  obtain ⟨w2, s1⟩ := a
  obtain ⟨e1, h1, h2⟩ := hI
  dsimp only at e1 h1 h2
  subst e1
  obtain ⟨v1, v2, v3, v4, v5, v6, v7⟩ := spn_w W (r := r) m
  have W1 : WT (n + 1) (spn T r m).2 := v1.vm (by omega) (by have := W.2.2.1.2.1; omega)
  have w1 := W1.sz (by omega)
  have w8 := w1.1
  have hN := w1.2.1
  have hr1 : r < tR (spn T r m).2 := by rw [v4]; exact hr
  have hstop : sps (spn T r m).2 r = none → okR (some (.inl (nI (spn T r m).1), s1) : Res Int32) (rch s (nI (spn T r 24).1) (spn T r 24).2) := by
    intro e
    have e3 := spn_stop e (24 - m)
    rw [show m + (24 - m) = 24 by omega] at e3
    rw [e3, okR_some]
    exact ⟨rfl, h1, h2⟩
  unfold m_X8_spreads_b2
  dsimp only
  rw [r_isCrowded h1 w1 hr1, bP_some]
  by_cases z : cnt (spn T r m).2 r ≤ tC (spn T r m).2 r
  · rw [if_pos z, if_pos (show nI 0 = 0 from rfl)]
    exact hstop (by unfold sps; rw [if_pos z])
  · rw [if_neg z, if_neg (show ¬ nI 1 = 0 by decide), r_rowFor h1 w1 hr1, bP_some, r_loudestIn h1 w1 (by omega), bP_some, bP_some]
    obtain ⟨k, e3⟩ := ldst_ex (T := (spn T r m).2) (r := r) (by omega)
    obtain ⟨p1, p2⟩ := ldst_lt e3
    cases e4 : rsp (spn T r m).2 r with
    | none =>
      rw [if_pos (show eo none < 0 by decide)]
      exact hstop (by unfold sps; rw [if_neg z, e3, e4])
    | some x =>
      obtain ⟨p3, _⟩ := rsp_lt e4
      have e6 : sps (spn T r m).2 r = some (op4 (spn T r m).2 k x) := by unfold sps; rw [if_neg z, e3, e4]
      have hm24 : m < 24 := by
        by_cases y : m < 24
        · exact y
        · have e : m = 24 := by omega
          subst e
          rw [spn_end W] at e6; cases e6
      rw [if_neg (show ¬ eo (some x) < 0 from nI_pos (by omega)), e3, show eo (some k) = nI k from rfl, show eo (some x) = nI x from rfl, show (1 : Int32) = nI 1 from rfl, r_sets (by omega) (by decide), bR_l]
      have h3 := h1.wW w8 (k := k) (v := x) p1
      have g : gI (pI s1 136 (39 + 4 * k + 1) (nI x)) 136 (3 : Int32).toNatClampNeg = nI (tM (spn T r m).2) := h3.rM
      rw [if_pos (show ib (3 : Int32) 135 by decide), if_pos (show ib (3 : Int32) 135 by decide), okR_vl, okR_vl, g, nI_add, nI_add, show (3 : Int32).toNatClampNeg = 3 from rfl]
      have e5 : spn T r (m + 1) = ((spn T r m).1 + 1, op4 (spn T r m).2 k x) := by
        show (match sps (spn T r m).2 r with | none => spn T r m | some T' => ((spn T r m).1 + 1, T')) = _
        rw [e6]
      exact hkf _ hm24 ⟨by rw [e5], by rw [e5]; exact h3.wM w8, (h2.p).p⟩
end
