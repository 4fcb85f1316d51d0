/-! ===== the tables of heirs ===== -/
/-- the slot that is exactly m steps of heirs away -/
def nst (T : Th) : Nat → Nat → Option Nat
  | 0, k => some k
  | m + 1, k => match nst T m k with
    | none => none
    | some j => hs T j
theorem nst_add (T : Th) (a k : Nat) : ∀ b, nst T (a + b) k = match nst T a k with | none => none | some j => nst T b j
  | 0 => by
    show nst T a k = _
    cases nst T a k <;> rfl
  | b + 1 => by
    show (match nst T (a + b) k with | none => none | some j => hs T j) = _
    rw [nst_add T a k b]
    cases nst T a k <;> rfl
theorem nst_lt {T : Th} {k : Nat} (hk : k < tN T) : ∀ {m j : Nat}, nst T m k = some j → j < tN T
  | 0, j, h => by cases h; exact hk
  | m + 1, j, h => by
    have h' : (match nst T m k with | none => none | some j => hs T j) = some j := h
    cases e : nst T m k with
    | none => rw [e] at h'; cases h'
    | some x => rw [e] at h'; exact (hs_lt h').1
/-- the length of a chain -/
theorem ch_len {T : Th} (ha : Ac T) (hN : tN T ≤ 24) {k : Nat} (hk : k < tN T) : ∃ L, L ≤ 23 ∧ hs T (it T L k) = none ∧ ∀ i, i < L → hs T (it T i k) ≠ none := by
  have h23 : hs T (it T 23 k) = none := it_stop ha hk (by omega)
  have key : ∀ n, hs T (it T n k) = none → ∃ L, L ≤ n ∧ hs T (it T L k) = none ∧ ∀ i, i < L → hs T (it T i k) ≠ none := by
    intro n
    induction n with
    | zero => intro h; exact ⟨0, Nat.le_refl _, h, fun i hi => absurd hi (Nat.not_lt_zero _)⟩
    | succ n ih =>
      intro h
      by_cases q : hs T (it T n k) = none
      · obtain ⟨L, h1, h2⟩ := ih q
        exact ⟨L, by omega, h2⟩
      · refine ⟨n + 1, Nat.le_refl _, h, fun i hi y => ?_⟩
        have h3 := it_end y (n - i)
        rw [show i + (n - i) = n by omega] at h3
        rw [h3] at q
        exact q y
  exact key 23 h23
theorem nst_it {T : Th} {k L q : Nat} (h1 : hs T (it T L k) = none) (h2 : ∀ i, i < L → hs T (it T i k) ≠ none) (hq : q ≤ L) : ∀ m, nst T m (it T q k) = if q + m ≤ L then some (it T (q + m) k) else none
  | 0 => by rw [if_pos (by omega)]; rfl
  | m + 1 => by
    show (match nst T m (it T q k) with | none => none | some j => hs T j) = _
    rw [nst_it h1 h2 hq m]
    by_cases z : q + m ≤ L
    · rw [if_pos z]
      show hs T (it T (q + m) k) = _
      by_cases y : q + m = L
      · rw [y, h1, if_neg (by omega)]
      · rw [if_pos (by omega)]
        have h3 := h2 (q + m) (by omega)
        cases e : hs T (it T (q + m) k) with
        | none => exact absurd e h3
        | some j =>
          show some j = some (match hs T (it T (q + m) k) with | some j => j | none => it T (q + m) k)
          rw [e]
    · rw [if_neg z, if_neg (by omega)]
/-- the table of a level, its first n slots -/
def HT (T : Th) (l n : Nat) (s : Mem) : Prop := ∀ k, k < n → gI s (644 + 64 * l) k = eo (nst T (2 ^ l) k)
theorem nst_sz {T : Th} (w : Sz T) {k : Nat} (hk : k < tN T) (m : Nat) : ∀ x, nst T m k = some x → x < 2 ^ 31 := fun x hx => by
  have := nst_lt hk hx
  have := w.2.1
  omega
theorem arf68 {l : Nat} : arf 68 l = 644 + 64 * l := rfl
/-- where halving has come to -/
def dbl (L : Nat) : Nat → Nat
  | 0 => 0
  | m + 1 => if dbl L m + 2 ^ (4 - m) ≤ L then dbl L m + 2 ^ (4 - m) else dbl L m
section
variable {t : Nat} {s : Mem} {T : Th}
theorem c_heirFill (h : RC t s T) (w : Sz T) (ht : isTh t) : okR (m_X2_fillFrom t s) (fun o s' => o = .inl () ∧ (∀ l, l < 5 → HT T l (tN T) s') ∧ Ow 4 s s') := by
  have hN := w.2.1
  have ht1 := ht.1
  have ht2 := ht.2
  refine lp_i (fun k a => a.1 = nI k ∧ HT T 0 k a.2 ∧ Ow 4 s a.2) (tN T) ⟨rfl, fun _ q => absurd q (Nat.not_lt_zero _), Ow.refl⟩ (by omega) fun k a kf hk hI hkf => ?_
  obtain ⟨w2, s1⟩ := a
  obtain ⟨e1, h1, h2⟩ := hI
  dsimp only at e1 h1 h2
  subst e1
  have hT := h.ow h2 (by omega)
  simp (disch := omega) only [m_X2_fillFrom_b2, hT.hN, nLe]
  by_cases q : k < tN T
  · simp (disch := omega) only [ltI, nIb, nN, arf68, if_pos, if_neg, okR_bindP, c_heirSlotOf hT w q, okO_some, okR_vl, nI_add]
    refine hkf _ q ⟨rfl, fun j hj => ?_, h2.pI (by decide)⟩
    dsimp only
    by_cases z : j = k
    · subst z
      rw [gI_s]; rfl
    · rw [gI_k z]; exact h1 j (by omega)
  · have e : k = tN T := by omega
    subst e
    rw [if_pos (Nat.le_refl _)]
    refine lp_i (fun k a => a.1 = nI (k + 1) ∧ (∀ l, l < k + 1 → HT T l (tN T) a.2) ∧ Ow 4 s a.2) 4 ⟨rfl, fun l hl => ?_, h2⟩ (by omega) fun k a kf hk hI hkf => ?_
    · have : l = 0 := by omega
      subst this; exact h1
    · obtain ⟨w2, s2⟩ := a
      obtain ⟨e1, h3, h4⟩ := hI
      dsimp only at e1 h3 h4
      subst e1
      simp (disch := omega) only [m_X2_fillFrom_b31, ltI, nLe]
      by_cases q : k < 4
      · rw [if_neg (by omega)]
        refine lp_i (fun j a => a.1 = nI j ∧ (∀ l, l < k + 1 → HT T l (tN T) a.2) ∧ HT T (k + 1) j a.2 ∧ Ow 4 s a.2) (tN T) ⟨rfl, h3, fun _ q => absurd q (Nat.not_lt_zero _), h4⟩ (by omega) fun j a kf2 hj hI2 hkf2 => ?_
        obtain ⟨w3, s3⟩ := a
        obtain ⟨e2, h5, h6, h7⟩ := hI2
        dsimp only at e2 h5 h6 h7
        subst e2
        have hT3 := h.ow h7 (by omega)
        simp (disch := omega) only [m_X2_fillFrom_b38, hT3.hN, nLe]
        by_cases y : j < tN T
        · have hv := h5 k (by omega) j y
          have hpow : 2 ^ (k + 1) = 2 ^ k + 2 ^ k := by rw [Nat.pow_succ]; omega
          have hadd := nst_add T (2 ^ k) j (2 ^ k)
          rw [← hpow] at hadd
          have hst : ∀ v, v = eo (nst T (2 ^ (k + 1)) j) → okR (kf2 (nI (j + 1), pI s3 (644 + 64 * (k + 1)) j v)) (fun o s' => o = .inl () ∧ (∀ l, l < 5 → HT T l (tN T) s') ∧ Ow 4 s s') := by
            intro v hvv
            refine hkf2 _ y ⟨rfl, fun l hl i hi => ?_, fun i hi => ?_, h7.pI (by omega)⟩
            · rw [gI_o (by omega)]; exact h5 l hl i hi
            · by_cases z : i = j
              · subst z; rw [gI_s, hvv]
              · rw [gI_k z]; exact h6 i (by omega)
          simp (disch := omega) only [ltI, ltm, nS', Nat.add_sub_cancel, nIb, nN, arf68, if_pos, if_neg, okR_vl, nI_add, hv, eo_m1 (nst_sz w y _)]
          cases e : nst T (2 ^ k) j with
          | none =>
            rw [e] at hadd
            rw [if_neg (fun v => v rfl)]
            exact hst _ (by rw [hadd]; rfl)
          | some x =>
            rw [e] at hadd
            have hx := nst_lt y e
            rw [if_pos (fun v => by cases v)]
            simp (disch := omega) only [eo, nIb, nN, if_pos, okR_vl]
            exact hst _ (by rw [hadd]; exact h5 k (by omega) x hx)
        · have e : j = tN T := by omega
          subst e
          rw [if_pos (Nat.le_refl _), okR_vl, ltI, nI_add]
          refine hkf _ q ⟨rfl, fun l hl => ?_, h7⟩
          by_cases z : l < k + 1
          · exact h5 l z
          · have : l = k + 1 := by omega
            subst this; exact h6
      · have e : k = 4 := by omega
        subst e
        rw [if_pos (by omega), okR_some]
        exact ⟨rfl, h3, h4⟩
theorem c_endOfChain (w : Sz T) (ha : Ac T) (hh : ∀ l, l < 5 → HT T l (tN T) s) {k : Nat} (hk : k < tN T) : m_X2_endOfChainFrom (nI k) s = some (nI (lst T k)) := by
  have hN := w.2.1
  obtain ⟨L, hL, h1, h2⟩ := ch_len ha hN hk
  have hstep : ∀ l q, l < 5 → q ≤ L → gI s (644 + 64 * l) (it T q k) = eo (if q + 2 ^ l ≤ L then some (it T (q + 2 ^ l) k) else none) := by
    intro l q hl hq
    rw [hh l hl _ (it_lt hk q), nst_it h1 h2 hq]
  have hi : ∀ q, it T q k < 24 := fun q => Nat.lt_of_lt_of_le (it_lt hk q) hN
  have hlast : lst T k = it T L k := lst_at h1 (by omega)
  have key : ∀ (kf : Int32 × Int32 → Option Int32) (l q : Nat), l < 5 → q ≤ L → m_X2_endOfChainFrom_b4 s kf (nI (it T q k)) (nI l) = kf (nI (it T (if q + 2 ^ l ≤ L then q + 2 ^ l else q) k), if l = 0 then m1 else nI (l - 1)) := by
    intro kf l q hl hq
    have hiq := hi q
    have e5 : nI l + -nI 1 = if l = 0 then m1 else nI (l - 1) := by
      rcases (show l = 0 ∨ l = 1 ∨ l = 2 ∨ l = 3 ∨ l = 4 by omega) with rfl | rfl | rfl | rfl | rfl <;> rfl
    have h6 := hstep l q hl hq
    simp (disch := omega) only [m_X2_endOfChainFrom_b4, ltI, nL, nIb, nN, arf68, if_pos, if_neg, ↓vl_i, h6, e5]
    by_cases z : q + 2 ^ l ≤ L
    · have := hi (q + 2 ^ l)
      simp (disch := omega) only [z, if_true, eo, ltm, m1_eq, if_false]
    · simp only [z, if_false, eo, ltm, if_true]
  refine lpO_d (fun m => (nI (it T (dbl L m) k), if m = 5 then m1 else nI (4 - m))) (fun m => m ≤ 5 ∧ dbl L m ≤ L ∧ L - dbl L m < 2 ^ (5 - m)) 5 rfl ⟨by omega, Nat.zero_le _, by show L - 0 < 32; omega⟩ (by omega) fun m hm hI kf => ?_
  obtain ⟨i1, i2, i3⟩ := hI
  by_cases q : m < 5
  · right
    have e5 : 5 - m = 4 - m + 1 := by omega
    have e6 : 2 ^ (5 - m) = 2 ^ (4 - m) + 2 ^ (4 - m) := by rw [e5, Nat.pow_succ]; omega
    refine ⟨q, ⟨by omega, ?_⟩, ?_⟩
    · rw [show 5 - (m + 1) = 4 - m by omega]
      rw [e6] at i3
      show (if dbl L m + 2 ^ (4 - m) ≤ L then dbl L m + 2 ^ (4 - m) else dbl L m) ≤ L ∧ L - (if dbl L m + 2 ^ (4 - m) ≤ L then dbl L m + 2 ^ (4 - m) else dbl L m) < _
      by_cases z : dbl L m + 2 ^ (4 - m) ≤ L
      · rw [if_pos z]; omega
      · rw [if_neg z]; omega
    · have := key kf (4 - m) (dbl L m) (by omega) i2
      simp only [if_neg (show ¬ m = 5 by omega)]
      rw [this]
      show kf (nI (it T (if dbl L m + 2 ^ (4 - m) ≤ L then dbl L m + 2 ^ (4 - m) else dbl L m) k), _) = kf (nI (it T (if dbl L m + 2 ^ (4 - m) ≤ L then dbl L m + 2 ^ (4 - m) else dbl L m) k), _)
      congr 2
      by_cases z : m = 4
      · subst z; rfl
      · rw [if_neg (by omega), if_neg (by omega), show 4 - m - 1 = 4 - (m + 1) by omega]
  · left
    have e : m = 5 := by omega
    subst e
    have i4 : dbl L 5 = L := by have : 2 ^ (5 - 5) = 1 := rfl
                                omega
    simp only [if_true, m_X2_endOfChainFrom_b4, i4]
    rw [if_pos (show m1 < 0 by decide), hlast]
end
