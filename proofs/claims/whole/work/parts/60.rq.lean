/-! ===== the reference: its cells; pure questions ===== -/
section
variable {s : Mem} {T : Th} {n : Nat}
theorem RF.rR (h : RF 136 0 s T) : gI s 136 0 = nI (tR T) := h.1.1
theorem RF.rN (h : RF 136 0 s T) : gI s 136 1 = nI (tN T) := h.1.2.1
theorem RF.rX (h : RF 136 0 s T) : gI s 136 2 = nI (tX T) := h.1.2.2.1
theorem RF.rM (h : RF 136 0 s T) : gI s 136 3 = nI (tM T) := h.1.2.2.2.1
theorem RF.rV (h : RF 136 0 s T) : gI s 136 4 = nI (tV T) := h.1.2.2.2.2.1
theorem RF.rA (h : RF 136 0 s T) : gI s 136 5 = nI (tA T) := h.1.2.2.2.2.2.1
theorem RF.rL (h : RF 136 0 s T) : gI s 136 6 = nI (tL T) := h.1.2.2.2.2.2.2
theorem RF.rB (h : RF 136 0 s T) {b : Nat} (hb : b < 8) : gI s 136 (7 + b) = e1 (tB T b) := by
  have := h.2.1 b hb
  rw [show 0 + 7 + b = 7 + b by omega] at this
  exact this
theorem RF.rC (h : RF 136 0 s T) {r : Nat} (hr : r < tR T) : gI s 136 (15 + 3 * r + 0) = nI (tC T r) := by
  have := (h.2.2.1 r hr).1
  rw [show 0 + 15 + 3 * r = 15 + 3 * r + 0 by omega] at this
  exact this
theorem RF.rP (h : RF 136 0 s T) {r : Nat} (hr : r < tR T) : gI s 136 (15 + 3 * r + 1) = nI (tP T r) := by
  have := (h.2.2.1 r hr).2.1
  rw [show 0 + 16 + 3 * r = 15 + 3 * r + 1 by omega] at this
  exact this
theorem RF.rK (h : RF 136 0 s T) {r : Nat} (hr : r < tR T) : gI s 136 (15 + 3 * r + 2) = bI (tK T r) := by
  have := (h.2.2.1 r hr).2.2
  rw [show 0 + 17 + 3 * r = 15 + 3 * r + 2 by omega] at this
  exact this
theorem RF.rI (h : RF 136 0 s T) {k : Nat} (hk : k < tN T) : gI s 136 (39 + 4 * k + 0) = nI (tI T k) := by
  have := (h.2.2.2 k hk).1
  rw [show 0 + 39 + 4 * k = 39 + 4 * k + 0 by omega] at this
  exact this
theorem RF.rW (h : RF 136 0 s T) {k : Nat} (hk : k < tN T) : gI s 136 (39 + 4 * k + 1) = nI (tW T k) := by
  have := (h.2.2.2 k hk).2.1
  rw [show 0 + 40 + 4 * k = 39 + 4 * k + 1 by omega] at this
  exact this
theorem RF.rU (h : RF 136 0 s T) {k : Nat} (hk : k < tN T) : gI s 136 (39 + 4 * k + 2) = nI (tU T k) := by
  have := (h.2.2.2 k hk).2.2.1
  rw [show 0 + 41 + 4 * k = 39 + 4 * k + 2 by omega] at this
  exact this
theorem RF.rH (h : RF 136 0 s T) {k : Nat} (hk : k < tN T) : gI s 136 (39 + 4 * k + 3) = e1 (tH T k) := by
  have := (h.2.2.2 k hk).2.2.2
  rw [show 0 + 42 + 4 * k = 39 + 4 * k + 3 by omega] at this
  exact this
theorem r_of {r a : Nat} (hr : r < 8) (ha : a < 3) : m_X8_of (nI r) (nI a) s = some (gI s 136 (15 + 3 * r + a)) := by
  unfold m_X8_of
  simp (disch := omega) only [ltI, nM, nI_add, nIb, nN, if_pos]
theorem r_is {k a : Nat} (hk : k < 24) (ha : a < 4) : m_X8_is (nI k) (nI a) s = some (gI s 136 (39 + 4 * k + a)) := by
  unfold m_X8_is
  simp (disch := omega) only [ltI, nM, nI_add, nIb, nN, if_pos]
theorem r_C (h : RF 136 0 s T) (w : Sz T) {r : Nat} (hr : r < tR T) : m_X8_of (nI r) (nI 0) s = some (nI (tC T r)) := by rw [r_of (by have := w.1; omega) (by decide), h.rC hr]
theorem r_P (h : RF 136 0 s T) (w : Sz T) {r : Nat} (hr : r < tR T) : m_X8_of (nI r) (nI 1) s = some (nI (tP T r)) := by rw [r_of (by have := w.1; omega) (by decide), h.rP hr]
theorem r_K (h : RF 136 0 s T) (w : Sz T) {r : Nat} (hr : r < tR T) : m_X8_of (nI r) (nI 2) s = some (bI (tK T r)) := by rw [r_of (by have := w.1; omega) (by decide), h.rK hr]
theorem r_I (h : RF 136 0 s T) (w : Sz T) {k : Nat} (hk : k < tN T) : m_X8_is (nI k) (nI 0) s = some (nI (tI T k)) := by rw [r_is (by have := w.2.1; omega) (by decide), h.rI hk]
theorem r_W (h : RF 136 0 s T) (w : Sz T) {k : Nat} (hk : k < tN T) : m_X8_is (nI k) (nI 1) s = some (nI (tW T k)) := by rw [r_is (by have := w.2.1; omega) (by decide), h.rW hk]
theorem r_U (h : RF 136 0 s T) (w : Sz T) {k : Nat} (hk : k < tN T) : m_X8_is (nI k) (nI 2) s = some (nI (tU T k)) := by rw [r_is (by have := w.2.1; omega) (by decide), h.rU hk]
theorem r_H (h : RF 136 0 s T) (w : Sz T) {k : Nat} (hk : k < tN T) : m_X8_is (nI k) (nI 3) s = some (e1 (tH T k)) := by rw [r_is (by have := w.2.1; omega) (by decide), h.rH hk]
theorem r_between {p a b : Int32} : m_X8_isBetween p a b s = some (bI (decide (¬ p < a) && decide (¬ b < p))) := by
  unfold m_X8_isBetween
  by_cases q : p < a
  · rw [if_pos q]; simp [q, bI]; rfl
  · rw [if_neg q]
    by_cases y : b < p
    · rw [if_pos y]; simp [y, bI]; rfl
    · rw [if_neg y]; simp [q, y, bI]; rfl
theorem r_isRow (h : RF 136 0 s T) (w : Sz T) (p : Int32) : m_X8_isRow p s = some (bI (rwp T p).isSome) := by
  have hR := w.1
  have hv : m_X8_isBetween p 0 (gI s 136 (0 : Int32).toNatClampNeg - 1) s = some (bI (rwp T p).isSome) := by
    rw [show (0 : Int32).toNatClampNeg = 0 from rfl, h.rR, r_between]
    cases e : rwp T p with
    | none =>
      have h1 := rwp_no w e
      have h2 : (decide (¬ p < 0) && decide (¬ nI (tR T) - 1 < p)) = false := by
        rcases h1 with q | q
        · simp [q]
        · by_cases z : p < 0
          · simp [z]
          · obtain ⟨a, ha, rfl⟩ := nI_of z
            rw [nLe (by omega) ha] at q
            have : nI (tR T) - 1 < nI a := by
              by_cases y : tR T = 0
              · rw [y, show nI 0 - 1 = m1 from rfl]
                exact Int32.lt_of_lt_of_le (show m1 < nI 0 by decide) (by rw [nLe (by decide) ha]; omega)
              · rw [show (1 : Int32) = nI 1 from rfl, nS' (by omega), nL (by omega) ha]; omega
            simp [this]
      rw [h2]; rfl
    | some r =>
      obtain ⟨h1, rfl⟩ := rwp_lt e
      have h2 : (decide (¬ nI r < 0) && decide (¬ nI (tR T) - 1 < nI r)) = true := by
        have h3 : ¬ nI r < 0 := nI_pos (by omega)
        have h4 : ¬ nI (tR T) - 1 < nI r := by
          rw [show (1 : Int32) = nI 1 from rfl, nS' (by omega), nL (by omega) (by omega)]; omega
        simp [h3, h4]
      rw [h2]; rfl
  unfold m_X8_isRow
  rw [if_pos (by decide), hv, bO_some, if_pos (nar_bI _)]
theorem r_within {m : Nat} (hm : m < 10000) (p : Int32) : m_X8_isBetween p (nI 1) (nI m) s = some (bI (nbp m p).isSome) := by
  have := c_within (s := s) hm p
  unfold m_X5_within at this
  unfold m_X8_isBetween
  rw [show nI 1 = (1 : Int32) from rfl, this]
  cases (nbp m p).isSome <;> rfl
theorem r_isBox (p : Int32) : m_X8_isBox p s = some (bI (bxp p).isSome) := by
  have hv : m_X8_isBetween p 97 104 s = some (bI (bxp p).isSome) := by
    rw [r_between]
    cases e : bxp p with
    | none =>
      have h2 : (decide (¬ p < 97) && decide (¬ 104 < p)) = false := by
        rcases bxp_no e with q | q
        · have : p < 97 := q
          simp [this]
        · have : (104 : Int32) < p := Int32.lt_of_lt_of_le (show (104 : Int32) < nI 105 by decide) q
          simp [this]
      rw [h2]; rfl
    | some b =>
      obtain ⟨h1, rfl⟩ := bxp_lt e
      have h3 : ¬ nI (97 + b) < 97 := by rw [show (97 : Int32) = nI 97 from rfl, nL (by omega) (by decide)]; omega
      have h4 : ¬ (104 : Int32) < nI (97 + b) := by rw [show (104 : Int32) = nI 104 from rfl, nL (by decide) (by omega)]; omega
      have h2 : (decide (¬ nI (97 + b) < 97) && decide (¬ (104 : Int32) < nI (97 + b))) = true := by simp [h3, h4]
      rw [h2]; rfl
  unfold m_X8_isBox
  rw [hv, bO_some, if_pos (nar_bI _)]
theorem r_slotOf (h : RF 136 0 s T) (w : Sz T) (p : Int32) : m_X8_slotOf p s = some (eo (sltp T p)) := by
  have hN := w.2.1
  refine lpO_d (fun k => nI k) (fun k => ∀ j, j < k → decide (nI (tI T j) = p) = false) (tN T) rfl (fun j hj => absurd hj (Nat.not_lt_zero _)) (by omega) fun k hk hI kf => ?_
  by_cases q : k < tN T
  · simp (disch := omega) only [m_X8_slotOf_b2, ltI, nIb, nN, if_pos, if_neg, h.rN, nLe, r_I h w q, bO_some, vl_i, nI_add]
    by_cases z : nI (tI T k) = p
    · left
      rw [if_neg (fun y => y z)]
      unfold sltp
      rw [fnd_some q (by simp [z]) hI]; rfl
    · right
      refine ⟨q, fun j hj => ?_, by rw [if_pos z]⟩
      by_cases y : j = k
      · subst y; simp [z]
      · exact hI j (by omega)
  · have e : k = tN T := by omega
    subst e
    left
    simp (disch := omega) only [m_X8_slotOf_b2, ltI, nIb, nN, if_pos, h.rN, nLe, Nat.le_refl, if_true, ltm]
    unfold sltp
    rw [fnd_none hI]; rfl
theorem r_countIn (h : RF 136 0 s T) (w : Sz T) {r : Nat} (hr : r < 2 ^ 31) : m_X8_countIn (nI r) s = some (nI (cnt T r)) := by
  have hN := w.2.1
  have hR := w.1
  refine lpO_d (fun k => (nI (sm (fun j => if tW T j = r then 1 else 0) k), nI k)) (fun _ => True) (tN T) rfl trivial (by omega) fun k hk _ kf => ?_
  by_cases q : k < tN T
  · have h1 := (w.2.2.2.1 k q).2.1
    refine Or.inr ⟨q, trivial, ?_⟩
    simp (disch := omega) only [m_X8_countIn_b4, ltI, nIb, nN, if_pos, if_neg, h.rN, nLe, r_W h w q, bO_some, vl_i, nI_add, nE, sm, Nat.add_zero]
    by_cases z : tW T k = r <;> simp [z]
  · have e : k = tN T := by omega
    subst e
    left
    simp (disch := omega) only [m_X8_countIn_b4, ltI, nIb, nN, if_pos, h.rN, nLe, Nat.le_refl, if_true]
    rfl
theorem r_roomIn (h : RF 136 0 s T) (w : Sz T) {r : Nat} (hr : r < tR T) (hc : cnt T r ≤ tC T r + tP T r) : m_X8_roomIn (nI r) s = some (nI (tC T r + tP T r - cnt T r)) := by
  have hR := w.1
  unfold m_X8_roomIn
  rw [ltI, ltI, r_C h w hr, bO_some, r_P h w hr, bO_some, r_countIn h w (by omega), bO_some, nI_add, nS' hc]
theorem r_isCrowded (h : RF 136 0 s T) (w : Sz T) {r : Nat} (hr : r < tR T) : m_X8_isCrowdedRow (nI r) s = some (nI (if cnt T r ≤ tC T r then 0 else 1)) := by
  have hR := w.1
  have h1 := cnt_le24 w r
  have h2 := (w.2.2.2.2 r).1
  unfold m_X8_isCrowdedRow
  rw [r_countIn h w (by omega), bO_some, ltI, ltI, r_C h w hr, bO_some]
  simp (disch := omega) only [nLe]
  by_cases z : cnt T r ≤ tC T r
  · rw [if_pos z, if_pos z]
  · rw [if_neg z, if_neg z]
theorem r_isLocked (h : RF 136 0 s T) (w : Sz T) {r : Nat} (hr : r < tR T) : m_X8_isLockedRow (nI r) s = some (bI (tK T r)) := by
  unfold m_X8_isLockedRow
  rw [ltI, r_K h w hr, bO_some]
  cases tK T r <;> rfl
theorem r_lockedRows (h : RF 136 0 s T) (w : Sz T) : m_X8_lockedRows s = some (nI (lkd T)) := by
  have hR := w.1
  refine lpO_d (fun k => (nI (sm (fun r => if tK T r then 1 else 0) k), nI k)) (fun _ => True) (tR T) rfl trivial (by omega) fun k hk _ kf => ?_
  by_cases q : k < tR T
  · refine Or.inr ⟨q, trivial, ?_⟩
    simp (disch := omega) only [m_X8_lockedRows_b4, ltI, nIb, nN, if_pos, if_neg, h.rR, nLe, r_K h w q, bO_some, vl_i, nI_add, sm]
    cases z : tK T k
    · rw [show bI false = nI 0 from rfl, nI_add]; rfl
    · rw [show bI true = nI 1 from rfl, nI_add]; rfl
  · have e : k = tR T := by omega
    subst e
    left
    simp (disch := omega) only [m_X8_lockedRows_b4, ltI, nIb, nN, if_pos, h.rR, nLe, Nat.le_refl, if_true]
    rfl
theorem r_loudnessIn (h : RF 136 0 s T) (w : Sz T) {r : Nat} (hr : r < 2 ^ 31) : m_X8_loudnessIn (nI r) s = some (nI (ld T r)) := by
  have hN := w.2.1
  have hR := w.1
  refine lpO_d (fun k => (nI (sm (fun j => if tW T j = r then tU T j else 0) k), nI k)) (fun _ => True) (tN T) rfl trivial (by omega) fun k hk _ kf => ?_
  by_cases q : k < tN T
  · have h1 := (w.2.2.2.1 k q).2.1
    refine Or.inr ⟨q, trivial, ?_⟩
    simp (disch := omega) only [m_X8_loudnessIn_b4, ltI, nIb, nN, if_pos, if_neg, h.rN, nLe, r_W h w q, r_U h w q, bO_some, vl_i, nI_add, nE, sm, Nat.add_zero]
    by_cases z : tW T k = r <;> simp [z]
  · have e : k = tN T := by omega
    subst e
    left
    simp (disch := omega) only [m_X8_loudnessIn_b4, ltI, nIb, nN, if_pos, h.rN, nLe, Nat.le_refl, if_true]
    rfl
theorem r_activeSum (h : RF 136 0 s T) (w : Sz T) : m_X8_activeSum s = some (nI (lall T)) := by
  have hN := w.2.1
  refine lpO_d (fun k => (nI (sm (tU T) k), nI k)) (fun _ => True) (tN T) rfl trivial (by omega) fun k hk _ kf => ?_
  by_cases q : k < tN T
  · refine Or.inr ⟨q, trivial, ?_⟩
    simp (disch := omega) only [m_X8_activeSum_b4, ltI, nIb, nN, if_pos, if_neg, h.rN, nLe, r_U h w q, bO_some, vl_i, nI_add, sm]
  · have e : k = tN T := by omega
    subst e
    left
    simp (disch := omega) only [m_X8_activeSum_b4, ltI, nIb, nN, if_pos, h.rN, nLe, Nat.le_refl, if_true]
    rfl
theorem r_positionOf (h : RF 136 0 s T) (w : Sz T) {k0 : Nat} (hk0 : k0 < tN T) : m_X8_positionOf (nI k0) s = some (nI (pos T (tW T k0) k0)) := by
  have hN := w.2.1
  have hR := w.1
  have h0 := (w.2.2.2.1 k0 hk0).2.1
  refine lpO_d (fun k => (nI (pos T (tW T k0) k), nI k)) (fun _ => True) k0 rfl trivial (by omega) fun k hk _ kf => ?_
  by_cases q : k < k0
  · have h1 := (w.2.2.2.1 k (by omega)).2.1
    refine Or.inr ⟨q, trivial, ?_⟩
    simp (disch := omega) only [m_X8_positionOf_b4, ltI, nLe, if_neg, r_W h w (show k < tN T by omega), r_W h w hk0, bO_some, vl_i, nI_add, nE, Nat.add_zero]
    unfold pos
    rw [sm]
    by_cases z : tW T k = tW T k0 <;> simp [z]
  · have e : k = k0 := by omega
    subst e
    left
    simp (disch := omega) only [m_X8_positionOf_b4, nLe, if_pos, Nat.le_refl]
theorem r_rankOf (h : RF 136 0 s T) (w : Sz T) {k : Nat} (hk : k < tN T) : m_X8_rankOf (nI k) s = some (nI (rnk T k)) := by
  have hN := w.2.1
  have hR := w.1
  have h0 := (w.2.2.2.1 k hk).2.1
  unfold m_X8_rankOf
  rw [r_positionOf h w hk, bO_some]
  refine lpO_d (fun r => (nI (pos T (tW T k) k + sm (cnt T) r), nI r)) (fun _ => True) (tW T k) rfl trivial (by omega) fun r hr _ kf => ?_
  by_cases q : r < tW T k
  · refine Or.inr ⟨q, trivial, ?_⟩
    simp (disch := omega) only [m_X8_rankOf_b8, ltI, r_W h w hk, bO_some, nLe, if_neg, r_countIn h w (show r < 2 ^ 31 by omega), vl_i, nI_add, sm, Nat.add_assoc]
  · have e : r = tW T k := by omega
    subst e
    left
    simp (disch := omega) only [m_X8_rankOf_b8, ltI, r_W h w hk, bO_some, nLe, if_pos, Nat.le_refl]
    unfold rnk
    rw [Nat.add_comm]
end
