/-! ===== the class: a change carried out; a theatre copied ===== -/
/-- the numbers that the rules have found, and what was asked -/
def inN (T : Th) (kind a b : Nat) (p q : Int32) : Prop :=
  (kind = 0 → p = nI a) ∧ (kind = 1 → p = nI a ∧ q = nI b) ∧ (kind = 2 → p = nI a ∧ q = nI b) ∧ (kind = 3 → p = nI a ∧ q = nI b) ∧ (kind = 4 → sltp T p = some a ∧ q = nI b) ∧ (kind = 5 → sltp T p = some a) ∧ (kind = 6 → sltp T p = some a ∧ sltp T q = some b) ∧ (kind = 7 → sltp T p = some a) ∧ (kind = 8 → p = nI a) ∧ (kind = 9 → p = nI a) ∧ (kind = 10 → p = nI (97 + a) ∧ q = nI b) ∧ (kind = 11 → p = nI a)
section
variable {t : Nat} {s : Mem} {T : Th} {n : Nat}
theorem rs_in {kind a b : Nat} {p q : Int32} (hk : kind < 12) (h : rs T kind p q = .inr (a, b)) : inN T kind a b p q := by
  have no : ∀ {x y : Nat} {P : Prop}, x ≠ y → x = y → P := fun h1 h2 => absurd h2 h1
  rcases (show kind = 0 ∨ kind = 1 ∨ kind = 2 ∨ kind = 3 ∨ kind = 4 ∨ kind = 5 ∨ kind = 6 ∨ kind = 7 ∨ kind = 8 ∨ kind = 9 ∨ kind = 10 ∨ kind = 11 by omega) with rfl | rfl | rfl | rfl | rfl | rfl | rfl | rfl | rfl | rfl | rfl | rfl
  · refine ⟨fun _ => ?_, no (by decide), no (by decide), no (by decide), no (by decide), no (by decide), no (by decide), no (by decide), no (by decide), no (by decide), no (by decide), no (by decide)⟩
    have h : rs0 T p = .inr (a, b) := h
    unfold rs0 at h
    cases e1 : nbp 12 p with
    | none => rw [e1] at h; cases h
    | some x1 =>
      rw [e1] at h
      by_cases z : tR T < 8
      · simp only [if_pos z] at h; cases h; exact (nbp_lt e1).2.2
      · simp only [if_neg z] at h; cases h
  · refine ⟨no (by decide), fun _ => ?_, no (by decide), no (by decide), no (by decide), no (by decide), no (by decide), no (by decide), no (by decide), no (by decide), no (by decide), no (by decide)⟩
    have h : rs1 T p q = .inr (a, b) := h
    unfold rs1 at h
    cases e1 : rwp T p with
    | none => rw [e1] at h; cases h
    | some x1 =>
      cases e2 : nbp 6 q with
      | none => rw [e1, e2] at h; cases h
      | some x2 =>
        rw [e1, e2] at h
        by_cases z : tK T x1 = false ∧ tP T x1 + x2 ≤ 6
        · simp only [if_pos z] at h; cases h; exact ⟨(rwp_lt e1).2, (nbp_lt e2).2.2⟩
        · simp only [if_neg z] at h; cases h
  · refine ⟨no (by decide), no (by decide), fun _ => ?_, no (by decide), no (by decide), no (by decide), no (by decide), no (by decide), no (by decide), no (by decide), no (by decide), no (by decide)⟩
    have h : rs2 T p q = .inr (a, b) := h
    unfold rs2 at h
    cases e1 : rwp T p with
    | none => rw [e1] at h; cases h
    | some x1 =>
      cases e2 : nbp 6 q with
      | none => rw [e1, e2] at h; cases h
      | some x2 =>
        rw [e1, e2] at h
        by_cases z : tK T x1 = false ∧ x2 ≤ tP T x1 ∧ cnt T x1 + x2 ≤ tC T x1 + tP T x1
        · simp only [if_pos z] at h; cases h; exact ⟨(rwp_lt e1).2, (nbp_lt e2).2.2⟩
        · simp only [if_neg z] at h; cases h
  · refine ⟨no (by decide), no (by decide), no (by decide), fun _ => ?_, no (by decide), no (by decide), no (by decide), no (by decide), no (by decide), no (by decide), no (by decide), no (by decide)⟩
    have h : rs3 T p q = .inr (a, b) := h
    unfold rs3 at h
    cases e1 : rwp T p with
    | none => rw [e1] at h; cases h
    | some x1 =>
      cases e2 : nbp 999 q with
      | none => rw [e1, e2] at h; cases h
      | some x2 =>
        rw [e1, e2] at h
        by_cases z : tK T x1 = false ∧ cnt T x1 < tC T x1 + tP T x1 ∧ tN T < 24
        · simp only [if_pos z] at h; cases h; exact ⟨(rwp_lt e1).2, (nbp_lt e2).2.2⟩
        · simp only [if_neg z] at h; cases h
  · refine ⟨no (by decide), no (by decide), no (by decide), no (by decide), fun _ => ?_, no (by decide), no (by decide), no (by decide), no (by decide), no (by decide), no (by decide), no (by decide)⟩
    have h : rs4 T p q = .inr (a, b) := h
    unfold rs4 at h
    cases e1 : sltp T p with
    | none => rw [e1] at h; cases h
    | some x1 =>
      cases e2 : rwp T q with
      | none => rw [e1, e2] at h; cases h
      | some x2 =>
        rw [e1, e2] at h
        by_cases z : tW T x1 ≠ x2 ∧ tK T (tW T x1) = false ∧ tK T x2 = false ∧ cnt T x2 < tC T x2 + tP T x2
        · simp only [if_pos z] at h; cases h; exact ⟨rfl, (rwp_lt e2).2⟩
        · simp only [if_neg z] at h; cases h
  · refine ⟨no (by decide), no (by decide), no (by decide), no (by decide), no (by decide), fun _ => ?_, no (by decide), no (by decide), no (by decide), no (by decide), no (by decide), no (by decide)⟩
    have h : rs5 T p = .inr (a, b) := h
    unfold rs5 at h
    cases e1 : sltp T p with
    | none => rw [e1] at h; cases h
    | some x1 =>
      rw [e1] at h
      by_cases z : tK T (tW T x1) = false
      · simp only [if_pos z] at h; cases h; exact rfl
      · simp only [if_neg z] at h; cases h
  · refine ⟨no (by decide), no (by decide), no (by decide), no (by decide), no (by decide), no (by decide), fun _ => ?_, no (by decide), no (by decide), no (by decide), no (by decide), no (by decide)⟩
    have h : rs6 T p q = .inr (a, b) := h
    unfold rs6 at h
    cases e1 : sltp T p with
    | none => rw [e1] at h; cases h
    | some x1 =>
      cases e2 : sltp T q with
      | none => rw [e1, e2] at h; cases h
      | some x2 =>
        rw [e1, e2] at h
        by_cases z : x1 = x2
        · simp only [if_pos z] at h; cases h
        · by_cases y : pasb T x2 x1 = true
          · simp only [if_neg z, if_pos y] at h; cases h
          · simp only [if_neg z, if_neg y] at h; cases h; exact ⟨rfl, rfl⟩
  · refine ⟨no (by decide), no (by decide), no (by decide), no (by decide), no (by decide), no (by decide), no (by decide), fun _ => ?_, no (by decide), no (by decide), no (by decide), no (by decide)⟩
    have h : rs7 T p = .inr (a, b) := h
    unfold rs7 at h
    cases e1 : sltp T p with
    | none => rw [e1] at h; cases h
    | some x1 =>
      rw [e1] at h
      by_cases z : tH T x1 = none
      · simp only [if_pos z] at h; cases h
      · simp only [if_neg z] at h; cases h; exact rfl
  · refine ⟨no (by decide), no (by decide), no (by decide), no (by decide), no (by decide), no (by decide), no (by decide), no (by decide), fun _ => ?_, no (by decide), no (by decide), no (by decide)⟩
    have h : rs8 true T p = .inr (a, b) := h
    unfold rs8 at h
    cases e1 : rwp T p with
    | none => rw [e1] at h; cases h
    | some x1 =>
      rw [e1] at h
      by_cases z : tK T x1 = true
      · simp only [if_pos z] at h; cases h
      · simp only [if_neg z] at h; cases h; exact (rwp_lt e1).2
  · refine ⟨no (by decide), no (by decide), no (by decide), no (by decide), no (by decide), no (by decide), no (by decide), no (by decide), no (by decide), fun _ => ?_, no (by decide), no (by decide)⟩
    have h : rs8 false T p = .inr (a, b) := h
    unfold rs8 at h
    cases e1 : rwp T p with
    | none => rw [e1] at h; cases h
    | some x1 =>
      rw [e1] at h
      by_cases z : tK T x1 = false
      · simp only [if_pos z] at h; cases h
      · simp only [if_neg z] at h; cases h; exact (rwp_lt e1).2
  · refine ⟨no (by decide), no (by decide), no (by decide), no (by decide), no (by decide), no (by decide), no (by decide), no (by decide), no (by decide), no (by decide), fun _ => ?_, no (by decide)⟩
    have h : rs10 T p q = .inr (a, b) := h
    unfold rs10 at h
    cases e1 : bxp p with
    | none => rw [e1] at h; cases h
    | some x1 =>
      cases e2 : rwp T q with
      | none => rw [e1, e2] at h; cases h
      | some x2 =>
        rw [e1, e2] at h
        cases h; exact ⟨(bxp_lt e1).2, (rwp_lt e2).2⟩
  · refine ⟨no (by decide), no (by decide), no (by decide), no (by decide), no (by decide), no (by decide), no (by decide), no (by decide), no (by decide), no (by decide), no (by decide), fun _ => ?_⟩
    have h : rs8 true T p = .inr (a, b) := h
    unfold rs8 at h
    cases e1 : rwp T p with
    | none => rw [e1] at h; cases h
    | some x1 =>
      rw [e1] at h
      by_cases z : tK T x1 = true
      · simp only [if_pos z] at h; cases h
      · simp only [if_neg z] at h; cases h; exact (rwp_lt e1).2
theorem eo_s {k : Nat} : eo (some k) = nI k := rfl
theorem nI_addneg {a b : Nat} (h : b ≤ a) : nI a + -nI b = nI (a - b) := by rw [← Int32.sub_eq_add_neg, nS' h]
theorem c_carry (h : RC t s T) (W : WT n T) (hn : n < 10000) (ht : isTh t) {kind a b : Nat} {p q : Int32} (hk : kind < 12) (hr : rs T kind p q = .inr (a, b)) : okR (m_X0_carryOut t (nI kind) p q s) (ch t s (opN T kind a b).1 (opN T kind a b).2) := by
  have w := W.sz (show n ≤ 10000 by omega)
  have hR := w.1
  obtain ⟨o0, o1, o2, o3, o4, o5, o6, o7, o8, o9, o10, o11⟩ := rs_ok hk hr
  obtain ⟨i0, i1, i2, i3, i4, i5, i6, i7, i8, i9, i10, i11⟩ := rs_in hk hr
  unfold m_X0_carryOut
  simp only [bR_id]
  rcases (show kind = 0 ∨ kind = 1 ∨ kind = 2 ∨ kind = 3 ∨ kind = 4 ∨ kind = 5 ∨ kind = 6 ∨ kind = 7 ∨ kind = 8 ∨ kind = 9 ∨ kind = 10 ∨ kind = 11 by omega) with rfl | rfl | rfl | rfl | rfl | rfl | rfl | rfl | rfl | rfl | rfl | rfl
  · rw [if_pos (show nI 0 = 0 from rfl), i0 rfl]
    exact c_openRow h ht (o0 rfl).2.2
  · obtain ⟨q1, q2⟩ := i1 rfl
    obtain ⟨q3, q4, q5⟩ := o1 rfl
    rw [if_neg (show ¬ nI 1 = 0 by decide), if_pos (show nI 1 = 1 from rfl), q1, q2]
    exact c_phantoms h ht (by omega) (nI_add _ _)
  · obtain ⟨q1, q2⟩ := i2 rfl
    obtain ⟨q3, q4, q5, q6⟩ := o2 rfl
    rw [if_neg (show ¬ nI 2 = 0 by decide), if_neg (show ¬ nI 2 = 1 by decide), if_pos (show nI 2 = 2 from rfl), q1, q2]
    exact c_phantoms h ht (by omega) (nI_addneg q5)
  · obtain ⟨q1, q2⟩ := i3 rfl
    obtain ⟨q3, q4, q5, q6, q7⟩ := o3 rfl
    rw [if_neg (show ¬ nI 3 = 0 by decide), if_neg (show ¬ nI 3 = 1 by decide), if_neg (show ¬ nI 3 = 2 by decide), if_pos (show nI 3 = 3 from rfl), q1, q2]
    exact c_addEcho h w ht q7 (by omega)
  · obtain ⟨q1, q2⟩ := i4 rfl
    obtain ⟨q3, q4, q5, q6⟩ := o4 rfl
    rw [if_neg (show ¬ nI 4 = 0 by decide), if_neg (show ¬ nI 4 = 1 by decide), if_neg (show ¬ nI 4 = 2 by decide), if_neg (show ¬ nI 4 = 3 by decide), if_pos (show nI 4 = 4 from rfl), c_slotOf h w, q1, bP_some, eo_s, q2]
    exact c_moveSlot h w ht q3
  · rw [if_neg (show ¬ nI 5 = 0 by decide), if_neg (show ¬ nI 5 = 1 by decide), if_neg (show ¬ nI 5 = 2 by decide), if_neg (show ¬ nI 5 = 3 by decide), if_neg (show ¬ nI 5 = 4 by decide), if_pos (show nI 5 = 5 from rfl), c_slotOf h w, i5 rfl, bP_some, eo_s]
    exact c_removeSlot h W hn ht (o5 rfl)
  · obtain ⟨q1, q2⟩ := i6 rfl
    rw [if_neg (show ¬ nI 6 = 0 by decide), if_neg (show ¬ nI 6 = 1 by decide), if_neg (show ¬ nI 6 = 2 by decide), if_neg (show ¬ nI 6 = 3 by decide), if_neg (show ¬ nI 6 = 4 by decide), if_neg (show ¬ nI 6 = 5 by decide), if_pos (show nI 6 = 6 from rfl), c_slotOf h w, q1, bP_some, eo_s, (sltp_lt q2).2]
    have z := c_replaceHeir h w ht (v := some (tI T b)) (o6 rfl).1
    exact z
  · rw [if_neg (show ¬ nI 7 = 0 by decide), if_neg (show ¬ nI 7 = 1 by decide), if_neg (show ¬ nI 7 = 2 by decide), if_neg (show ¬ nI 7 = 3 by decide), if_neg (show ¬ nI 7 = 4 by decide), if_neg (show ¬ nI 7 = 5 by decide), if_neg (show ¬ nI 7 = 6 by decide), if_pos (show nI 7 = 7 from rfl), c_slotOf h w, i7 rfl, bP_some, eo_s]
    exact c_replaceHeir h w ht (v := none) (o7 rfl)
  · rw [if_neg (show ¬ nI 8 = 0 by decide), if_neg (show ¬ nI 8 = 1 by decide), if_neg (show ¬ nI 8 = 2 by decide), if_neg (show ¬ nI 8 = 3 by decide), if_neg (show ¬ nI 8 = 4 by decide), if_neg (show ¬ nI 8 = 5 by decide), if_neg (show ¬ nI 8 = 6 by decide), if_neg (show ¬ nI 8 = 7 by decide), if_pos (show nI 8 = 8 from rfl), i8 rfl]
    exact c_setLocked h w ht (b := true) (by have := o8 rfl; omega)
  · rw [if_neg (show ¬ nI 9 = 0 by decide), if_neg (show ¬ nI 9 = 1 by decide), if_neg (show ¬ nI 9 = 2 by decide), if_neg (show ¬ nI 9 = 3 by decide), if_neg (show ¬ nI 9 = 4 by decide), if_neg (show ¬ nI 9 = 5 by decide), if_neg (show ¬ nI 9 = 6 by decide), if_neg (show ¬ nI 9 = 7 by decide), if_neg (show ¬ nI 9 = 8 by decide), if_pos (show nI 9 = 9 from rfl), i9 rfl]
    exact c_setLocked h w ht (b := false) (by have := o9 rfl; omega)
  · obtain ⟨q1, q2⟩ := i10 rfl
    rw [if_neg (show ¬ nI 10 = 0 by decide), if_neg (show ¬ nI 10 = 1 by decide), if_neg (show ¬ nI 10 = 2 by decide), if_neg (show ¬ nI 10 = 3 by decide), if_neg (show ¬ nI 10 = 4 by decide), if_neg (show ¬ nI 10 = 5 by decide), if_neg (show ¬ nI 10 = 6 by decide), if_neg (show ¬ nI 10 = 7 by decide), if_neg (show ¬ nI 10 = 8 by decide), if_neg (show ¬ nI 10 = 9 by decide), if_pos (show nI 10 = 10 from rfl), q1, q2, show (97 : Int32) = nI 97 from rfl, nS' (by omega), show 97 + a - 97 = a by omega]
    exact c_nameByBox h ht (o10 rfl).1
  · rw [if_neg (show ¬ nI 11 = 0 by decide), if_neg (show ¬ nI 11 = 1 by decide), if_neg (show ¬ nI 11 = 2 by decide), if_neg (show ¬ nI 11 = 3 by decide), if_neg (show ¬ nI 11 = 4 by decide), if_neg (show ¬ nI 11 = 5 by decide), if_neg (show ¬ nI 11 = 6 by decide), if_neg (show ¬ nI 11 = 7 by decide), if_neg (show ¬ nI 11 = 8 by decide), if_neg (show ¬ nI 11 = 9 by decide), if_neg (show ¬ nI 11 = 10 by decide), opN11, i11 rfl]
    dsimp only
    exact c_spread h W hn ht (o11 rfl)
/-! a copy -/
theorem c_copyFrom {b : Nat} (h : RC b s T) (ht : isTh t) (hb : isTh b) (hne : t ≠ b) (w : Sz T) : okR (m_X6_copyFrom t b s) (fun o s' => o = .inl () ∧ RC t s' T ∧ Ow t s s') := by
  have ht1 := ht.1
  have ht2 := ht.2
  have hb1 := hb.1
  have hb2 := hb.2
  have hN := w.2.1
  refine lp_i (fun j a => a.1 = nI j ∧ (∀ r, r < j → gI a.2 (t + 64) r = nI (tC T r) ∧ gI a.2 (t + 128) r = nI (tP T r) ∧ gI a.2 (t + 192) r = bI (tK T r)) ∧ Ow t s a.2) 8 ⟨rfl, fun r hr => absurd hr (Nat.not_lt_zero _), Ow.refl⟩ (by omega) fun j a kf hj hI hkf => ?_
  obtain ⟨w2, s1⟩ := a
  obtain ⟨e1, h1, h2⟩ := hI
  dsimp only at e1 h1 h2
  subst e1
  have hB := h.ow h2 (by omega)
  by_cases q : j < 8
  · simp (disch := omega) only [m_X6_copyFrom_b2, ltI, nLe, nIb, nN, if_pos, if_neg, okR_vl, gI_o, hB.hC q, hB.hP q, hB.hK q, nar_bI, nI_add]
    refine hkf _ q ⟨rfl, fun r hr => ?_, ((h2.pI (by omega)).pI (by omega)).pI (by omega)⟩
    dsimp only
    by_cases z : r = j
    · subst z
      simp (disch := omega) only [gI_o, gI_s, and_self]
    · simp (disch := omega) only [gI_o, gI_k]
      exact h1 r (by omega)
  · have e : j = 8 := by omega
    subst e
    simp (disch := omega) only [m_X6_copyFrom_b2, ltI, nLe, Nat.le_refl, if_true]
    refine lp_i (fun j a => a.1 = nI j ∧ (∀ r, r < 8 → gI a.2 (t + 64) r = nI (tC T r) ∧ gI a.2 (t + 128) r = nI (tP T r) ∧ gI a.2 (t + 192) r = bI (tK T r)) ∧ (∀ r, r < j → gI a.2 (t + 256) r = eo (tB T r)) ∧ Ow t s a.2) 8 ⟨rfl, h1, fun r hr => absurd hr (Nat.not_lt_zero _), h2⟩ (by omega) fun j a kf hj hI hkf => ?_
    obtain ⟨w2, s2⟩ := a
    obtain ⟨e1, h3, h4, h5⟩ := hI
    dsimp only at e1 h3 h4 h5
    subst e1
    have hB := h.ow h5 (by omega)
    by_cases q : j < 8
    · simp (disch := omega) only [m_X6_copyFrom_b52, ltI, nLe, nIb, nN, if_pos, if_neg, okR_vl, hB.hB q, nI_add]
      refine hkf _ q ⟨rfl, fun r hr => ?_, fun r hr => ?_, h5.pI (by omega)⟩
      · dsimp only
        simp (disch := omega) only [gI_o]
        exact h3 r hr
      · dsimp only
        by_cases z : r = j
        · subst z; rw [gI_s]
        · rw [gI_k z]; exact h4 r (by omega)
    · have e : j = 8 := by omega
      subst e
      simp (disch := omega) only [m_X6_copyFrom_b52, ltI, nLe, Nat.le_refl, if_true]
      refine lp_i (fun j a => a.1 = nI j ∧ (∀ r, r < 8 → gI a.2 (t + 64) r = nI (tC T r) ∧ gI a.2 (t + 128) r = nI (tP T r) ∧ gI a.2 (t + 192) r = bI (tK T r) ∧ gI a.2 (t + 256) r = eo (tB T r)) ∧ (∀ k, k < j → k < tN T → gI a.2 (t + 384) k = nI (tI T k) ∧ gI a.2 (t + 448) k = nI (tW T k) ∧ gI a.2 (t + 512) k = nI (tU T k) ∧ gI a.2 (t + 576) k = eo (tH T k)) ∧ Ow t s a.2) 24 ⟨rfl, fun r hr => ⟨(h3 r hr).1, (h3 r hr).2.1, (h3 r hr).2.2, h4 r hr⟩, fun r hr => absurd hr (Nat.not_lt_zero _), h5⟩ (by omega) fun j a kf hj hI hkf => ?_
      obtain ⟨w2, s3⟩ := a
      obtain ⟨e1, h6, h7, h8⟩ := hI
      dsimp only at e1 h6 h7 h8
      subst e1
      have hB := h.ow h8 (by omega)
      by_cases q : j < 24
      · simp (disch := omega) only [m_X6_copyFrom_b78, ltI, nLe, if_neg, nI_add]
        rw [c_copySlot ht hb q q, bR_l, okR_vl]
        refine hkf _ q ⟨rfl, fun r hr => ?_, fun k hk hkN => ?_, cpS_ow ht h8⟩
        · dsimp only
          rw [cpS_o (by omega) (by omega) (by omega) (by omega), cpS_o (by omega) (by omega) (by omega) (by omega), cpS_o (by omega) (by omega) (by omega) (by omega), cpS_o (by omega) (by omega) (by omega) (by omega)]
          exact h6 r hr
        · dsimp only
          rw [cpS_I, cpS_W, cpS_U, cpS_H]
          by_cases z : k = j
          · subst z
            simp only [if_true]
            exact ⟨hB.hI hkN, hB.hW hkN, hB.hU hkN, hB.hH hkN⟩
          · simp only [z, if_false]
            exact h7 k (by omega) hkN
      · have e : j = 24 := by omega
        subst e
        simp (disch := omega) only [m_X6_copyFrom_b78, ltI, nLe, Nat.le_refl, if_true, ↓vl_i, gI_o, gJ_o, gJ_I, gI_J, hB.hR, hB.hN, hB.hX, hB.hM, hB.hV, hB.hA, hB.hL]
        rw [okR_some]
        refine ⟨rfl, ⟨⟨?_, ?_, ?_, ?_, ?_, ?_, ?_⟩, fun r hr => ?_, fun k hk => ?_⟩, ((((((h8.pI (by omega)).pI (by omega)).pI (by omega)).pI (by omega)).pI (by omega)).pJ (by omega)).pJ (by omega)⟩
        all_goals simp (disch := first | decide | omega) only [gI_o, gI_k, gI_s, gI_J, gJ_s, gJ_k]
        · exact h6 r hr
        · exact h7 k (by omega) hk
end
