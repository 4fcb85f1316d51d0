/-! ===== the class: consistency, undoing, the saved copy, what is stored ===== -/
def popA (A : Ab) : Ab := (aH A 0, (aU A - 1, fun j => aH A (j + 1)), A.2.2)
def undA (A : Ab) : (Nat ⊕ Int32) × Ab := if aU A = 0 then (.inl 4, A) else (.inr (nI (aU A - 1)), popA A)
def savA (A : Ab) : Ab := (A.1, A.2.1, some (aT A), A.2.2.2)
def rstA (A : Ab) : (Nat ⊕ Int32) × Ab := match aS A with
  | none => (.inl 4, A)
  | some T => (.inr (nI (tN T)), (T, (0, aH A), A.2.2))
def stoQ : Option Nat → Nat ⊕ Int32
  | none => .inl 1
  | some k => .inr (nI k)
section
variable {s : Mem} {T : Th} {A : Ab} {n m t : Nat}
theorem c_lastHeirsAgree (h : RC t s T) (w : Sz T) (ha : Ac T) (ht : isTh t) : okR (m_X7_lastHeirsAgree t s) (fun o s' => o = .inl (nI 1) ∧ Ow 4 s s') := by
  have hN := w.2.1
  have ht1 := ht.1
  have ht2 := ht.2
  unfold m_X7_lastHeirsAgree
  rw [okR_bindR]
  refine okR_mono (c_heirFill h w ht) fun o s1 q => ?_
  obtain ⟨rfl, q1, q2⟩ := q
  have hC : RC t s1 T := h.ow q2 (by omega)
  rw [thn_l]
  refine okR_eq (lp_d (fun k => nI k) (fun _ => True) (tN T) rfl trivial (by omega) fun k hk _ kf => ?_) ⟨rfl, q2⟩
  by_cases z : k < tN T
  · right
    refine ⟨z, trivial, ?_⟩
    simp (disch := omega) only [m_X7_lastHeirsAgree_b10, hC.hN, nLe, if_neg]
    rw [c_lastSlotFrom hC w ha z, bP_some, c_endOfChain w ha q1 z, bP_some, if_pos rfl, vl_i, nI_1]
  · have e : k = tN T := by omega
    subst e
    left
    simp (disch := omega) only [m_X7_lastHeirsAgree_b10, hC.hN, nLe, if_pos, Nat.le_refl]
    rfl
theorem c_ranksAgree (h : RC t s T) (w : Sz T) (ht : isTh t) : okR (m_X7_ranksAgree t s) (fun o s' => o = .inl (nI 1) ∧ Ow 3 s s') := by
  have hN := w.2.1
  have ht1 := ht.1
  have ht2 := ht.2
  unfold m_X7_ranksAgree
  rw [okR_bindR]
  refine okR_mono (c_treeFill h w ht) fun o s1 q => ?_
  obtain ⟨rfl, q1, q2⟩ := q
  have hC : RC t s1 T := h.ow q2 (by omega)
  rw [thn_l]
  refine okR_eq (lp_d (fun k => nI k) (fun _ => True) (tN T) rfl trivial (by omega) fun k hk _ kf => ?_) ⟨rfl, q2⟩
  by_cases z : k < tN T
  · right
    refine ⟨z, trivial, ?_⟩
    simp (disch := omega) only [m_X7_ranksAgree_b10, hC.hN, nLe, if_neg]
    obtain ⟨a, _, a2, a3⟩ := c_idRanked hC w z
    obtain ⟨b, _, b2, b3⟩ := c_idRankedByTree hC w q1 z
    have : a = b := Option.some.inj (a2.symm.trans b2)
    subst this
    rw [a3, bP_some, b3, bP_some, if_pos rfl, vl_i, nI_1]
  · have e : k = tN T := by omega
    subst e
    left
    simp (disch := omega) only [m_X7_ranksAgree_b10, hC.hN, nLe, if_pos, Nat.le_refl]
    rfl
theorem c_rangesAgree (h : RC t s T) (w : Sz T) (ht : isTh t) : okR (m_X7_rangesAgree t s) (fun o s' => o = .inl (nI 1) ∧ Ow 3 s s') := by
  have hR := w.1
  have ht1 := ht.1
  have ht2 := ht.2
  unfold m_X7_rangesAgree
  rw [okR_bindR]
  refine okR_mono (c_treeFill h w ht) fun o s1 q => ?_
  obtain ⟨rfl, q1, q2⟩ := q
  have hC : RC t s1 T := h.ow q2 (by omega)
  rw [thn_l]
  refine lp_i (fun k a => a = nI k) (tR T) rfl (by omega) fun a x kf ha hx hkf => ?_
  subst hx
  by_cases z : a < tR T
  · simp (disch := omega) only [m_X7_rangesAgree_b10, hC.hR, nLe, if_neg]
    refine lp_i (fun k x => x = nI (a + k)) (tR T - a) rfl (by omega) fun b x kf2 hb hx hkf2 => ?_
    subst hx
    by_cases y : a + b < tR T
    · simp (disch := omega) only [m_X7_rangesAgree_b20, hC.hR, nLe, if_neg]
      rw [c_echoesBetween hC w (by omega) (by omega), bP_some, c_sumBetween q1 (by omega) (by omega), bP_some, sm_btw _ (by omega), if_pos rfl, vl_i, nI_1]
      exact hkf2 _ (by omega) rfl
    · simp (disch := omega) only [m_X7_rangesAgree_b20, hC.hR, nLe, if_pos]
      rw [vl_i, nI_1]
      exact hkf _ z rfl
  · have e : a = tR T := by omega
    subst e
    simp (disch := omega) only [m_X7_rangesAgree_b10, hC.hR, nLe, if_pos, Nat.le_refl]
    exact okR_some.mpr ⟨rfl, q2⟩
theorem k_isConsistent (h : CK s A) (w : Sz (aT A)) (W : WT m (aT A)) : okR (m_X7_isConsistent s) (cl s (.inr (nI 1)) A) := presq h fun n hn hH => by
  have ht := th12 hn
  rw [okR_bindR]
  refine okR_mono (c_lastHeirsAgree hH.2.2.1 w W.ac ht) fun o s1 q => ?_
  obtain ⟨rfl, q1⟩ := q
  have h1 : RC (12 + n) s1 (aT A) := hH.2.2.1.ow q1 (by omega)
  rw [thn_l, if_neg (show ¬ nI 1 = 0 by decide), okR_bindR]
  refine okR_mono (c_ranksAgree h1 w ht) fun o s2 q => ?_
  obtain ⟨rfl, q2⟩ := q
  have h2 : RC (12 + n) s2 (aT A) := h1.ow q2 (by omega)
  rw [thn_l, if_neg (show ¬ nI 1 = 0 by decide), okR_bindR]
  refine okR_mono (c_rangesAgree h2 w ht) fun o s3 q => ?_
  obtain ⟨rfl, q3⟩ := q
  have h3 : RC (12 + n) s3 (aT A) := h2.ow q3 (by omega)
  rw [thn_l, if_neg (show ¬ nI 1 = 0 by decide), c_seatsSuffice h3 w (fun r hr => W.full hr), bP_some, if_neg (show ¬ nI 1 = 0 by decide), c_loudnessOfAll h3 w, bP_some, h3.hA, h3.hL, lN_add, if_neg]
  · refine okR_some.mpr ⟨rfl, h.kp (((Kp.ow q1 (by decide)).trans (Kp.ow q2 (by decide))).trans (Kp.ow q3 (by decide))), ?_⟩
    exact (((Ku.ow q1 (by decide)).trans (Ku.ow q2 (by decide))).trans (Ku.ow q3 (by decide))).up (by decide)
  · rw [lg_cmp_eq, W.2.2.1.2.2.2.2]
    exact fun z => z rfl
theorem k_undoableCount (h : CK s A) : m_X7_undoableCount s = some (nI (aU A)) := by
  obtain ⟨⟨n, hn, hH⟩, _⟩ := h
  unfold m_X7_undoableCount
  rw [hH.2.1]
theorem c_stepBack (h : gI s 1 1 = nI n) (hn : n < 10) {u : Nat} (h2 : gI s 1 2 = nI u) (hu : 1 ≤ u) : m_X3_stepBack s = some (.inl (), pI (pI s 1 1 (nI ((n + 9) % 10))) 1 2 (nI (u - 1))) := by
  unfold m_X3_stepBack m_X3_stepBack_j19
  rw [h]
  by_cases q : n = 0
  · subst q
    rw [if_neg (fun z => z rfl)]
    simp (disch := omega) only [↓vl_i, gI_k, h2, ltI, nS']
  · rw [if_pos (show ¬ nI n = 0 from fun z => q (by rw [show (0 : Int32) = nI 0 from rfl, nE (by omega) (by decide)] at z; exact z)), show (n + 9) % 10 = n - 1 by omega]
    simp (disch := omega) only [↓vl_i, gI_k, h2, ltI, nS']
theorem k_undo (h : CK s A) (hu : aU A ≤ 8) : okR (m_X7_undo s) (cl s (undA A).1 (undA A).2) := by
  have h0 := h
  obtain ⟨⟨n, hn, hH⟩, hR⟩ := h
  unfold m_X7_undo undA
  rw [hH.2.1]
  by_cases q : aU A = 0
  · rw [if_pos q, q]
    exact okR_some.mpr (cl_tr h0)
  · rw [if_neg q, if_pos (show ¬ nI (aU A) = 0 from fun z => q (by rw [show (0 : Int32) = nI 0 from rfl, nE (by omega) (by decide)] at z; exact z)), c_stepBack hH.1 hn hH.2.1 (by omega), bR_l, okR_some, gI_s]
    have o1 : Ow 1 s (pI (pI s 1 1 (nI ((n + 9) % 10))) 1 2 (nI (aU A - 1))) := (Ow.refl.pI (by decide)).pI (by decide)
    refine ⟨rfl, ⟨⟨(n + 9) % 10, by omega, ?_, gI_s, ?_, fun j hj => ?_⟩, (hR.ow o1 (by decide) (by decide))⟩, (Ku.ow o1 (by decide)).up (by decide)⟩
    · rw [gI_k (by decide), gI_s]
    · have z := (hH.2.2.2 0 (by omega)).ow o1 (by omega)
      rw [show (n + 9 - 0) % 10 = (n + 9) % 10 from rfl] at z
      exact z
    · have hj : j < aU A - 1 := hj
      have z := (hH.2.2.2 (j + 1) (by omega)).ow o1 (by omega)
      rw [show (n + 9 - (j + 1)) % 10 = ((n + 9) % 10 + 9 - j) % 10 by omega] at z
      exact z
theorem k_save (h : CK s A) (w : Sz (aT A)) : okR (m_X7_save s) (cl s (.inr (nI (tN (aT A)))) (savA A)) := by
  obtain ⟨⟨n, hn, hH⟩, b1, b2, b3, b4, b5, b6⟩ := h
  unfold m_X7_save
  rw [c_present hH hn, bP_some, if_pos (th12 hn), okR_bindR]
  refine okR_mono (c_copyFrom hH.2.2.1 ⟨by decide, by decide⟩ (th12 hn) (by omega) w) fun o s1 q => ?_
  obtain ⟨rfl, q1, q2⟩ := q
  have o1 : Ow 0 s1 (pI s1 0 7 1) := Ow.refl.pI (by decide)
  have q3 := q1.ow o1 (by decide)
  rw [thn_l, okR_vl, okR_some, q3.hN]
  refine ⟨rfl, ⟨⟨n, hn, (o1.gI (by decide) 1).trans ((q2.gI (by decide) 1).trans hH.1), (o1.gI (by decide) 2).trans ((q2.gI (by decide) 2).trans hH.2.1), (hH.2.2.1.ow q2 (by omega)).ow o1 (by omega), fun j hj => ((hH.2.2.2 j hj).ow q2 (by omega)).ow o1 (by omega)⟩, gI_s, fun T e => ?_, ?_, ?_, ?_, ?_⟩, ((Ku.ow q2 (by decide)).trans (Ku.ow o1 (by decide))).up (by decide)⟩
  · cases e; exact q3
  · rw [gI_k (by decide)]; exact (q2.gI (by decide) 8).trans b3
  · rw [gI_k (by decide)]; exact (q2.gI (by decide) 9).trans b4
  · exact (b5.kp q2.gB).kp o1.gB
  · exact (b6.kp q2.gB).kp o1.gB
theorem k_restore (h : CK s A) (w : ∀ T, aS A = some T → Sz T) : okR (m_X7_restore s) (cl s (rstA A).1 (rstA A).2) := by
  have h0 := h
  obtain ⟨⟨n, hn, hH⟩, hR⟩ := h
  unfold m_X7_restore rstA
  rw [hR.1]
  cases e : aS A with
  | none => exact okR_some.mpr (cl_tr h0)
  | some T =>
    have hT := hR.2.1 T e
    rw [show bI (some T).isSome = nI 1 from rfl, if_pos (show ¬ nI 1 = 0 by decide)]
    unfold m_X3_startAgainFrom
    rw [hH.1]
    simp (disch := omega) only [nIb, nN, if_pos, arf65]
    rw [okR_bindR, okR_bindR]
    refine okR_mono (c_copyFrom hT (th12 hn) ⟨by decide, by decide⟩ (by omega) (w T e)) fun o s1 q => ?_
    obtain ⟨rfl, q1, q2⟩ := q
    have o1 : Ow 1 s1 (pI s1 1 2 0) := Ow.refl.pI (by decide)
    have hR' : CR (pI s1 1 2 0) A := (hR.ow q2 (by omega) (by omega)).ow o1 (by decide) (by decide)
    rw [thn_l, okR_vl, okR_some, thn_l, okR_some, (hR'.2.1 T e).hN]
    refine ⟨rfl, ⟨⟨n, hn, ?_, gI_s, q1.ow o1 (by omega), fun j hj => absurd hj (Nat.not_lt_zero _)⟩, hR'⟩, ((Ku.ow q2 (by omega)).trans (Ku.ow o1 (by decide))).up (by decide)⟩
    rw [gI_k (by decide)]; exact (q2.gI (by omega) 1).trans hH.1
end
