/-! ===== the reference: appending; undoing; the saved copy; what is stored ===== -/
theorem ch127 : ∀ c, c < 127 → vp_nar .char (nI c) = nI c := by decide
section
variable {s0 s s1 s2 u : Mem} {T : Th} {A : Ab} {n m f t : Nat} {p q : Int32} {x y : Tx} {L : List Nat}
theorem q_append (h : MK s A) (hx : (aI A).1 ≤ 60) : okR (m_X8_append p s) (ml [0, 0, 0, 1, 2] (apA A p).1 (apA A p).2) := by
  obtain ⟨h1, h2⟩ := h.z
  have h11 : gI (pI s 8 0 0) 8 11 = nI (aI A).1 := h1.2.2.2.2.2.2.1
  have h12 := h1.2.2.2.2.2.2.2.1
  unfold m_X8_append apA
  rw [okR_vl, h11, r_between, bP_some]
  have no : p < 32 ∨ 126 < p → fnd (fun c => decide (32 ≤ c ∧ nI c = p)) 127 = none := fun hp => fnd_none fun k hk => by
    simp only [decide_eq_false_iff_not]
    rintro ⟨z1, z2⟩
    subst z2
    rcases hp with z | z
    · rw [show (32 : Int32) = nI 32 from rfl, nL (by omega) (by decide)] at z; omega
    · rw [show (126 : Int32) = nI 126 from rfl, nL (by decide) (by omega)] at z; omega
  by_cases q : p < 32
  · have e : (decide (¬ p < 32) && decide (¬ (126 : Int32) < p)) = false := by simp [q]
    rw [e, no (Or.inl q), if_neg (show ¬ ¬ bI false = 0 by decide)]
    exact r_fails h1 rfl (fun s => rk1)
  · by_cases q2 : (126 : Int32) < p
    · have e : (decide (¬ p < 32) && decide (¬ (126 : Int32) < p)) = false := by simp [q2]
      rw [e, no (Or.inr q2), if_neg (show ¬ ¬ bI false = 0 by decide)]
      exact r_fails h1 rfl (fun s => rk1)
    · have e : (decide (¬ p < 32) && decide (¬ (126 : Int32) < p)) = true := by simp [q, q2]
      obtain ⟨c, hc0, rfl⟩ := nI_of (x := p) (fun z => q (Int32.lt_trans z (by decide)))
      have q' : 32 ≤ c := by rw [show (32 : Int32) = nI 32 from rfl, nL (by omega) (by decide)] at q; omega
      have q2' : c ≤ 126 := by rw [show (126 : Int32) = nI 126 from rfl, nL (by decide) (by omega)] at q2; omega
      have f : fnd (fun j => decide (32 ≤ j ∧ nI j = nI c)) 127 = some c := fnd_some (by omega) (by simp; exact q') fun j hj => by
        simp only [decide_eq_false_iff_not]
        rintro ⟨z1, z2⟩
        rw [nE (by omega) (by omega)] at z2
        omega
      rw [e, f, if_pos (show ¬ bI true = 0 by decide)]
      dsimp only
      by_cases z : (aI A).1 < 60
      · rw [if_pos z, if_pos (show ¬ nI (aI A).1 = 60 from fun v => by rw [show (60 : Int32) = nI 60 from rfl, nE (by omega) (by decide)] at v; omega), if_pos (show ib (nI (aI A).1) 60 by rw [nIb (by omega)]; omega), okR_vl, okR_vl, okR_some, nN (by omega), ch127 c (by omega)]
        have g : gI (pI (pI s 8 0 0) 712 (aI A).1 (nI c)) 8 11 = nI (aI A).1 := (gI_o (by decide)).trans h11
        rw [g, nI_1]
        obtain ⟨⟨a1, ⟨fi, hf, a2⟩, b1, b2, b3, b4, b5, b6, b7, b8⟩, _⟩ := h.z
        refine ⟨⟨(a1.kp fun j => gI_o (by decide)).kp fun j => gI_o (by decide), ⟨fi, hf, a2.kp (by rw [gI_k (by decide), gI_o (by decide)]) (by rw [gI_k (by decide), gI_o (by decide)]) (fun j => by rw [gI_o (by decide), gI_o (by decide)])⟩, by rw [gI_k (by decide), gI_o (by decide)]; exact b1, fun T e => (b2 T e).kp (fun j => by rw [gI_o (by decide), gI_o (by decide)]), by rw [gI_k (by decide), gI_o (by decide)]; exact b3, fun k hk => by rw [gI_o (by decide), gI_o (by decide)]; exact b4 k hk, gI_s, fun k hk => ?_, by rw [gI_k (by decide), gI_o (by decide)]; exact b7, by rw [gI_k (by decide), gI_o (by decide)]; exact b8⟩, by show gI _ 8 0 = nI 0; rw [gI_k (by decide), gI_o (by decide)]; exact h2, by show Sum.inl _ = Sum.inl _; rw [gI_s]⟩
        have hk : k < (aI A).1 + 1 := hk
        rw [gI_o (by decide)]
        show _ = nI (sb_cat (aI A).2 (aI A).1 (fun _ => c) k)
        unfold sb_cat
        by_cases v : k = (aI A).1
        · subst v; rw [gI_s, if_neg (by omega)]
        · rw [gI_k v, if_pos (by omega)]; exact b6 k (by omega)
      · rw [if_neg z, if_neg (show ¬ ¬ nI (aI A).1 = 60 from fun v => v (by rw [show (aI A).1 = 60 by omega]; rfl))]
        exact r_fails h1 rfl (fun s => rk1)
theorem q_errorPosition (h : MK s A) (hk : ∀ k, aE A = some k → k ≤ 60) : okR (m_X8_errorPosition s) (ml [0, 1] (stoQ (aE A)) A) := by
  obtain ⟨h1, h2⟩ := h.z
  have hg : gI (pI s 8 0 0) 8 13 = eo (aE A) := h1.2.2.2.2.2.2.2.2.1
  unfold m_X8_errorPosition
  rw [okR_vl, hg]
  cases e : aE A with
  | none =>
    rw [if_neg (show ¬ 0 ≤ eo none by decide)]
    exact r_fails h1 rfl (fun s => rk1)
  | some k =>
    have := hk k e
    rw [if_pos (show 0 ≤ eo (some k) from nI_pos' (by omega)), okR_some]
    exact ml_in h1 h2
theorem q_failedCommand (h : MK s A) (hk : ∀ k, aF A = some k → k ≤ 60) : okR (m_X8_failedCommand s) (ml [0, 1] (stoQ (aF A)) A) := by
  obtain ⟨h1, h2⟩ := h.z
  have hg : gI (pI s 8 0 0) 8 14 = eo (aF A) := h1.2.2.2.2.2.2.2.2.2
  unfold m_X8_failedCommand
  rw [okR_vl, hg]
  cases e : aF A with
  | none =>
    rw [if_neg (show ¬ 0 ≤ eo none by decide)]
    exact r_fails h1 rfl (fun s => rk1)
  | some k =>
    have := hk k e
    rw [if_pos (show 0 ≤ eo (some k) from nI_pos' (by omega)), okR_some]
    exact ml_in h1 h2
theorem q_undoableCount (h : MK s A) : okR (m_X8_undoableCount s) (ml L (.inr (nI (aU A))) A) := by
  obtain ⟨h1, h2⟩ := h.z
  have hg : gI (pI s 8 0 0) 8 5 = nI (aU A) := by obtain ⟨_, ⟨f, _, h3⟩, _⟩ := h1; exact h3.1
  unfold m_X8_undoableCount
  rw [okR_vl, okR_some, hg]
  exact ml_in h1 h2
theorem q_undo (h : MK s A) (hu : aU A ≤ 8) (hw : ∀ j, j < aU A → Sz (aH A j)) : okR (m_X8_undo s) (ml [0, 0, 0, 0, 1] (undA A).1 (undA A).2) := by
  obtain ⟨h1, h2⟩ := h.z
  have h0 := h1
  obtain ⟨b1, ⟨f, hf, b5, b6, b7⟩, b8⟩ := h1
  unfold m_X8_undo undA
  rw [okR_vl, b5]
  by_cases q : aU A = 0
  · rw [if_pos q, if_neg (show ¬ ¬ nI (aU A) = 0 from fun z => z (by rw [q]; rfl))]
    exact r_fails h0 rfl (fun s => rk1)
  · rw [if_neg q, if_pos (show ¬ nI (aU A) = 0 from nI_ne0 (by omega) (by omega)), okR_vl, show (1 : Int32) = nI 1 from rfl, nS' (by omega), okR_vl, gI_s, gI_k (by decide), b6, nI_add, show (8 : Int32) = nI 8 from rfl, pk_rem (by omega) (by decide) (by decide)]
    obtain ⟨t, et⟩ : ∃ t, t = (f + (aU A - 1)) % 8 := ⟨_, rfl⟩
    have ht : t < 8 := by omega
    rw [← et]
    obtain ⟨v, ev⟩ : ∃ v, v = pI (pI s 8 0 0) 8 5 (nI (aU A - 1)) := ⟨_, rfl⟩
    have hR : RF 200 (135 * t) v (aH A 0) := by
      rw [ev]
      have := b7 0 (by omega)
      rw [show (f + aU A - 1 - 0) % 8 = t by omega] at this
      exact this.kp fun j => gI_o (by decide)
    have v5 : gI v 8 5 = nI (aU A - 1) := by rw [ev, gI_s]
    have v6 : gI v 8 6 = nI f := by rw [ev, gI_k (by decide)]; exact b6
    have v0 : gI v 8 0 = nI 0 := by rw [ev, gI_k (by decide)]; exact h2
    have v8 : MR v A := by rw [ev]; exact b8.p8 (by decide)
    have v7 : ∀ j, j < aU A → RF 200 (135 * ((f + aU A - 1 - j) % 8)) v (aH A j) := fun j hj => by rw [ev]; exact (b7 j hj).kp fun j => gI_o (by decide)
    rw [show pI (pI s 8 0 0) 8 5 (nI (aU A - 1)) = v from ev.symm]
    refine lp_i (fun k a => a.1 = nI k ∧ (∀ j, j < k → gI a.2 136 j = gI v 200 (135 * t + j)) ∧ ∀ c, c ≠ 136 → ∀ j, gI a.2 c j = gI v c j) 135 ⟨rfl, fun j hj => absurd hj (Nat.not_lt_zero _), fun _ _ _ => rfl⟩ (by omega) fun k a kf hk hI hkf => ?_
    obtain ⟨w1, s1⟩ := a
    obtain ⟨e1, i1, i2⟩ := hI
    dsimp only at e1 i1 i2
    subst e1
    unfold m_X8_undo_b43
    dsimp only
    by_cases q2 : k < 135
    · rw [if_neg (show ¬ (135 : Int32) ≤ nI k by rw [show (135 : Int32) = nI 135 from rfl, nLe (by omega) (by omega)]; omega), show (135 : Int32) = nI 135 from rfl, nM, nI_add, if_pos (show ib (nI (135 * t + k)) 1080 by rw [nIb (by omega)]; omega), if_pos (show ib (nI k) 135 by rw [nIb (by omega)]; omega), okR_vl, okR_vl, nI_1, nN (by omega), nN (by omega)]
      refine hkf _ q2 ⟨rfl, fun j hj => ?_, fun c hc j => (gI_o hc).trans (i2 c hc j)⟩
      dsimp only
      by_cases z : j = k
      · subst z; rw [gI_s, i2 200 (by decide)]
      · rw [gI_k z]; exact i1 j (by omega)
    · have e : k = 135 := by omega
      subst e
      rw [if_pos (show (135 : Int32) ≤ nI 135 by decide), okR_some, i2 8 (by decide), v5]
      refine ⟨⟨hR.cp (hw 0 (by omega)) (fun j hj => by rw [Nat.zero_add]; exact i1 j hj), ⟨f, hf, (i2 8 (by decide) 5).trans v5, (i2 8 (by decide) 6).trans v6, fun j hj => ?_⟩, v8.kp fun c j hc => i2 c (mrc_o hc (by decide)) j⟩, (i2 8 (by decide) 0).trans v0, rfl⟩
      have hj : j < aU A - 1 := hj
      have z := (v7 (j + 1) (by omega)).kp (i2 200 (by decide))
      rw [show (f + aU A - 1 - (j + 1)) % 8 = (f + (aU A - 1) - 1 - j) % 8 by omega] at z
      exact z
theorem q_save (h : MK s A) (w : Sz (aT A)) : okR (m_X8_save s) (ml L (.inr (nI (tN (aT A)))) (savA A)) := by
  obtain ⟨h1, h2⟩ := h.z
  obtain ⟨b1, ⟨f, hf, b5, b6, b7⟩, c1, c2, c3, c4, c5, c6, c7, c8⟩ := h1
  unfold m_X8_save
  rw [okR_vl]
  obtain ⟨v, ev⟩ : ∃ v, v = pI s 8 0 0 := ⟨_, rfl⟩
  rw [← ev] at h2 b1 b5 b6 b7 c1 c2 c3 c4 c5 c6 c7 c8 ⊢
  refine lp_i (fun k a => a.1 = nI k ∧ (∀ j, j < k → gI a.2 264 j = gI v 136 j) ∧ ∀ c, c ≠ 264 → ∀ j, gI a.2 c j = gI v c j) 135 ⟨rfl, fun j hj => absurd hj (Nat.not_lt_zero _), fun _ _ _ => rfl⟩ (by omega) fun k a kf hk hI hkf => ?_
  obtain ⟨w1, s1⟩ := a
  obtain ⟨e1, i1, i2⟩ := hI
  dsimp only at e1 i1 i2
  subst e1
  unfold m_X8_save_b7
  dsimp only
  by_cases q2 : k < 135
  · rw [if_neg (show ¬ (135 : Int32) ≤ nI k by rw [show (135 : Int32) = nI 135 from rfl, nLe (by omega) (by omega)]; omega), if_pos (show ib (nI k) 135 by rw [nIb (by omega)]; omega), if_pos (show ib (nI k) 135 by rw [nIb (by omega)]; omega), okR_vl, okR_vl, nI_1, nN (by omega)]
    refine hkf _ q2 ⟨rfl, fun j hj => ?_, fun c hc j => (gI_o hc).trans (i2 c hc j)⟩
    dsimp only
    by_cases z : j = k
    · subst z; rw [gI_s, i2 136 (by decide)]
    · rw [gI_k z]; exact i1 j (by omega)
  · have e : k = 135 := by omega
    subst e
    have g8 : ∀ j, j ≠ 7 → gI (pI s1 8 7 1) 8 j = gI v 8 j := fun j hj => (gI_k hj).trans (i2 8 (by decide) j)
    have go : ∀ c, c ≠ 8 → c ≠ 264 → ∀ j, gI (pI s1 8 7 1) c j = gI v c j := fun c h3 h4 j => (gI_o h3).trans (i2 c h4 j)
    have r1 := b1.kp (go 136 (by decide) (by decide))
    have hg : gI (pI s1 8 7 1) 136 (1 : Int32).toNatClampNeg = nI (tN (aT A)) := r1.rN
    rw [if_pos (show (135 : Int32) ≤ nI 135 by decide), okR_vl, if_pos (show ib (1 : Int32) 135 by decide), okR_some, hg]
    refine ⟨⟨r1, ⟨f, hf, (g8 5 (by decide)).trans b5, (g8 6 (by decide)).trans b6, fun j hj => (b7 j hj).kp (go 200 (by decide) (by decide))⟩, gI_s, fun T e => ?_, (g8 9 (by decide)).trans c3, fun i hi => (go 584 (by decide) (by decide) i).trans (c4 i hi), (g8 11 (by decide)).trans c5, fun i hi => (go 712 (by decide) (by decide) i).trans (c6 i hi), (g8 13 (by decide)).trans c7, (g8 14 (by decide)).trans c8⟩, (g8 0 (by decide)).trans h2, rfl⟩
    cases e
    exact b1.cp w (fun j hj => by rw [Nat.zero_add, gI_o (by decide)]; exact i1 j hj)
theorem q_restore (h : MK s A) (hw : ∀ T, aS A = some T → Sz T) : okR (m_X8_restore s) (ml [0, 0, 0, 0, 1] (rstA A).1 (rstA A).2) := by
  obtain ⟨h1, h2⟩ := h.z
  have h0 := h1
  obtain ⟨b1, _, b8⟩ := h1
  unfold m_X8_restore rstA
  rw [okR_vl, b8.1]
  cases e : aS A with
  | none =>
    rw [if_neg (show ¬ ¬ bI (none : Option Th).isSome = 0 from (by decide : ¬ ¬ bI false = 0))]
    exact r_fails h0 rfl (fun s => rk1)
  | some T =>
    rw [if_pos bs]
    have hR : RF 264 0 (pI s 8 0 0) T := b8.2.1 T e
    obtain ⟨v, ev⟩ : ∃ v, v = pI s 8 0 0 := ⟨_, rfl⟩
    rw [← ev] at h2 b8 hR ⊢
    refine lp_i (fun k a => a.1 = nI k ∧ (∀ j, j < k → gI a.2 136 j = gI v 264 j) ∧ ∀ c, c ≠ 136 → ∀ j, gI a.2 c j = gI v c j) 135 ⟨rfl, fun j hj => absurd hj (Nat.not_lt_zero _), fun _ _ _ => rfl⟩ (by omega) fun k a kf hk hI hkf => ?_
    obtain ⟨w1, s1⟩ := a
    obtain ⟨e1, i1, i2⟩ := hI
    dsimp only at e1 i1 i2
    subst e1
    unfold m_X8_restore_b20
    dsimp only
    by_cases q2 : k < 135
    · rw [if_neg (show ¬ (135 : Int32) ≤ nI k by rw [show (135 : Int32) = nI 135 from rfl, nLe (by omega) (by omega)]; omega), if_pos (show ib (nI k) 135 by rw [nIb (by omega)]; omega), if_pos (show ib (nI k) 135 by rw [nIb (by omega)]; omega), okR_vl, okR_vl, nI_1, nN (by omega)]
      refine hkf _ q2 ⟨rfl, fun j hj => ?_, fun c hc j => (gI_o hc).trans (i2 c hc j)⟩
      dsimp only
      by_cases z : j = k
      · subst z; rw [gI_s, i2 264 (by decide)]
      · rw [gI_k z]; exact i1 j (by omega)
    · have e9 : k = 135 := by omega
      subst e9
      have r1 : RF 136 0 (pI (pI s1 8 5 0) 8 6 0) T := hR.cp (hw T e) (fun j hj => by rw [gI_o (by decide), gI_o (by decide), Nat.zero_add]; exact i1 j hj)
      have hg : gI (pI (pI s1 8 5 0) 8 6 0) 136 (1 : Int32).toNatClampNeg = nI (tN T) := r1.rN
      rw [if_pos (show (135 : Int32) ≤ nI 135 by decide), okR_vl, okR_vl, if_pos (show ib (1 : Int32) 135 by decide), okR_some, hg]
      refine ⟨⟨r1, ⟨0, by decide, ?_, gI_s, fun j hj => absurd hj (Nat.not_lt_zero _)⟩, ?_⟩, ?_, rfl⟩
      · rw [gI_k (by decide), gI_s]; rfl
      · have z : MR v (T, (0, aH A), A.2.2) := b8
        exact ((z.kp fun c j hc => i2 c (mrc_o hc (by decide)) j).p8 (by decide)).p8 (by decide)
      · rw [gI_k (by decide), gI_k (by decide), i2 8 (by decide)]; exact h2
end
