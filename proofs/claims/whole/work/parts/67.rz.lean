/-! ===== the reference: its questions ===== -/
section
variable {s u : Mem} {T : Th} {A : Ab} {n m f : Nat} {p q : Int32} {α : Type} {L : List Nat}
theorem ml_in {v : α} (h : MK u A) (ht : gI u 8 0 = nI 0) : ml L (.inr v) A (.inl v) u := ⟨h, ht, rfl⟩
theorem MK.z (h : MK s A) : MK (pI s 8 0 0) A ∧ gI (pI s 8 0 0) 8 0 = nI 0 := ⟨h.p8 (by decide) (by decide) (by decide), gI_s⟩
theorem rowA {g : Nat → Nat ⊕ α} {F : Res α} {G : Int32 → Mem → Res α} (h : MK u A) (w : Sz (aT A)) (hL : L.getD 2 0 = 1) (hG : ∀ s, ∃ w, G 0 s = some (.inl w, s)) (H : ∀ r, r < tR (aT A) → p = nI r → okR F (ml L (g r) A)) : okR (bindP (m_X8_isRow p u) (fun v2 => if ¬ v2 = 0 then F else bindR (m_X8_fails 1 u) G)) (ml L (rowQ (aT A) p g) A) := by
  rw [r_isRow h.1 w, bP_some]
  unfold rowQ
  cases e : rwp (aT A) p with
  | none =>
    rw [if_neg (show ¬ ¬ bI (none : Option Nat).isSome = 0 from (by decide : ¬ ¬ bI false = 0))]
    exact r_fails h (by rw [hL]; rfl) hG
  | some r =>
    obtain ⟨e1, e2⟩ := rwp_lt e
    rw [if_pos bs]
    exact H r e1 e2
theorem rowB {g : Nat → Nat ⊕ α} {F : Res α} {G : Int32 → Mem → Res α} (h : MK u A) (w : Sz (aT A)) (hL : L.getD 2 0 = 1) (hG : ∀ s, ∃ w, G 0 s = some (.inl w, s)) (H : ∀ r, r < tR (aT A) → p = nI r → okR F (ml L (g r) A)) : okR (bindP (m_X8_isRow p u) (fun v2 => if v2 = 0 then bindR (m_X8_fails 1 u) G else F)) (ml L (rowQ (aT A) p g) A) := by
  have := rowA h w hL hG H
  simpa only [ite_not] using this
theorem actA {g : Nat → Nat ⊕ α} {F : Int32 → Res α} {G : Int32 → Mem → Res α} (h : MK u A) (w : Sz (aT A)) (hL : L.getD 1 0 = 1) (hG : ∀ s, ∃ w, G 0 s = some (.inl w, s)) (H : ∀ k, k < tN (aT A) → p = nI (tI (aT A) k) → sltp (aT A) p = some k → okR (F (nI k)) (ml L (g k) A)) : okR (bindP (m_X8_slotOf p u) (fun v2 => if 0 ≤ v2 then F v2 else bindR (m_X8_fails 1 u) G)) (ml L (actQ (aT A) p g) A) := by
  have hN := w.2.1
  rw [r_slotOf h.1 w, bP_some]
  unfold actQ
  cases e : sltp (aT A) p with
  | none =>
    rw [if_neg (show ¬ 0 ≤ eo none by decide)]
    exact r_fails h (by rw [hL]; rfl) hG
  | some k =>
    obtain ⟨e1, e2⟩ := sltp_lt e
    rw [if_pos (show 0 ≤ eo (some k) from nI_pos' (by omega))]
    exact H k e1 e2 e
theorem boxA {g : Nat → Nat ⊕ α} {F : Res α} {G : Int32 → Mem → Res α} (h : MK u A) (hL : L.getD 3 0 = 1) (hG : ∀ s, ∃ w, G 0 s = some (.inl w, s)) (H : ∀ b, b < 8 → p = nI (97 + b) → okR F (ml L (g b) A)) : okR (bindP (m_X8_isBox p u) (fun v2 => if ¬ v2 = 0 then F else bindR (m_X8_fails 1 u) G)) (ml L (boxQ p g) A) := by
  rw [r_isBox, bP_some]
  unfold boxQ
  cases e : bxp p with
  | none =>
    rw [if_neg (show ¬ ¬ bI (none : Option Nat).isSome = 0 from (by decide : ¬ ¬ bI false = 0))]
    exact r_fails h (by rw [hL]; rfl) hG
  | some b =>
    obtain ⟨e1, e2⟩ := bxp_lt e
    rw [if_pos bs]
    exact H b e1 e2
theorem rk1 {s : Mem} : ∃ w : Int32, (fun (v : Int32) (s : Mem) => (some (.inl v, s) : Res Int32)) 0 s = some (.inl w, s) := ⟨0, rfl⟩
theorem q_rowCount (h : MK s A) : okR (m_X8_rowCount s) (ml L (.inr (nI (tR (aT A)))) A) := by
  obtain ⟨h1, h2⟩ := h.z
  unfold m_X8_rowCount
  have hg : gI (pI s 8 0 0) 136 (0 : Int32).toNatClampNeg = nI (tR (aT A)) := h1.1.rR
  rw [okR_vl, if_pos (show ib (0 : Int32) 135 by decide), okR_some, hg]
  exact ml_in h1 h2
theorem q_echoCount (h : MK s A) : okR (m_X8_echoCount s) (ml L (.inr (nI (tN (aT A)))) A) := by
  obtain ⟨h1, h2⟩ := h.z
  unfold m_X8_echoCount
  have hg : gI (pI s 8 0 0) 136 (1 : Int32).toNatClampNeg = nI (tN (aT A)) := h1.1.rN
  rw [okR_vl, if_pos (show ib (1 : Int32) 135 by decide), okR_some, hg]
  exact ml_in h1 h2
theorem q_moveCount (h : MK s A) : okR (m_X8_moveCount s) (ml L (.inr (nI (tM (aT A)))) A) := by
  obtain ⟨h1, h2⟩ := h.z
  unfold m_X8_moveCount
  have hg : gI (pI s 8 0 0) 136 (3 : Int32).toNatClampNeg = nI (tM (aT A)) := h1.1.rM
  rw [okR_vl, if_pos (show ib (3 : Int32) 135 by decide), okR_some, hg]
  exact ml_in h1 h2
theorem q_removeCount (h : MK s A) : okR (m_X8_removeCount s) (ml L (.inr (nI (tV (aT A)))) A) := by
  obtain ⟨h1, h2⟩ := h.z
  unfold m_X8_removeCount
  have hg : gI (pI s 8 0 0) 136 (4 : Int32).toNatClampNeg = nI (tV (aT A)) := h1.1.rV
  rw [okR_vl, if_pos (show ib (4 : Int32) 135 by decide), okR_some, hg]
  exact ml_in h1 h2
theorem q_addedLoudness (h : MK s A) (w : Sz (aT A)) : okR (m_X8_addedLoudness s) (ml L (.inr (lN (tA (aT A)))) A) := by
  obtain ⟨h1, h2⟩ := h.z
  have hb := w.2.2.1.2.2.2.1
  unfold m_X8_addedLoudness
  have hg : gI (pI s 8 0 0) 136 (5 : Int32).toNatClampNeg = nI (tA (aT A)) := h1.1.rA
  rw [okR_vl, if_pos (show ib (5 : Int32) 135 by decide), okR_some, hg, nI_l (by omega)]
  exact ml_in h1 h2
theorem q_lostLoudness (h : MK s A) (w : Sz (aT A)) : okR (m_X8_lostLoudness s) (ml L (.inr (lN (tL (aT A)))) A) := by
  obtain ⟨h1, h2⟩ := h.z
  have hb := w.2.2.1.2.2.2.2
  unfold m_X8_lostLoudness
  have hg : gI (pI s 8 0 0) 136 (6 : Int32).toNatClampNeg = nI (tL (aT A)) := h1.1.rL
  rw [okR_vl, if_pos (show ib (6 : Int32) 135 by decide), okR_some, hg, nI_l (by omega)]
  exact ml_in h1 h2
theorem lall_le {T : Th} (w : Sz T) : lall T ≤ 23976 := by
  have h := sm_le (f := tU T) (n := tN T) (c := 999) (fun k hk => (w.2.2.2.1 k hk).2.2.2.1)
  have := w.2.1
  unfold lall
  omega
theorem q_activeLoudness (h : MK s A) (w : Sz (aT A)) : okR (m_X8_activeLoudness s) (ml L (.inr (lN (lall (aT A)))) A) := by
  obtain ⟨h1, h2⟩ := h.z
  have hb := lall_le w
  unfold m_X8_activeLoudness
  rw [okR_vl, r_activeSum h1.1 w, bP_some, okR_some, nI_l (by omega)]
  exact ml_in h1 h2
theorem q_isActive (h : MK s A) (w : Sz (aT A)) : okR (m_X8_isActive p s) (ml L (.inr (a_isActive (aT A) p)) A) := by
  obtain ⟨h1, h2⟩ := h.z
  have hN := w.2.1
  unfold m_X8_isActive a_isActive
  rw [okR_vl, r_slotOf h1.1 w, bP_some]
  cases e : sltp (aT A) p with
  | none =>
    rw [if_pos (show eo none < 0 by decide), okR_some]
    exact ml_in h1 h2
  | some k =>
    have := (sltp_lt e).1
    rw [if_neg (show ¬ eo (some k) < 0 from nI_pos (by omega)), okR_some]
    exact ml_in h1 h2
theorem q_capacity (h : MK s A) (w : Sz (aT A)) : okR (m_X8_capacity p s) (ml [0, 0, 1] (a_capacity (aT A) p) A) := by
  obtain ⟨h1, h2⟩ := h.z
  have hR := w.1
  unfold m_X8_capacity
  rw [okR_vl]
  refine rowB h1 w rfl (fun s => rk1) fun r hr e => ?_
  rw [e, show m_X8_of (nI r) 0 (pI s 8 0 0) = some (nI (tC (aT A) r)) from r_C h1.1 w hr, bP_some, okR_some]
  exact ml_in h1 h2
theorem q_phantoms (h : MK s A) (w : Sz (aT A)) : okR (m_X8_phantoms p s) (ml [0, 0, 1] (a_phantoms (aT A) p) A) := by
  obtain ⟨h1, h2⟩ := h.z
  have hR := w.1
  unfold m_X8_phantoms
  rw [okR_vl]
  refine rowB h1 w rfl (fun s => rk1) fun r hr e => ?_
  rw [e, show (1 : Int32) = nI 1 from rfl, r_P h1.1 w hr, bP_some, okR_some]
  exact ml_in h1 h2
theorem q_occupancy (h : MK s A) (w : Sz (aT A)) : okR (m_X8_occupancy p s) (ml [0, 0, 1] (a_occupancy (aT A) p) A) := by
  obtain ⟨h1, h2⟩ := h.z
  have hR := w.1
  unfold m_X8_occupancy
  rw [okR_vl]
  refine rowB h1 w rfl (fun s => rk1) fun r hr e => ?_
  rw [e, r_countIn h1.1 w (by omega), bP_some, okR_some]
  exact ml_in h1 h2
theorem q_freeSeats (h : MK s A) (w : Sz (aT A)) (W : WT m (aT A)) : okR (m_X8_freeSeats p s) (ml [0, 0, 1] (a_freeSeats (aT A) p) A) := by
  obtain ⟨h1, h2⟩ := h.z
  have hR := w.1
  unfold m_X8_freeSeats
  rw [okR_vl]
  refine rowB h1 w rfl (fun s => rk1) fun r hr e => ?_
  rw [e, r_roomIn h1.1 w hr (W.full hr), bP_some, okR_some]
  exact ml_in h1 h2
theorem q_rowLoudness (h : MK s A) (w : Sz (aT A)) : okR (m_X8_rowLoudness p s) (ml [0, 0, 1] (a_rowLoudness (aT A) p) A) := by
  obtain ⟨h1, h2⟩ := h.z
  have hR := w.1
  unfold m_X8_rowLoudness
  rw [okR_vl]
  refine rowB h1 w rfl (fun s => rk1) fun r hr e => ?_
  rw [e, r_loudnessIn h1.1 w (by omega), bP_some, okR_some]
  exact ml_in h1 h2
theorem fq2 {s : Mem} : ∃ w : Int32, (fun (v : Int32) (s : Mem) => (if v ≤ 0 then (some (.inl 0, s)) else (some (.inl 1, s)) : Res Int32)) 0 s = some (.inl w, s) := ⟨0, rfl⟩
theorem q_isLocked (h : MK s A) (w : Sz (aT A)) : okR (m_X8_isLocked p s) (ml [0, 0, 1] (a_isLocked (aT A) p) A) := by
  obtain ⟨h1, h2⟩ := h.z
  unfold m_X8_isLocked
  rw [okR_vl]
  refine rowA h1 w rfl (fun s => fq2) fun r hr e => ?_
  rw [e, r_isLocked h1.1 w hr, bP_some, if_pos (nar_bI _), okR_some]
  exact ml_in h1 h2
theorem q_isCrowded (h : MK s A) (w : Sz (aT A)) : okR (m_X8_isCrowded p s) (ml [0, 0, 1] (a_isCrowded (aT A) p) A) := by
  obtain ⟨h1, h2⟩ := h.z
  unfold m_X8_isCrowded
  rw [okR_vl]
  refine rowA h1 w rfl (fun s => fq2) fun r hr e => ?_
  rw [e, r_isCrowded h1.1 w hr, bP_some]
  have z : vp_nar .boolean (nI (if cnt (aT A) r ≤ tC (aT A) r then 0 else 1)) = nI (if cnt (aT A) r ≤ tC (aT A) r then 0 else 1) := by
    by_cases q : cnt (aT A) r ≤ tC (aT A) r
    · rw [if_pos q]; rfl
    · rw [if_neg q]; rfl
  rw [if_pos z, okR_some]
  exact ml_in h1 h2
theorem q_idInRow (h : MK s A) (w : Sz (aT A)) : okR (m_X8_idInRow p q s) (ml [0, 2, 1] (a_idInRow (aT A) p q) A) := by
  obtain ⟨h1, h2⟩ := h.z
  have hR := w.1
  have hN := w.2.1
  unfold m_X8_idInRow
  rw [okR_vl]
  refine rowA h1 w rfl (fun s => rk1) fun r hr e => ?_
  rw [e, r_slotAt h1.1 w (by omega), bP_some]
  cases e2 : satp (aT A) r q with
  | none =>
    rw [if_neg (show ¬ 0 ≤ eo none by decide)]
    exact r_fails h1 rfl (fun s => rk1)
  | some k =>
    have hk := (fnd_spec e2).1
    rw [if_pos (show 0 ≤ eo (some k) from nI_pos' (by omega)), show eo (some k) = nI k from rfl, show m_X8_is (nI k) 0 (pI s 8 0 0) = some (nI (tI (aT A) k)) from r_I h1.1 w hk, bP_some, okR_some]
    exact ml_in h1 h2
theorem r_bc {u : Mem} {T : Th} (h : RF 136 0 u T) (w : Sz T) {r : Nat} (hr : r < 8) : lp (fun kf23 (a : Int32 × Int32) => m_X8_boxCount_b23 (nI r) u kf23 a.1 a.2) FUEL (0, 0) = some (.inl (nI (sm (fun b => if tB T b = some r then 1 else 0) 8)), u) := by
  refine lp_d (fun k => (nI (sm (fun b => if tB T b = some r then 1 else 0) k), nI k)) (fun _ => True) 8 rfl trivial (by decide) fun k hk _ kf => ?_
  unfold m_X8_boxCount_b23
  dsimp only
  by_cases q : k < 8
  · right
    refine ⟨q, trivial, ?_⟩
    rw [if_neg (show ¬ (8 : Int32) ≤ nI k by rw [show (8 : Int32) = nI 8 from rfl, nLe (by omega) (by omega)]; omega), show (7 : Int32) = nI 7 from rfl, nI_add, if_pos (show ib (nI (7 + k)) 135 by rw [nIb (by omega)]; omega), nN (by omega), h.rB q, nI_1, sm]
    have hc : (e1 (tB T k) = nI (r + 1)) ↔ tB T k = some r := by
      cases e : tB T k with
      | none => exact ⟨fun z => by rw [show e1 none = nI 0 from rfl, nE (by omega) (by omega)] at z; omega, fun z => by cases z⟩
      | some x =>
        have := (w.2.2.2.2 k).2.2 x e
        rw [show e1 (some x) = nI (x + 1) from rfl, nE (by omega) (by omega)]
        exact ⟨fun z => by rw [show x = r by omega], fun z => by cases z; rfl⟩
    by_cases z : tB T k = some r
    · rw [if_neg (fun y => y (hc.mpr z)), if_pos z, vl_i, vl_i, nI_1, nI_1]
    · rw [if_pos (fun y => z (hc.mp y)), if_neg z, vl_i, vl_i, nI_1, Int32.add_zero]; rfl
  · left
    have e : k = 8 := by omega
    subst e
    rw [if_pos (show (8 : Int32) ≤ nI 8 by decide)]
theorem q_boxCount (h : MK s A) (w : Sz (aT A)) : okR (m_X8_boxCount p s) (ml [0, 0, 1] (a_boxCount (aT A) p) A) := by
  obtain ⟨h1, h2⟩ := h.z
  have hR := w.1
  unfold m_X8_boxCount
  rw [okR_vl]
  refine rowA h1 w rfl (fun s => rk1) fun r hr e => ?_
  rw [e, r_bc h1.1 w (by omega), okR_some]
  exact ml_in h1 h2
/-! echoes -/
theorem q_asks (h : MK s A) (w : Sz (aT A)) {a : Nat} (ha : a < 4) : okR (m_X8_asks p (nI a) s) (fun o s' => MK s' A ∧ match sltp (aT A) p with
    | none => gI s' 8 0 = nI 1 ∧ o = .inl 0
    | some k => gI s' 8 0 = nI 0 ∧ o = .inl (gI s' 136 (39 + 4 * k + a))) := by
  obtain ⟨h1, h2⟩ := h.z
  have hN := w.2.1
  unfold m_X8_asks
  rw [okR_vl, r_slotOf h1.1 w, bP_some, bP_some]
  cases e : sltp (aT A) p with
  | none =>
    rw [if_neg (show ¬ 0 ≤ eo none by decide)]
    unfold m_X8_fails
    rw [vl_i, bR_l, okR_some]
    exact ⟨h1.p8 (by decide) (by decide) (by decide), gI_s, rfl⟩
  | some k =>
    obtain ⟨e1, e2⟩ := sltp_lt e
    rw [if_pos (show 0 ≤ eo (some k) from nI_pos' (by omega)), show eo (some k) = nI k from rfl, r_is (by omega) ha, bP_some, okR_some]
    exact ⟨h1, h2, rfl⟩
theorem q_rowOf (h : MK s A) (w : Sz (aT A)) : okR (m_X8_rowOf p s) (ml [0, 1] (a_rowOf (aT A) p) A) := by
  unfold m_X8_rowOf a_rowOf actQ
  rw [bR_id]
  refine okR_mono (q_asks h w (a := 1) (by decide)) fun o s' z => ?_
  cases e : sltp (aT A) p with
  | none => rw [e] at z; exact ⟨z.1, z.2.1, _, z.2.2⟩
  | some k => rw [e] at z; exact ⟨z.1, z.2.1, by rw [z.2.2, z.1.1.rW (sltp_lt e).1]⟩
theorem q_loudness (h : MK s A) (w : Sz (aT A)) : okR (m_X8_loudness p s) (ml [0, 1] (a_loudness (aT A) p) A) := by
  unfold m_X8_loudness a_loudness actQ
  rw [bR_id]
  refine okR_mono (q_asks h w (a := 2) (by decide)) fun o s' z => ?_
  cases e : sltp (aT A) p with
  | none => rw [e] at z; exact ⟨z.1, z.2.1, _, z.2.2⟩
  | some k => rw [e] at z; exact ⟨z.1, z.2.1, by rw [z.2.2, z.1.1.rU (sltp_lt e).1]⟩
theorem q_hasHeir (h : MK s A) (w : Sz (aT A)) : okR (m_X8_hasHeir p s) (ml [0, 1] (a_hasHeir (aT A) p) A) := by
  have hX := w.2.2.1.1
  unfold m_X8_hasHeir a_hasHeir actQ
  rw [okR_bindR]
  refine okR_mono (q_asks h w (a := 3) (by decide)) fun o s' z => ?_
  cases e : sltp (aT A) p with
  | none =>
    rw [e] at z
    obtain ⟨z1, z2, rfl⟩ := z
    rw [thn_l, if_pos (show (0 : Int32) ≤ 0 by decide), okR_some]
    exact ⟨z1, z2, _, rfl⟩
  | some k =>
    rw [e] at z
    obtain ⟨z1, z2, rfl⟩ := z
    have hk := (sltp_lt e).1
    rw [thn_l, z1.1.rH hk]
    dsimp only
    cases e2 : tH (aT A) k with
    | none =>
      rw [if_pos (show e1 none ≤ 0 by decide), okR_some]
      exact ml_in z1 z2
    | some d =>
      have := (w.2.2.2.1 k hk).2.2.2.2 d e2
      rw [if_neg (show ¬ e1 (some d) ≤ 0 from nI_nle (by omega) (by omega)), okR_some]
      exact ml_in z1 z2
theorem q_heir (h : MK s A) (w : Sz (aT A)) : okR (m_X8_heir p s) (ml [0, 1, 0, 0, 2] (a_heir (aT A) p) A) := by
  have hX := w.2.2.1.1
  unfold m_X8_heir a_heir actQ
  rw [okR_bindR]
  refine okR_mono (q_asks h w (a := 3) (by decide)) fun o s' z => ?_
  cases e : sltp (aT A) p with
  | none =>
    rw [e] at z
    obtain ⟨z1, z2, rfl⟩ := z
    rw [thn_l, z2, if_neg (show ¬ nI 1 = 0 by decide), okR_some]
    exact ⟨z1, z2, _, rfl⟩
  | some k =>
    rw [e] at z
    obtain ⟨z1, z2, rfl⟩ := z
    have hk := (sltp_lt e).1
    rw [thn_l, z2, if_pos (show nI 0 = 0 from rfl), z1.1.rH hk]
    dsimp only
    cases e2 : tH (aT A) k with
    | none =>
      rw [if_neg (show ¬ ¬ e1 none = 0 by decide)]
      exact r_fails z1 rfl (fun s => rk1)
    | some d =>
      have := (w.2.2.2.1 k hk).2.2.2.2 d e2
      rw [if_pos (show ¬ e1 (some d) = 0 from nI_ne0 (by omega) (by omega)), okR_some, show e1 (some d) = nI (d + 1) from rfl, nI_pred]
      exact ml_in z1 z2
theorem q_positionInRow (h : MK s A) (w : Sz (aT A)) : okR (m_X8_positionInRow p s) (ml [0, 1] (a_positionInRow (aT A) p) A) := by
  obtain ⟨h1, h2⟩ := h.z
  unfold m_X8_positionInRow
  rw [okR_vl]
  refine actA h1 w rfl (fun s => rk1) fun k hk e e2 => ?_
  rw [r_slotOf h1.1 w, e2, bP_some, show eo (some k) = nI k from rfl]
  rw [r_positionOf h1.1 w hk, bP_some, okR_some]
  exact ml_in h1 h2
theorem q_lastHeir (h : MK s A) (w : Sz (aT A)) (W : WT m (aT A)) : okR (m_X8_lastHeir p s) (ml [0, 1] (a_lastHeir (aT A) p) A) := by
  obtain ⟨h1, h2⟩ := h.z
  unfold m_X8_lastHeir
  rw [okR_vl]
  refine actA h1 w rfl (fun s => rk1) fun k hk e e2 => ?_
  rw [r_slotOf h1.1 w, e2, bP_some, show eo (some k) = nI k from rfl]
  rw [r_lastHeirOf h1.1 w W hk, bP_some, show m_X8_is (nI (lst (aT A) k)) 0 (pI s 8 0 0) = some (nI (tI (aT A) (lst (aT A) k))) from r_I h1.1 w (it_lt hk 24), bP_some, okR_some]
  exact ml_in h1 h2
theorem q_stepsToLastHeir (h : MK s A) (w : Sz (aT A)) (W : WT m (aT A)) : okR (m_X8_stepsToLastHeir p s) (ml [0, 1] (a_stepsToLastHeir (aT A) p) A) := by
  obtain ⟨h1, h2⟩ := h.z
  unfold m_X8_stepsToLastHeir
  rw [okR_vl]
  refine actA h1 w rfl (fun s => rk1) fun k hk e e2 => ?_
  rw [r_slotOf h1.1 w, e2, bP_some, show eo (some k) = nI k from rfl]
  rw [r_steps h1.1 w W hk, okR_some]
  exact ml_in h1 h2
theorem q_rank (h : MK s A) (w : Sz (aT A)) : okR (m_X8_rank p s) (ml [0, 1] (a_rank (aT A) p) A) := by
  obtain ⟨h1, h2⟩ := h.z
  unfold m_X8_rank
  rw [okR_vl]
  refine actA h1 w rfl (fun s => rk1) fun k hk e e2 => ?_
  rw [r_slotOf h1.1 w, e2, bP_some, show eo (some k) = nI k from rfl]
  rw [r_rankOf h1.1 w hk, bP_some, okR_some]
  exact ml_in h1 h2
theorem q_lastHeirByDoubling (h : MK s A) (w : Sz (aT A)) (W : WT m (aT A)) : okR (m_X8_lastHeirByDoubling p s) (ml [0, 1] (a_lastHeir (aT A) p) A) := by
  unfold m_X8_lastHeirByDoubling
  rw [bR_id]
  exact q_lastHeir h w W
theorem r_bq {u : Mem} {T : Th} (h : RF 136 0 u T) (w : Sz T) {d : Nat} (hd : d < 1000000) : lp (fun kf23 (a : Int32 × Int32) => m_X8_bequeathers_b23 (nI d) u kf23 a.1 a.2) FUEL (0, 0) = some (.inl (nI (sm (fun j => if tH T j = some d then 1 else 0) (tN T))), u) := by
  have hN := w.2.1
  have hX := w.2.2.1.1
  have hg : gI u 136 (1 : Int32).toNatClampNeg = nI (tN T) := h.rN
  refine lp_d (fun k => (nI (sm (fun j => if tH T j = some d then 1 else 0) k), nI k)) (fun _ => True) (tN T) rfl trivial (by omega) fun k hk _ kf => ?_
  unfold m_X8_bequeathers_b23
  dsimp only
  rw [if_pos (show ib (1 : Int32) 135 by decide), hg]
  by_cases q : k < tN T
  · right
    refine ⟨q, trivial, ?_⟩
    rw [if_neg (show ¬ nI (tN T) ≤ nI k by rw [nLe (by omega) (by omega)]; omega), show (3 : Int32) = nI 3 from rfl, r_H h w q, bP_some, nI_1, sm]
    have hc : (e1 (tH T k) = nI (d + 1)) ↔ tH T k = some d := by
      cases e : tH T k with
      | none => exact ⟨fun z => by rw [show e1 none = nI 0 from rfl, nE (by omega) (by omega)] at z; omega, fun z => by cases z⟩
      | some x =>
        have := (w.2.2.2.1 k q).2.2.2.2 x e
        rw [show e1 (some x) = nI (x + 1) from rfl, nE (by omega) (by omega)]
        exact ⟨fun z => by rw [show x = d by omega], fun z => by cases z; rfl⟩
    by_cases z : tH T k = some d
    · rw [if_neg (fun y => y (hc.mpr z)), if_pos z, vl_i, vl_i, nI_1, nI_1]
    · rw [if_pos (fun y => z (hc.mp y)), if_neg z, vl_i, vl_i, nI_1, Int32.add_zero]; rfl
  · left
    have e : k = tN T := by omega
    subst e
    rw [if_pos (show nI (tN T) ≤ nI (tN T) by rw [nLe (by omega) (by omega)]; exact Nat.le_refl _)]
theorem q_bequeathers (h : MK s A) (w : Sz (aT A)) : okR (m_X8_bequeathers p s) (ml [0, 1] (a_bequeathers (aT A) p) A) := by
  obtain ⟨h1, h2⟩ := h.z
  have hX := w.2.2.1.1
  unfold m_X8_bequeathers
  rw [okR_vl]
  refine actA (F := fun _ => lp (fun kf23 a => m_X8_bequeathers_b23 p (pI s 8 0 0) kf23 a.1 a.2) FUEL (0, 0)) h1 w rfl (fun s => rk1) fun k hk e e2 => ?_
  have := (w.2.2.2.1 k hk).1
  rw [e, r_bq h1.1 w (by omega), okR_some]
  exact ml_in h1 h2
/-! ranges, ranks -/
theorem r_cir {u : Mem} {T : Th} (h : RF 136 0 u T) (w : Sz T) {a b : Nat} (hab : a ≤ b) (hb : b < tR T) : lp (fun kf43 (x : Int32 × Int32) => m_X8_countInRows_b43 (nI b) u kf43 x.1 x.2) FUEL (0, nI a) = some (.inl (nI (btw T a (b + 1))), u) := by
  have hR := w.1
  refine lp_d (fun k => (nI (sm (fun i => cnt T (a + i)) k), nI (a + k))) (fun _ => True) (b + 1 - a) rfl trivial (by omega) fun k hk _ kf => ?_
  unfold m_X8_countInRows_b43
  dsimp only
  by_cases q : k < b + 1 - a
  · right
    refine ⟨q, trivial, ?_⟩
    rw [if_neg (show ¬ nI b < nI (a + k) by rw [nL (by omega) (by omega)]; omega), r_countIn h w (by omega), bP_some, nI_add, vl_i, nI_1, vl_i, sm]
    rfl
  · left
    have e : k = b + 1 - a := by omega
    subst e
    rw [if_pos (show nI b < nI (a + (b + 1 - a)) by rw [nL (by omega) (by omega)]; omega)]
    rfl
theorem q_countInRows (h : MK s A) (w : Sz (aT A)) : okR (m_X8_countInRows p q s) (ml [0, 0, 1, 2] (a_countInRows (aT A) p q) A) := by
  obtain ⟨h1, h2⟩ := h.z
  have hR := w.1
  unfold m_X8_countInRows a_countInRows rngQ
  rw [okR_vl, r_isRow h1.1 w, bP_some, r_isRow h1.1 w, bP_some]
  cases e : rwp (aT A) p with
  | none =>
    rw [if_pos (show bI (none : Option Nat).isSome = 0 from rfl)]
    exact r_fails h1 rfl (fun s => rk1)
  | some a =>
    obtain ⟨e1, rfl⟩ := rwp_lt e
    rw [if_neg bs]
    cases e2 : rwp (aT A) q with
    | none =>
      rw [if_neg (show ¬ ¬ bI (none : Option Nat).isSome = 0 from (by decide : ¬ ¬ bI false = 0))]
      exact r_fails h1 rfl (fun s => rk1)
    | some b =>
      obtain ⟨e3, rfl⟩ := rwp_lt e2
      rw [if_pos bs]
      simp (disch := omega) only [nLe]
      by_cases z : a ≤ b
      · simp only [z, if_true]
        rw [r_cir h1.1 w z e3, okR_some]
        exact ml_in h1 h2
      · simp only [z, if_false]
        exact r_fails h1 rfl (fun s => rk1)
theorem q_countInRowsByTree (h : MK s A) (w : Sz (aT A)) : okR (m_X8_countInRowsByTree p q s) (ml [0, 0, 1, 2] (a_countInRows (aT A) p q) A) := by
  unfold m_X8_countInRowsByTree
  rw [bR_id]
  exact q_countInRows h w
theorem q_idByRank (h : MK s A) (w : Sz (aT A)) : okR (m_X8_idByRank p s) (ml [0, 1] (a_idByRank (aT A) p) A) := by
  obtain ⟨h1, h2⟩ := h.z
  have hN := w.2.1
  have hg : gI (pI s 8 0 0) 136 (1 : Int32).toNatClampNeg = nI (tN (aT A)) := h1.1.rN
  unfold m_X8_idByRank a_idByRank rkQ
  rw [okR_vl]
  refine lp_i (fun k a => a = nI k ∧ ∀ j, j < k → decide (nI (rnk (aT A) j) = p) = false) (tN (aT A)) ⟨rfl, fun j hj => absurd hj (Nat.not_lt_zero _)⟩ (by omega) fun k a kf hk hI hkf => ?_
  obtain ⟨rfl, hI⟩ := hI
  unfold m_X8_idByRank_b7
  rw [if_pos (show ib (1 : Int32) 135 by decide), hg]
  by_cases q : k < tN (aT A)
  · rw [if_neg (show ¬ nI (tN (aT A)) ≤ nI k by rw [nLe (by omega) (by omega)]; omega), r_rankOf h1.1 w q, bP_some]
    by_cases z : nI (rnk (aT A) k) = p
    · have e : rkp (aT A) p = some k := fnd_some q (by simpa using z) hI
      rw [if_neg (fun y => y z), show m_X8_is (nI k) 0 (pI s 8 0 0) = some (nI (tI (aT A) k)) from r_I h1.1 w q, bP_some, okR_some, e]
      exact ml_in h1 h2
    · rw [if_pos z, okR_vl, nI_1]
      refine hkf _ q ⟨rfl, fun j hj => ?_⟩
      by_cases y : j = k
      · subst y; simpa using z
      · exact hI j (by omega)
  · have e : k = tN (aT A) := by omega
    subst e
    have e : rkp (aT A) p = none := fnd_none hI
    rw [if_pos (show nI (tN (aT A)) ≤ nI (tN (aT A)) by rw [nLe (by omega) (by omega)]; exact Nat.le_refl _), e]
    exact r_fails h1 rfl (fun s => rk1)
theorem q_idByRankByTree (h : MK s A) (w : Sz (aT A)) : okR (m_X8_idByRankByTree p s) (ml [0, 1] (a_idByRank (aT A) p) A) := by
  unfold m_X8_idByRankByTree
  rw [bR_id]
  exact q_idByRank h w
theorem q_loudest (h : MK s A) (w : Sz (aT A)) : okR (m_X8_loudest s) (ml [0, 1] (a_loudest (aT A)) A) := by
  obtain ⟨h1, h2⟩ := h.z
  have hN := w.2.1
  unfold m_X8_loudest a_loudest
  rw [okR_vl, r_loudestAll h1.1 w, bP_some]
  cases e : bst (fun _ => true) (tU (aT A)) (tN (aT A)) with
  | none =>
    rw [if_neg (show ¬ 0 ≤ eo none by decide)]
    exact r_fails h1 rfl (fun s => rk1)
  | some k =>
    have hk := (bst_lt e).1
    rw [if_pos (show 0 ≤ eo (some k) from nI_pos' (by omega)), show eo (some k) = nI k from rfl, show m_X8_is (nI k) 0 (pI s 8 0 0) = some (nI (tI (aT A) k)) from r_I h1.1 w hk, bP_some, okR_some]
    exact ml_in h1 h2
theorem r_qt {u : Mem} {T : Th} (h : RF 136 0 u T) (w : Sz T) (h0 : 0 < tR T) : lp (fun kf24 (a : Int32 × Int32) => m_X8_quietestRow_b24 u kf24 a.1 a.2) FUEL (0, 1) = some (.inl (nI (qt T (tR T))), u) := by
  have hR := w.1
  have hg : gI u 136 (0 : Int32).toNatClampNeg = nI (tR T) := h.rR
  refine lp_d (fun k => (nI (qt T (k + 1)), nI (k + 1))) (fun _ => True) (tR T - 1) rfl trivial (by omega) fun k hk _ kf => ?_
  unfold m_X8_quietestRow_b24
  dsimp only
  rw [if_pos (show ib (0 : Int32) 135 by decide), hg]
  have hq := qt_lt T (n := k + 1) (by omega)
  by_cases q : k < tR T - 1
  · right
    refine ⟨q, trivial, ?_⟩
    have l1 := ld_le w (k + 1)
    have l2 := ld_le w (qt T (k + 1))
    rw [if_neg (show ¬ nI (tR T) ≤ nI (k + 1) by rw [nLe (by omega) (by omega)]; omega), r_loudnessIn h w (by omega), bP_some, r_loudnessIn h w (by omega), bP_some]
    simp (disch := omega) only [nLe]
    have e : qt T (k + 1 + 1) = if ld T (k + 1) < ld T (qt T (k + 1)) then k + 1 else qt T (k + 1) := by
      rw [qt, if_neg (by omega)]
    rw [e]
    by_cases z : ld T (k + 1) < ld T (qt T (k + 1))
    · rw [if_neg (by omega), if_pos z, vl_i, nI_1]
    · rw [if_pos (by omega), if_neg z, vl_i, nI_1]
  · left
    have e : k = tR T - 1 := by omega
    rw [if_pos (show nI (tR T) ≤ nI (k + 1) by rw [nLe (by omega) (by omega)]; omega), show k + 1 = tR T by omega]
theorem q_quietestRow (h : MK s A) (w : Sz (aT A)) : okR (m_X8_quietestRow s) (ml [0, 1] (a_quietestRow (aT A)) A) := by
  obtain ⟨h1, h2⟩ := h.z
  have hR := w.1
  have hg : gI (pI s 8 0 0) 136 (0 : Int32).toNatClampNeg = nI (tR (aT A)) := h1.1.rR
  unfold m_X8_quietestRow a_quietestRow
  rw [okR_vl, if_pos (show ib (0 : Int32) 135 by decide), hg]
  by_cases q : tR (aT A) = 0
  · rw [if_pos q, if_neg (show ¬ ¬ nI (tR (aT A)) = 0 from fun z => z (by rw [q]; rfl))]
    exact r_fails h1 rfl (fun s => rk1)
  · rw [if_neg q, if_pos (show ¬ nI (tR (aT A)) = 0 from nI_ne0 (by omega) (by omega)), r_qt h1.1 w (by omega), okR_some]
    exact ml_in h1 h2
/-! boxes, shares -/
theorem q_isNamed (h : MK s A) (w : Sz (aT A)) : okR (m_X8_isNamed p s) (ml [0, 0, 0, 1] (a_isNamed (aT A) p) A) := by
  obtain ⟨h1, h2⟩ := h.z
  unfold m_X8_isNamed
  rw [okR_vl]
  refine boxA h1 rfl (fun s => fq2) fun b hb e => ?_
  have ei : (7 : Int32) + p - 97 = nI (7 + b) := by
    rw [e, show (7 : Int32) = nI 7 from rfl, show (97 : Int32) = nI 97 from rfl, nI_add, nS' (by omega), show 7 + (97 + b) - 97 = 7 + b by omega]
  rw [ei, if_pos (show ib (nI (7 + b)) 135 by rw [nIb (by omega)]; omega), nN (by omega), h1.1.rB hb]
  cases e2 : tB (aT A) b with
  | none =>
    rw [if_pos (show e1 none ≤ 0 by decide), okR_some]
    exact ml_in h1 h2
  | some x =>
    have := (w.2.2.2.2 b).2.2 x e2
    rw [if_neg (show ¬ e1 (some x) ≤ 0 from nI_nle (by omega) (by omega)), okR_some]
    exact ml_in h1 h2
theorem q_namedRow (h : MK s A) (w : Sz (aT A)) : okR (m_X8_namedRow p s) (ml [0, 2, 0, 1] (a_namedRow (aT A) p) A) := by
  obtain ⟨h1, h2⟩ := h.z
  unfold m_X8_namedRow
  rw [okR_vl]
  refine boxA h1 rfl (fun s => rk1) fun b hb e => ?_
  have ei : (7 : Int32) + p - 97 = nI (7 + b) := by
    rw [e, show (7 : Int32) = nI 7 from rfl, show (97 : Int32) = nI 97 from rfl, nI_add, nS' (by omega), show 7 + (97 + b) - 97 = 7 + b by omega]
  rw [ei, if_pos (show ib (nI (7 + b)) 135 by rw [nIb (by omega)]; omega), okR_vl, nN (by omega), h1.1.rB hb]
  cases e2 : tB (aT A) b with
  | none =>
    rw [if_neg (show ¬ ¬ e1 none = 0 by decide)]
    exact r_fails h1 rfl (fun s => rk1)
  | some x =>
    have := (w.2.2.2.2 b).2.2 x e2
    rw [if_pos (show ¬ e1 (some x) = 0 from nI_ne0 (by omega) (by omega)), okR_some, show e1 (some x) = nI (x + 1) from rfl, nI_pred]
    exact ml_in h1 h2
theorem q_meanOccupancy (h : MK s A) (w : Sz (aT A)) : okR (m_X8_meanOccupancy s) (ml [0, 0, 0, 0, 0, 1] (a_meanOccupancy (aT A)) A) := by
  obtain ⟨h1, h2⟩ := h.z
  have hR := w.1
  have hN := w.2.1
  have hg : gI (pI s 8 0 0) 136 (0 : Int32).toNatClampNeg = nI (tR (aT A)) := h1.1.rR
  have hg1 : gI (pI s 8 0 0) 136 (1 : Int32).toNatClampNeg = nI (tN (aT A)) := h1.1.rN
  unfold m_X8_meanOccupancy a_meanOccupancy
  rw [okR_vl, if_pos (show ib (0 : Int32) 135 by decide), hg, hg1]
  by_cases q : tR (aT A) = 0
  · rw [if_pos q, if_neg (show ¬ ¬ nI (tR (aT A)) = 0 from fun z => z (by rw [q]; rfl))]
    exact r_fails h1 rfl (fun s => ⟨_, rfl⟩)
  · rw [if_neg q, if_pos (show ¬ nI (tR (aT A)) = 0 from nI_ne0 (by omega) (by omega)), if_pos (show ib (1 : Int32) 135 by decide), if_pos (show ib (0 : Int32) 135 by decide), if_pos (fp64 _ (by omega) _ (by omega) (by omega)), okR_some]
    exact ml_in h1 h2
theorem r_rs {u : Mem} {T : Th} (h : RF 136 0 u T) (w : Sz T) (W : WT m T) (h0 : 0 < tR T) : lp (fun kf25 (a : Int32 × Int32) => m_X8_realShare_b25 u kf25 a.1 a.2) FUEL (0, 0) = some (.inl (FP.fdiv (FP.i2f (nI (tN T))) (FP.i2f (nI (sm (tC T) (tR T))))), u) := by
  have hR := w.1
  have hN := w.2.1
  have hg : gI u 136 (0 : Int32).toNatClampNeg = nI (tR T) := h.rR
  have hg1 : gI u 136 (1 : Int32).toNatClampNeg = nI (tN T) := h.rN
  refine lp_d (fun k => (nI (sm (tC T) k), nI k)) (fun _ => True) (tR T) rfl trivial (by omega) fun k hk _ kf => ?_
  unfold m_X8_realShare_b25
  dsimp only
  rw [if_pos (show ib (0 : Int32) 135 by decide), hg, hg1]
  by_cases q : k < tR T
  · right
    refine ⟨q, trivial, ?_⟩
    rw [if_neg (show ¬ nI (tR T) ≤ nI k by rw [nLe (by omega) (by omega)]; omega), show (0 : Int32) = nI 0 from rfl, r_C h w q, bP_some, vl_i, vl_i, nI_add, nI_1, sm]
  · left
    have e : k = tR T := by omega
    subst e
    have hs := seats_pos W h0
    rw [if_pos (show nI (tR T) ≤ nI (tR T) by rw [nLe (by omega) (by omega)]; exact Nat.le_refl _), if_pos (show ib (1 : Int32) 135 by decide), if_pos (fp32 _ (by omega) _ (by omega) (by omega))]
theorem q_realShare (h : MK s A) (w : Sz (aT A)) (W : WT m (aT A)) : okR (m_X8_realShare s) (ml [0, 0, 0, 0, 0, 1] (a_realShare (aT A)) A) := by
  obtain ⟨h1, h2⟩ := h.z
  have hR := w.1
  have hg : gI (pI s 8 0 0) 136 (0 : Int32).toNatClampNeg = nI (tR (aT A)) := h1.1.rR
  unfold m_X8_realShare a_realShare
  rw [okR_vl, if_pos (show ib (0 : Int32) 135 by decide), hg]
  by_cases q : tR (aT A) = 0
  · rw [if_pos q, if_neg (show ¬ ¬ nI (tR (aT A)) = 0 from fun z => z (by rw [q]; rfl))]
    exact r_fails h1 rfl (fun s => ⟨_, rfl⟩)
  · rw [if_neg q, if_pos (show ¬ nI (tR (aT A)) = 0 from nI_ne0 (by omega) (by omega)), r_rs h1.1 w W (by omega), okR_some]
    exact ml_in h1 h2
theorem q_isConsistent (h : MK s A) (w : Sz (aT A)) (W : WT m (aT A)) : okR (m_X8_isConsistent s) (ml L (.inr (nI 1)) A) := by
  obtain ⟨h1, h2⟩ := h.z
  have hR := w.1
  have hN := w.2.1
  have hg : gI (pI s 8 0 0) 136 (0 : Int32).toNatClampNeg = nI (tR (aT A)) := h1.1.rR
  have hg5 : gI (pI s 8 0 0) 136 (5 : Int32).toNatClampNeg = nI (tA (aT A)) := h1.1.rA
  have hg6 : gI (pI s 8 0 0) 136 (6 : Int32).toNatClampNeg = nI (tL (aT A)) := h1.1.rL
  unfold m_X8_isConsistent
  rw [okR_vl]
  refine lp_i (fun k a => a = nI k) (tR (aT A)) rfl (by omega) fun k a kf hk hI hkf => ?_
  subst hI
  unfold m_X8_isConsistent_b7
  rw [if_pos (show ib (0 : Int32) 135 by decide), hg, hg5]
  by_cases q : k < tR (aT A)
  · have h3 := (w.2.2.2.2 k).1
    have h4 := (w.2.2.2.2 k).2.1
    rw [if_neg (show ¬ nI (tR (aT A)) ≤ nI k by rw [nLe (by omega) (by omega)]; omega), r_roomIn h1.1 w q (W.full q), bP_some, if_pos (show 0 ≤ nI (tC (aT A) k + tP (aT A) k - cnt (aT A) k) from nI_pos' (by omega)), okR_vl, nI_1]
    exact hkf _ q rfl
  · have e : k = tR (aT A) := by omega
    subst e
    rw [if_pos (show nI (tR (aT A)) ≤ nI (tR (aT A)) by rw [nLe (by omega) (by omega)]; exact Nat.le_refl _), if_pos (show ib (5 : Int32) 135 by decide), r_activeSum h1.1 w, bP_some, if_pos (show ib (6 : Int32) 135 by decide), hg6, nI_add, W.2.2.1.2.2.2.2, if_neg (fun z => z rfl), okR_some]
    exact ml_in h1 h2
end
