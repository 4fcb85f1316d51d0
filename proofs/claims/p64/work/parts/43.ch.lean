/-! ===== the class: the changes ===== -/
theorem bR_id {α : Type} {x : Res α} : bindR x (fun v s => some (.inl v, s)) = x := by
  cases x with
  | none => rfl
  | some o =>
    obtain ⟨o, s⟩ := o
    cases o <;> rfl
theorem nar_bI (b : Bool) : vp_nar .boolean (bI b) = bI b := by cases b <;> rfl
theorem spn_stop {T : Th} {r m : Nat} (h : sps (spn T r m).2 r = none) : ∀ j, spn T r (m + j) = spn T r m
  | 0 => rfl
  | j + 1 => by
    show (match sps (spn T r (m + j)).2 r with | none => spn T r (m + j) | some T' => ((spn T r (m + j)).1 + 1, T')) = _
    rw [spn_stop h j, h]
section
variable {t : Nat} {s : Mem} {T : Th} {n : Nat}
theorem RC.sN (h : RC t s T) (h1 : gI s (t + 384) (tN T) = nI (tI T (tN T)) ∧ gI s (t + 448) (tN T) = nI (tW T (tN T)) ∧ gI s (t + 512) (tN T) = nI (tU T (tN T)) ∧ gI s (t + 576) (tN T) = eo (tH T (tN T))) : RC t (pI s t 9 (nI (tN T + 1))) ((tR T, tN T + 1, T.1.2.2), T.2) := by
  obtain ⟨⟨a1, a2, a3, a4, a5, a6, a7⟩, b, c⟩ := h
  refine ⟨⟨(gI_k (by decide)).trans a1, gI_s, (gI_k (by decide)).trans a3, (gI_k (by decide)).trans a4, (gI_k (by decide)).trans a5, a6, a7⟩, fun r hr => ?_, fun k hk => ?_⟩
  · rw [gI_o (by omega), gI_o (by omega), gI_o (by omega), gI_o (by omega)]; exact b r hr
  · rw [gI_o (by omega), gI_o (by omega), gI_o (by omega), gI_o (by omega)]
    by_cases q : k = tN T
    · subst q; exact h1
    · exact c k (by have : k < tN T + 1 := hk; omega)
theorem RC.sNn (h : RC t s T) {n' : Nat} (hn : n' ≤ tN T) : RC t (pI s t 9 (nI n')) ((tR T, n', T.1.2.2), T.2) := by
  obtain ⟨⟨a1, a2, a3, a4, a5, a6, a7⟩, b, c⟩ := h
  refine ⟨⟨(gI_k (by decide)).trans a1, gI_s, (gI_k (by decide)).trans a3, (gI_k (by decide)).trans a4, (gI_k (by decide)).trans a5, a6, a7⟩, fun r hr => ?_, fun k hk => ?_⟩
  · rw [gI_o (by omega), gI_o (by omega), gI_o (by omega), gI_o (by omega)]; exact b r hr
  · rw [gI_o (by omega), gI_o (by omega), gI_o (by omega), gI_o (by omega)]
    exact c k (Nat.lt_of_lt_of_le hk hn)
/-- what a change comes to -/
def ch (t : Nat) (s : Mem) (v : Int32) (T' : Th) : Int32 ⊕ String → Mem → Prop := fun o s' => o = .inl v ∧ RC t s' T' ∧ Ow t s s'
theorem c_openRow (h : RC t s T) (ht : isTh t) {c : Nat} (hR : tR T < 8) : okR (m_X0_openRow t (nI c) s) (ch t s (nI (tR T)) (op0 T c)) := by
  have ht1 := ht.1
  have ht2 := ht.2
  simp (disch := omega) only [m_X0_openRow, h.hR, nIb, nN, if_pos, okR_vl, gI_o, ltI, nI_add]
  rw [okR_some]
  exact ⟨rfl, h.sC.sR, (Ow.refl.pI (by omega)).pI (by omega)⟩
theorem c_phantoms (h : RC t s T) (ht : isTh t) {r v : Nat} {d : Int32} (hr : r < 8) (hd : nI (tP T r) + d = nI v) : okR (m_X0_changePhantoms t (nI r) d s) (ch t s (nI v) (opP T r v)) := by
  have ht1 := ht.1
  have ht2 := ht.2
  simp (disch := omega) only [m_X0_changePhantoms, h.hP hr, nIb, nN, if_pos, okR_vl, hd, gI_s]
  rw [okR_some]
  exact ⟨rfl, h.sP, Ow.refl.pI (by omega)⟩
theorem c_addEcho (h : RC t s T) (w : Sz T) (ht : isTh t) {r u : Nat} (hN : tN T < 24) (hu : u < 2 ^ 31) : okR (m_X0_addEcho t (nI r) (nI u) s) (ch t s (nI (tX T)) (op3 T r u)) := by
  have ht1 := ht.1
  have ht2 := ht.2
  simp (disch := omega) only [m_X0_addEcho, h.hN, h.hX, nIb, nN, if_pos, ↓vl_i, gI_o, gI_k, gJ_I, h.hA, ltI, nI_add, nI_l, lN_add, ltm]
  rw [okR_some]
  refine ⟨rfl, ?_, (((((((Ow.refl.pI (by omega)).pI (by omega)).pI (by omega)).pI (by omega)).pI (by omega)).pI (by omega)).pJ (by omega))⟩
  have h4 := (((h.sI (k := tN T) (v := tX T)).sW (k := tN T) (v := r)).sU (k := tN T) (v := u)).sH (k := tN T) (v := none)
  have h5 := h4.sN ⟨?_, ?_, ?_, ?_⟩
  · exact (h5.sX (v := tX T + 1)).sA (v := tA T + u)
  · show gI _ (t + 384) (tN T) = nI (uf (tI T) (tN T) (tX T) (tN T))
    rw [gI_o (by omega), gI_o (by omega), gI_o (by omega), gI_s, uf_s]
  · show gI _ (t + 448) (tN T) = nI (uf (tW T) (tN T) r (tN T))
    rw [gI_o (by omega), gI_o (by omega), gI_s, uf_s]
  · show gI _ (t + 512) (tN T) = nI (uf (tU T) (tN T) u (tN T))
    rw [gI_o (by omega), gI_s, uf_s]
  · show gI _ (t + 576) (tN T) = eo (uf (tH T) (tN T) none (tN T))
    rw [gI_s, uf_s]
theorem c_moveSlot (h : RC t s T) (w : Sz T) (ht : isTh t) {k r : Nat} (hk : k < tN T) : okR (m_X0_moveSlot t (nI k) (nI r) s) (ch t s (nI (tW T k)) (op4 T k r)) := by
  have ht1 := ht.1
  have ht2 := ht.2
  have hN := w.2.1
  simp (disch := omega) only [m_X0_moveSlot, h.hW hk, nIb, nN, if_pos, ↓vl_i, gI_o, h.hM, ltI, nI_add]
  rw [okR_some]
  exact ⟨rfl, (h.sW (k := k) (v := r)).sM, (Ow.refl.pI (by omega)).pI (by omega)⟩
theorem c_replaceHeir (h : RC t s T) (w : Sz T) (ht : isTh t) {k : Nat} {v : Option Nat} (hk : k < tN T) : okR (m_X0_replaceHeir t (nI k) (eo v) s) (ch t s (eo (tH T k)) (op6 T k v)) := by
  have ht1 := ht.1
  have ht2 := ht.2
  have hN := w.2.1
  simp (disch := omega) only [m_X0_replaceHeir, h.hH hk, nIb, nN, if_pos, ↓vl_i]
  rw [okR_some]
  exact ⟨rfl, h.sH, Ow.refl.pI (by omega)⟩
theorem c_setLocked (h : RC t s T) (w : Sz T) (ht : isTh t) {r : Nat} {b : Bool} (hr : r < 8) : okR (m_X0_setLocked t (nI r) (bI b) s) (ch t s (nI (lkd (op8 T r b))) (op8 T r b)) := by
  have ht1 := ht.1
  have ht2 := ht.2
  have h2 : RC t (pI s (t + 192) r (bI b)) (op8 T r b) := h.sK
  simp (disch := omega) only [m_X0_setLocked, nIb, nN, if_pos, ↓vl_i, nar_bI]
  rw [c_lockedRows h2 w, bP_some, okR_some]
  exact ⟨rfl, h2, Ow.refl.pI (by omega)⟩
theorem c_nameByBox (h : RC t s T) (ht : isTh t) {b r : Nat} (hb : b < 8) : okR (m_X0_nameByBox t (nI b) (nI r) s) (ch t s (eo (tB T b)) (op10 T b r)) := by
  have ht1 := ht.1
  have ht2 := ht.2
  simp (disch := omega) only [m_X0_nameByBox, h.hB hb, nIb, nN, if_pos, ↓vl_i]
  rw [okR_some]
  exact ⟨rfl, h.sB (v := some r), Ow.refl.pI (by omega)⟩
theorem c_bequeath (h : RC t s T) (w : Sz T) (ht : isTh t) {k : Nat} (hk : k < tN T) : okR (m_X0_bequeath t (nI k) s) (ch t s (nI (lost T k)) (T.1, tC T, tP T, tK T, tB T, tI T, tW T, bqU T k, tH T)) := by
  have ht1 := ht.1
  have ht2 := ht.2
  have hN := w.2.1
  unfold m_X0_bequeath
  rw [c_heirSlotOf h w hk, bP_some, ltI, ltm]
  unfold lost bqU
  cases e : hs T k with
  | none =>
    simp (disch := omega) only [eo, not_true_eq_false, if_false, nIb, nN, if_pos, h.hU hk]
    rw [okR_some]
    exact ⟨rfl, h, Ow.refl⟩
  | some j =>
    have hj := (hs_lt e).1
    have h1 := (w.2.2.2.1 k hk).2.2.2.1
    have h2 := (w.2.2.2.1 j hj).2.2.2.1
    have hmin : (if nI 999 < nI (tU T j + tU T k) then nI 999 else nI (tU T j + tU T k)) = nI (min (tU T j + tU T k) 999) := by
      simp (disch := omega) only [nL]
      by_cases q : 999 < tU T j + tU T k
      · rw [if_pos q, Nat.min_eq_right (by omega)]
      · rw [if_neg q, Nat.min_eq_left (by omega)]
    simp (disch := omega) only [eo, m1_eq, not_false_eq_true, if_true, nIb, nN, if_pos, h.hU hk, h.hU hj, ↓vl_i, nI_add, ltI, hmin, gI_s]
    rw [nS' (Nat.min_le_left _ _), okR_some]
    exact ⟨rfl, h.sU, Ow.refl.pI (by omega)⟩
theorem c_passOn (h : RC t s T) (w : Sz T) (ht : isTh t) {k : Nat} (hk : k < tN T) : okR (m_X0_passOnBequeathers t (nI k) s) (fun o s' => o = .inl () ∧ RC t s' (T.1, tC T, tP T, tK T, tB T, tI T, tW T, tU T, bqH T k) ∧ Ow t s s') := by
  have ht1 := ht.1
  have ht2 := ht.2
  have hN := w.2.1
  have hX := w.2.2.1.1
  refine lp_i (fun j a => a.1 = nI j ∧ RC t a.2 (T.1, tC T, tP T, tK T, tB T, tI T, tW T, tU T, fun i => if i < j then bqH T k i else tH T i) ∧ Ow t s a.2) (tN T) ⟨rfl, h.eqH (fun i _ => if_neg (Nat.not_lt_zero _)), Ow.refl⟩ (by omega) fun j a kf hj hI hkf => ?_
  obtain ⟨w2, s1⟩ := a
  obtain ⟨e1, h1, h2⟩ := hI
  dsimp only at e1 h1 h2
  subst e1
  have g0 : gI s1 t 9 = nI (tN T) := h1.hN
  by_cases q : j < tN T
  · have g1 : gI s1 (t + 576) j = eo (tH T j) := by
      have := h1.hH (k := j) q
      rw [this]
      show eo (if j < j then _ else _) = _
      rw [if_neg (Nat.lt_irrefl _)]
    have g2 : gI s1 (t + 384) k = nI (tI T k) := h1.hI (k := k) hk
    have g3 : gI s1 (t + 576) k = eo (tH T k) := by
      have := h1.hH (k := k) hk
      rw [this]
      show eo (if k < j then bqH T k k else tH T k) = _
      unfold bqH
      by_cases z : k < j
      · rw [if_pos z]
        by_cases y : tH T k = some (tI T k)
        · rw [if_pos y]
        · rw [if_neg y]
      · rw [if_neg z]
    have hd := (w.2.2.2.1 j q).2.2.2.2
    have hi := (w.2.2.2.1 k hk).1
    have hc : ∀ d : Option Nat, d = bqH T k j → RC t (pI s1 (t + 576) j (eo d)) (T.1, tC T, tP T, tK T, tB T, tI T, tW T, tU T, fun i => if i < j + 1 then bqH T k i else tH T i) := by
      intro d hd
      refine (h1.sH (k := j) (v := d)).eqH fun i hi => ?_
      show (if i < j + 1 then bqH T k i else tH T i) = uf (fun i => if i < j then bqH T k i else tH T i) j d i
      by_cases z : i = j
      · subst z; rw [uf_s, if_pos (Nat.lt_succ_self _), hd]
      · rw [uf_k z]
        by_cases y : i < j
        · rw [if_pos (by omega), if_pos y]
        · rw [if_neg (by omega), if_neg y]
    simp (disch := omega) only [m_X0_passOnBequeathers_b2, g0, nLe, nIb, nN, if_pos, if_neg, g1, g2, g3, ↓vl_i, ltI, nI_add, eo_nI (fun x hx => show x < 2 ^ 31 by have := hd x hx; omega) (show tI T k < 2 ^ 31 by omega)]
    by_cases z : tH T j = some (tI T k)
    · rw [if_neg (fun v => v z)]
      refine hkf _ q ⟨rfl, hc _ ?_, h2.pI (by omega)⟩
      unfold bqH; rw [if_pos z]
    · rw [if_pos z]
      refine hkf _ q ⟨rfl, ?_, h2⟩
      refine h1.eqH fun i hi => ?_
      show (if i < j + 1 then bqH T k i else tH T i) = (if i < j then bqH T k i else tH T i)
      by_cases y : i = j
      · subst y
        rw [if_pos (Nat.lt_succ_self _), if_neg (Nat.lt_irrefl _)]
        unfold bqH; rw [if_neg z]
      · by_cases x : i < j
        · rw [if_pos (by omega), if_pos x]
        · rw [if_neg (by omega), if_neg x]
  · have e : j = tN T := by omega
    subst e
    simp (disch := omega) only [m_X0_passOnBequeathers_b2, g0, nLe, Nat.le_refl, if_true]
    rw [okR_some]
    refine ⟨rfl, h1.eqH fun i hi => ?_, h2⟩
    show bqH T k i = (if i < tN T then bqH T k i else tH T i)
    exact (if_pos (show i < tN T from hi)).symm
/-- a slot with the gap closed up to j -/
def gap {α : Type} (k j : Nat) (f : Nat → α) : Nat → α := fun i => if k ≤ i ∧ i < k + j then f (i + 1) else f i
theorem c_closeGap (h : RC t s T) (w : Sz T) (ht : isTh t) {k : Nat} (hk : k < tN T) : okR (m_X0_closeGap t (nI k) s) (fun o s' => o = .inl () ∧ RC t s' ((tR T, tN T - 1, T.1.2.2), tC T, tP T, tK T, tB T, del k (tI T), del k (tW T), del k (tU T), del k (tH T)) ∧ Ow t s s') := by
  have ht1 := ht.1
  have ht2 := ht.2
  have hN := w.2.1
  unfold m_X0_closeGap
  rw [h.hN, ltI, nS' (by omega), okR_vl]
  refine lp_i (fun j a => a.1 = nI (k + j) ∧ RC t a.2 ((tR T, tN T - 1, T.1.2.2), tC T, tP T, tK T, tB T, gap k j (tI T), gap k j (tW T), gap k j (tU T), gap k j (tH T)) ∧ (∀ i, k + j ≤ i → i < tN T → gI a.2 (t + 384) i = nI (tI T i) ∧ gI a.2 (t + 448) i = nI (tW T i) ∧ gI a.2 (t + 512) i = nI (tU T i) ∧ gI a.2 (t + 576) i = eo (tH T i)) ∧ Ow t s a.2) (tN T - 1 - k) ⟨rfl, ?_, ?_, Ow.refl.pI (by omega)⟩ (by omega) fun j a kf hj hI hkf => ?_
  · have h2 := h.sNn (n' := tN T - 1) (by omega)
    have e : ∀ {α : Type} (f : Nat → α), gap k 0 f = f := fun f => by
      funext i; unfold gap; rw [if_neg (by omega)]
    rw [e, e, e, e]
    exact h2
  · intro i _ hi
    dsimp only
    rw [gI_o (by omega), gI_o (by omega), gI_o (by omega), gI_o (by omega)]
    exact ⟨h.hI hi, h.hW hi, h.hU hi, h.hH hi⟩
  · obtain ⟨w2, s1⟩ := a
    obtain ⟨e1, h1, h2, h3⟩ := hI
    dsimp only at e1 h1 h2 h3
    subst e1
    have g0 : gI s1 t 9 = nI (tN T - 1) := h1.hN
    simp (disch := omega) only [m_X0_closeGap_b12, g0, nLe]
    by_cases q : k + j < tN T - 1
    · rw [if_neg (by omega), ltI, nI_add, c_copySlot ht ht (by omega) (by omega), bR_l, okR_vl]
      obtain ⟨p1, p2, p3, p4⟩ := h2 (k + j + 1) (by omega) (by omega)
      have hg : ∀ {α : Type} (f : Nat → α) (i : Nat), gap k (j + 1) f i = if i = k + j then f (k + j + 1) else gap k j f i := by
        intro α f i
        unfold gap
        by_cases z : i = k + j
        · rw [if_pos (by omega), if_pos z, z]
        · rw [if_neg z]
          by_cases y : k ≤ i ∧ i < k + j
          · rw [if_pos (by omega), if_pos y]
          · rw [if_neg (by omega), if_neg y]
      refine hkf _ (by omega) ⟨rfl, ?_, fun i hi1 hi2 => ?_, cpS_ow ht h3⟩
      · obtain ⟨⟨a1, a2, a3, a4, a5, a6, a7⟩, b, c⟩ := h1
        have oo : ∀ {e x : Nat}, e ≠ t + 384 → e ≠ t + 448 → e ≠ t + 512 → e ≠ t + 576 → gI (cpS s1 t (k + j) t (k + j + 1)) e x = gI s1 e x := fun h1 h2 h3 h4 => cpS_o h1 h2 h3 h4
        refine ⟨⟨(oo (by omega) (by omega) (by omega) (by omega)).trans a1, (oo (by omega) (by omega) (by omega) (by omega)).trans a2, (oo (by omega) (by omega) (by omega) (by omega)).trans a3, (oo (by omega) (by omega) (by omega) (by omega)).trans a4, (oo (by omega) (by omega) (by omega) (by omega)).trans a5, a6, a7⟩, fun r hr => ?_, fun i hi => ?_⟩
        · dsimp only
          rw [oo (by omega) (by omega) (by omega) (by omega), oo (by omega) (by omega) (by omega) (by omega), oo (by omega) (by omega) (by omega) (by omega), oo (by omega) (by omega) (by omega) (by omega)]
          exact b r hr
        · have hc := c i hi
          dsimp only
          rw [cpS_I, cpS_W, cpS_U, cpS_H]
          show _ = nI (gap k (j + 1) (tI T) i) ∧ _ = nI (gap k (j + 1) (tW T) i) ∧ _ = nI (gap k (j + 1) (tU T) i) ∧ _ = eo (gap k (j + 1) (tH T) i)
          rw [hg, hg, hg, hg]
          by_cases z : i = k + j
          · simp only [z, if_true]
            exact ⟨p1, p2, p3, p4⟩
          · simp only [z, if_false]
            exact hc
      · have hc := h2 i (by omega) hi2
        dsimp only
        rw [cpS_I, cpS_W, cpS_U, cpS_H, if_neg (by omega), if_neg (by omega), if_neg (by omega), if_neg (by omega)]
        exact hc
    · have e : k + j = tN T - 1 := by omega
      rw [if_pos (by omega), okR_some]
      refine ⟨rfl, ⟨h1.1, h1.2.1, fun i hi => ?_⟩, h3⟩
      have hi' : i < tN T - 1 := hi
      have hc := h1.2.2 i hi
      have hg : ∀ {α : Type} (f : Nat → α), gap k j f i = del k f i := by
        intro α f
        unfold gap del
        by_cases z : i < k
        · rw [if_neg (by omega), if_pos z]
        · rw [if_pos (by omega), if_neg z]
      have hc' : gI s1 (t + 384) i = nI (gap k j (tI T) i) ∧ gI s1 (t + 448) i = nI (gap k j (tW T) i) ∧ gI s1 (t + 512) i = nI (gap k j (tU T) i) ∧ gI s1 (t + 576) i = eo (gap k j (tH T) i) := hc
      rw [hg, hg, hg, hg] at hc'
      exact hc'
theorem c_removeSlot (h : RC t s T) (W : WT n T) (hn : n < 10000) (ht : isTh t) {k : Nat} (hk : k < tN T) : okR (m_X0_removeSlot t (nI k) s) (ch t s (nI (lost T k)) (op5 T k)) := by
  have ht1 := ht.1
  have ht2 := ht.2
  have w := W.sz (by omega)
  unfold m_X0_removeSlot
  rw [okR_bindR]
  refine okR_mono (c_bequeath h w ht hk) fun o s1 hq => ?_
  obtain ⟨rfl, h1, h2⟩ := hq
  have hl : lost T k ≤ 1998 := by
    have q1 := (w.2.2.2.1 k hk).2.2.2.1
    unfold lost
    cases e : hs T k with
    | none => show tU T k ≤ _; omega
    | some j =>
      have q2 := (w.2.2.2.1 j (hs_lt e).1).2.2.2.1
      show tU T j + tU T k - _ ≤ _; omega
  have gL : gJ s1 t 14 = lN (tL T) := h1.hL
  have gV : gI s1 t 12 = nI (tV T) := h1.hV
  rw [thn_l, okR_vl, gL, nI_l (by omega), lN_add, okR_vl, gI_J, gV, ltI, nI_add, okR_bindR]
  have h3 := (h1.sL (v := tL T + lost T k)).sV (v := tV T + 1)
  have w3 : Sz ((tR T, tN T, tX T, tM T, 0, tA T, 0), tC T, tP T, tK T, tB T, tI T, tW T, bqU T k, tH T) := by
    obtain ⟨b1, b2, ⟨b3, b4, b5, b6, b7⟩, b8, b9⟩ := w
    refine ⟨b1, b2, ⟨b3, b4, Nat.zero_le _, b6, Nat.zero_le _⟩, fun i hi => ?_, b9⟩
    obtain ⟨d1, d2, d3, d4, d5⟩ := b8 i hi
    have := bqU_rng W hk hi
    exact ⟨d1, d2, this.1, this.2, d5⟩
  have w4 : Sz ((tR T, tN T, tX T, tM T, tV T + 1, tA T, tL T + lost T k), tC T, tP T, tK T, tB T, tI T, tW T, bqU T k, tH T) := by
    obtain ⟨b1, b2, ⟨b3, b4, b5, b6, b7⟩, b8, b9⟩ := w3
    have q1 := W.2.2.1
    exact ⟨b1, b2, ⟨b3, b4, show tV T + 1 ≤ _ by omega, b6, show tL T + lost T k ≤ _ by omega⟩, b8, b9⟩
  refine okR_mono (c_passOn h3 w4 ht (k := k) hk) fun o s2 hq => ?_
  obtain ⟨rfl, h5, h6⟩ := hq
  rw [thn_l, okR_bindR]
  have w5 : Sz ((tR T, tN T, tX T, tM T, tV T + 1, tA T, tL T + lost T k), tC T, tP T, tK T, tB T, tI T, tW T, bqU T k, bqH T k) := by
    obtain ⟨b1, b2, b3, b8, b9⟩ := w4
    refine ⟨b1, b2, b3, fun i hi => ?_, b9⟩
    obtain ⟨d1, d2, d3, d4, d5⟩ := b8 i hi
    refine ⟨d1, d2, d3, d4, fun d hd => ?_⟩
    rcases bqH_old (T := T) hd with ⟨q1, _⟩ | ⟨_, q2⟩
    · exact d5 d q1
    · exact (w.2.2.2.1 k hk).2.2.2.2 d q2
  refine okR_mono (c_closeGap h5 w5 ht (k := k) hk) fun o s3 hq => ?_
  obtain ⟨rfl, h7, h8⟩ := hq
  rw [thn_l, okR_some]
  exact ⟨rfl, h7, ((h2.pJ (by omega)).pI (by omega)).trans (h6.trans h8)⟩
theorem c_spread (h : RC t s T) (W : WT n T) (hn : n < 10000) (ht : isTh t) {r : Nat} (hr : r < tR T) : okR (m_X0_spreadOut t (nI r) s) (ch t s (nI (spn T r 24).1) (spn T r 24).2) := by
  have ht1 := ht.1
  have ht2 := ht.2
  have hR8 := W.1
  refine lp_i (fun m a => a.1 = nI m ∧ (spn T r m).1 = m ∧ RC t a.2 (spn T r m).2 ∧ Ow t s a.2) 24 ⟨rfl, rfl, h, Ow.refl⟩ (by omega) fun m a kf hm hI hkf => ?_
  obtain ⟨w2, s1⟩ := a
  obtain ⟨e1, e2, h1, h2⟩ := hI
  dsimp only at e1 h1 h2
  subst e1
  simp (disch := omega) only [m_X0_spreadOut_b2, ltI, ltm, nLe]
  by_cases q : m < 24
  · rw [if_neg (by omega)]
    obtain ⟨v1, v2, v3, v4, v5, v6, v7⟩ := spn_w W (r := r) m
    have W1 : WT (n + 1) (spn T r m).2 := v1.vm (by omega) (by have := W.2.2.1.2.1; omega)
    have w1 := W1.sz (by omega)
    have hstop : sps (spn T r m).2 r = none → okR (some (.inl (nI m), s1) : Res Int32) (ch t s (nI (spn T r 24).1) (spn T r 24).2) := by
      intro e
      have e3 := spn_stop e (24 - m)
      rw [show m + (24 - m) = 24 by omega] at e3
      rw [e3, e2, okR_some]
      exact ⟨rfl, h1, h2⟩
    rw [c_overfull h1 w1 (show r < 8 by omega), bP_some]
    by_cases z : cnt (spn T r m).2 r ≤ tC (spn T r m).2 r
    · simp only [z, if_true]
      exact hstop (by unfold sps; rw [if_pos z])
    · simp only [z, if_false, n10]
      have hl : m_X6_loudestSlot t (nI r) (nI r) s1 = some (eo (ldst (spn T r m).2 r)) := c_loudestSlot h1 w1 (a := r) (b := r) (P := fun k => decide (tW (spn T r m).2 k = r)) (by omega) (by omega) (fun k _ => by
        simp only [decide_eq_decide]; omega)
      have hs := c_rowForSpreading h1 w1 (r := r) (by omega)
      rw [hl, bP_some, hs, bP_some]
      cases e3 : ldst (spn T r m).2 r with
      | none =>
        simp only [eo, if_true]
        exact hstop (by unfold sps; rw [if_neg z, e3])
      | some k =>
        obtain ⟨p1, p2⟩ := ldst_lt e3
        have hN := w1.2.1
        simp (disch := omega) only [show eo (some k) = nI k from rfl, m1_eq, if_false]
        cases e4 : rsp (spn T r m).2 r with
        | none =>
          simp only [eo, not_true_eq_false, if_false]
          exact hstop (by unfold sps; rw [if_neg z, e3, e4])
        | some x =>
          obtain ⟨p3, _⟩ := rsp_lt e4
          simp (disch := omega) only [show eo (some x) = nI x from rfl, m1_eq, not_false_eq_true, if_true]
          rw [okR_bindR]
          refine okR_mono (c_moveSlot h1 w1 ht p1) fun o s2 hq => ?_
          obtain ⟨rfl, h3, h4⟩ := hq
          rw [thn_l, okR_vl, nI_add]
          have e5 : spn T r (m + 1) = ((spn T r m).1 + 1, op4 (spn T r m).2 k x) := by
            have e6 : sps (spn T r m).2 r = some (op4 (spn T r m).2 k x) := by unfold sps; rw [if_neg z, e3, e4]
            show (match sps (spn T r m).2 r with | none => spn T r m | some T' => ((spn T r m).1 + 1, T')) = _
            rw [e6]
          refine hkf _ q ⟨rfl, by rw [e5]; show (spn T r m).1 + 1 = _; omega, by rw [e5]; exact h3, h2.trans h4⟩
  · have e : m = 24 := by omega
    subst e
    rw [if_pos (by omega), okR_some]
    exact ⟨by rw [e2], h1, h2⟩
end
