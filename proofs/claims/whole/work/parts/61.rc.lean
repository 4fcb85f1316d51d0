/-! ===== the reference: chains, the loudest, places ===== -/
section
variable {s : Mem} {T : Th} {n : Nat}
theorem WT.hs0 (W : WT n T) {k : Nat} (hk : k < tN T) : hs T k = none ↔ tH T k = none := by
  cases e : tH T k with
  | none =>
    have : hs T k = none := by unfold hs; rw [e]
    exact ⟨fun _ => rfl, fun _ => this⟩
  | some d =>
    obtain ⟨j, _, _, e2⟩ := W.hsE hk e
    exact ⟨fun z => (by rw [e2] at z; cases z), fun z => (by cases z)⟩
theorem r_next (h : RF 136 0 s T) (w : Sz T) (W : WT n T) {k : Nat} (hk : k < tN T) : (tH T k = none ∧ hs T k = none ∧ m_X8_is (nI k) (nI 3) s = some (nI 0)) ∨ ∃ d j, tH T k = some d ∧ hs T k = some j ∧ j < tN T ∧ d < 1000000 ∧ tI T j = d ∧ m_X8_is (nI k) (nI 3) s = some (nI (d + 1)) ∧ m_X8_slotOf (nI (d + 1) - 1) s = some (nI j) := by
  have hX := w.2.2.1.1
  rw [r_H h w hk]
  cases e : tH T k with
  | none => exact Or.inl ⟨rfl, (W.hs0 hk).mpr e, rfl⟩
  | some d =>
    obtain ⟨j, h1, h2, h3⟩ := W.hsE hk e
    have h4 := (w.2.2.2.1 k hk).2.2.2.2 d e
    refine Or.inr ⟨d, j, rfl, h3, h1, by omega, h2, rfl, ?_⟩
    have h5 : slt T d = some j := by rw [← h2]; exact W.sltE h1
    rw [nI_pred, r_slotOf h w, slt_of w (by omega), h5]
    rfl
theorem it_s {m k j : Nat} (h : hs T (it T m k) = some j) : it T (m + 1) k = j := by
  show (match hs T (it T m k) with | some j => j | none => it T m k) = j
  rw [h]
theorem r_lastHeirOf (h : RF 136 0 s T) (w : Sz T) (W : WT n T) {k : Nat} (hk : k < tN T) : m_X8_lastHeirOf (nI k) s = some (nI (lst T k)) := by
  have hN := w.2.1
  refine lpO_d (fun m => nI (it T m k)) (fun _ => True) 24 rfl trivial (by omega) fun m hm _ kf => ?_
  have hi := it_lt (T := T) hk m
  unfold m_X8_lastHeirOf_b2
  rw [show (3 : Int32) = nI 3 from rfl]
  rcases r_next h w W hi with ⟨e1, e2, e3⟩ | ⟨d, j, e1, e2, e3, e4, _, e5, e6⟩
  · left
    rw [e3, bO_some, if_pos (show nI 0 = 0 from rfl), lst_at e2 hm]
  · right
    refine ⟨?_, trivial, ?_⟩
    · by_cases q : m < 24
      · exact q
      · have := it_stop W.ac hk (m := m) (by omega)
        rw [this] at e2; cases e2
    · rw [e5, bO_some, if_neg (show ¬ nI (d + 1) = 0 from nI_ne0 (by omega) (by omega)), bO_some, e6, bO_some, it_s e2]
theorem r_comesTo (h : RF 136 0 s T) (w : Sz T) (W : WT n T) {k x : Nat} (hk : k < tN T) (hx : x < tN T) : m_X8_comesTo (nI k) (nI x) s = some (bI (pasb T k x)) := by
  have hN := w.2.1
  refine lpO_d (fun m => nI (it T m k)) (fun m => ∀ i, i < m → it T i k ≠ x ∧ hs T (it T i k) ≠ none) 24 rfl (fun i hi => absurd hi (Nat.not_lt_zero _)) (by omega) fun m hm hI kf => ?_
  have hi := it_lt (T := T) hk m
  have hm' : m < 24 := by
    by_cases q : m < 24
    · exact q
    · exfalso
      have : m = 24 := by omega
      subst this
      exact (hI 23 (by omega)).2 (it_stop W.ac hk (by omega))
  unfold m_X8_comesTo_b2 m_X8_comesTo_j32
  rw [show (3 : Int32) = nI 3 from rfl]
  by_cases z : it T m k = x
  · left
    rw [z, if_pos rfl, if_neg (fun y => y rfl), pasb_y ⟨m, hm', z⟩]
    rfl
  · have z' : ¬ nI (it T m k) = nI x := fun y => z (by rw [nE (by omega) (by omega)] at y; exact y)
    rw [if_neg z']
    rcases r_next h w W hi with ⟨e1, e2, e3⟩ | ⟨d, j, e1, e2, e3, e4, _, e5, e6⟩
    · left
      rw [e3, bO_some, if_pos (show nI 0 = 0 from rfl), if_pos z', pasb_n (pas_no (m := m) (fun i hi => by
        by_cases y : i = m
        · subst y; exact z
        · exact (hI i (by omega)).1) (Or.inl e2))]
      rfl
    · right
      refine ⟨hm', fun i hi => ?_, ?_⟩
      · by_cases y : i = m
        · subst y; exact ⟨z, by rw [e2]; exact fun v => by cases v⟩
        · exact hI i (by omega)
      · rw [e5, bO_some, if_neg (show ¬ nI (d + 1) = 0 from nI_ne0 (by omega) (by omega)), bO_some, e6, bO_some, it_s e2]
theorem r_steps (h : RF 136 0 s T) (w : Sz T) (W : WT n T) {k : Nat} (hk : k < tN T) : lp (fun kf27 (a : Int32 × Int32) => m_X8_stepsToLastHeir_b27 s kf27 a.1 a.2) FUEL (0, nI k) = some (.inl (nI (lng T k)), s) := by
  have hN := w.2.1
  refine lp_d (fun m => (nI m, nI (it T m k))) (fun m => ∀ i, i < m → hs T (it T i k) ≠ none) 24 rfl (fun i hi => absurd hi (Nat.not_lt_zero _)) (by omega) fun m hm hI kf => ?_
  have hi := it_lt (T := T) hk m
  unfold m_X8_stepsToLastHeir_b27
  dsimp only
  rw [show (3 : Int32) = nI 3 from rfl]
  rcases r_next h w W hi with ⟨e1, e2, e3⟩ | ⟨d, j, e1, e2, e3, e4, _, e5, e6⟩
  · left
    rw [e3, bP_some, if_pos (show nI 0 = 0 from rfl), lng_at e2 hm hI]
  · right
    refine ⟨?_, fun i hi => ?_, ?_⟩
    · by_cases q : m < 24
      · exact q
      · have := it_stop W.ac hk (m := m) (by omega)
        rw [this] at e2; cases e2
    · by_cases y : i = m
      · subst y; rw [e2]; exact fun v => by cases v
      · exact hI i (by omega)
    · rw [e5, bP_some, if_neg (show ¬ nI (d + 1) = 0 from nI_ne0 (by omega) (by omega)), vl_i, bP_some, e6, bP_some, it_s e2, nI_1]
theorem r_ld33 (h : RF 136 0 s T) (w : Sz T) {p : Int32} {P : Nat → Bool} {k : Nat} (hk : k < tN T) {kf : (Int32 × Int32) → Option Int32} : m_X8_loudestIn_j33 p (eo (bst P (tU T) k)) (nI k) (if P k = true then 1 else 0) s kf = kf (eo (bst P (tU T) (k + 1)), nI (k + 1)) := by
  have hN := w.2.1
  unfold m_X8_loudestIn_j33
  rw [bst, show (2 : Int32) = nI 2 from rfl]
  by_cases q : P k = true
  · rw [if_pos q, if_neg (show ¬ (1 : Int32) = 0 by decide)]
    cases e : bst P (tU T) k with
    | none =>
      simp only [q, if_true]
      rw [if_pos (show eo none < 0 by decide), vl_i, nI_1]
      rfl
    | some b =>
      have hb := (bst_lt e).1
      have h1 := (w.2.2.2.1 b (by omega)).2.2.2.1
      have h2 := (w.2.2.2.1 k hk).2.2.2.1
      rw [show eo (some b) = nI b from rfl, if_neg (show ¬ nI b < 0 from nI_pos (by omega)), r_U h w hk, bO_some, r_U h w (show b < tN T by omega), bO_some]
      simp (disch := omega) only [nLe, vl_i, nI_1, q, true_and]
      by_cases z : tU T b < tU T k
      · rw [if_neg (by omega), if_pos z]; rfl
      · rw [if_pos (by omega), if_neg z]; rfl
  · rw [if_neg q, if_pos (show (0 : Int32) = 0 from rfl), vl_i, nI_1]
    cases e : bst P (tU T) k with
    | none => simp only [q]; rfl
    | some b => simp only [q]; rfl
theorem r_loudestIn (h : RF 136 0 s T) (w : Sz T) {r : Nat} (hr : r < 2 ^ 31) : m_X8_loudestIn (nI r) s = some (eo (ldst T r)) := by
  have hN := w.2.1
  have hR := w.1
  unfold ldst
  refine lpO_d (fun k => (eo (bst (fun k => decide (tW T k = r)) (tU T) k), nI k)) (fun _ => True) (tN T) rfl trivial (by omega) fun k hk _ kf => ?_
  by_cases q : k < tN T
  · have h1 := (w.2.2.2.1 k q).2.1
    refine Or.inr ⟨q, trivial, ?_⟩
    have e := r_ld33 h w (p := nI r) (P := fun k => decide (tW T k = r)) q (kf := kf)
    rw [← e]
    unfold m_X8_loudestIn_b4 m_X8_loudestIn_j28
    dsimp only
    rw [if_pos (show ib (1 : Int32) 135 by decide), show (1 : Int32).toNatClampNeg = 1 from rfl, h.rN, if_neg (show ¬ nI (tN T) ≤ nI k by rw [nLe (by omega) (by omega)]; omega), if_neg (show ¬ nI r < 0 from nI_pos hr), show (1 : Int32) = nI 1 from rfl, r_W h w q, bO_some]
    simp (disch := omega) only [nE]
    by_cases z : tW T k = r
    · simp only [z, not_true_eq_false, if_false, decide_true, if_true]
    · simp only [z, not_false_eq_true, if_true, decide_false, Bool.false_eq_true, if_false]
  · have e : k = tN T := by omega
    subst e
    left
    unfold m_X8_loudestIn_b4
    rw [if_pos (show ib (1 : Int32) 135 by decide), show (1 : Int32).toNatClampNeg = 1 from rfl, h.rN, if_pos (show nI (tN T) ≤ nI (tN T) by rw [nLe (by omega) (by omega)]; exact Nat.le_refl _)]
theorem r_loudestAll (h : RF 136 0 s T) (w : Sz T) : m_X8_loudestIn (-1) s = some (eo (bst (fun _ => true) (tU T) (tN T))) := by
  have hN := w.2.1
  refine lpO_d (fun k => (eo (bst (fun _ => true) (tU T) k), nI k)) (fun _ => True) (tN T) rfl trivial (by omega) fun k hk _ kf => ?_
  by_cases q : k < tN T
  · refine Or.inr ⟨q, trivial, ?_⟩
    have e := r_ld33 h w (p := -1) (P := fun _ => true) q (kf := kf)
    rw [← e]
    unfold m_X8_loudestIn_b4 m_X8_loudestIn_j28
    dsimp only
    rw [if_pos (show ib (1 : Int32) 135 by decide), show (1 : Int32).toNatClampNeg = 1 from rfl, h.rN, if_neg (show ¬ nI (tN T) ≤ nI k by rw [nLe (by omega) (by omega)]; omega), if_pos (show (-1 : Int32) < 0 by decide), if_pos rfl]
  · have e : k = tN T := by omega
    subst e
    left
    unfold m_X8_loudestIn_b4
    rw [if_pos (show ib (1 : Int32) 135 by decide), show (1 : Int32).toNatClampNeg = 1 from rfl, h.rN, if_pos (show nI (tN T) ≤ nI (tN T) by rw [nLe (by omega) (by omega)]; exact Nat.le_refl _)]
theorem r_rowFor (h : RF 136 0 s T) (w : Sz T) {r : Nat} (hr : r < tR T) : m_X8_rowFor (nI r) s = some (eo (rsp T r)) := by
  have hR := w.1
  have hN := w.2.1
  refine lpO_d (fun m => nI (m + 1)) (fun m => ∀ j, j < m + 1 → decide (1 ≤ j ∧ tK T ((r + j) % tR T) = false ∧ cnt T ((r + j) % tR T) < tC T ((r + j) % tR T)) = false) (tR T) rfl (fun j hj => by cases (show j = 0 by omega); simp) (by omega) fun m hm hI kf => ?_
  unfold m_X8_rowFor_b2
  have hg : gI s 136 (0 : Int32).toNatClampNeg = nI (tR T) := h.rR
  rw [if_pos (show ib (0 : Int32) 135 by decide), hg]
  by_cases q : m + 1 < tR T
  · have hx : (r + (m + 1)) % tR T < tR T := Nat.mod_lt _ (by omega)
    rw [if_neg (show ¬ nI (tR T) ≤ nI (m + 1) by rw [nLe (by omega) (by omega)]; omega), if_pos (show ib (0 : Int32) 135 by decide), if_pos (show ¬ nI (tR T) = 0 from nI_ne0 (by omega) (by omega)), vl_i, nI_add, pk_rem (by omega) (by omega) (by omega)]
    generalize hxx : (r + (m + 1)) % tR T = x at hx
    have hc := cnt_le24 w x
    have hcc := (w.2.2.2.2 x).1
    rw [r_isLocked h w hx, bO_some, r_countIn h w (by omega), bO_some, show (0 : Int32) = nI 0 from rfl, r_C h w hx, bO_some]
    simp (disch := omega) only [nLe, vl_i, nI_1]
    by_cases z : tK T x = false ∧ cnt T x < tC T x
    · left
      rw [z.1, if_neg (show ¬ ¬ bI false = nI 0 from fun y => y rfl), if_neg (by omega)]
      unfold rsp
      rw [fnd_some (k := m + 1) (by omega) (by simp only [decide_eq_true_eq]; rw [hxx]; exact ⟨by omega, z⟩) hI]
      simp only [Option.map_some, hxx, eo]
    · right
      refine ⟨by omega, fun j hj => ?_, ?_⟩
      · by_cases y : j = m + 1
        · subst y; simp only [decide_eq_false_iff_not, hxx]; exact fun v => z v.2
        · exact hI j (by omega)
      · cases y : tK T x with
        | false =>
          have y2 : ¬ cnt T x < tC T x := fun v => z ⟨y, v⟩
          rw [if_neg (show ¬ ¬ bI false = nI 0 from fun y => y rfl), if_pos (by omega)]
        | true => rw [if_pos (show ¬ bI true = nI 0 by decide)]
  · left
    rw [if_pos (show nI (tR T) ≤ nI (m + 1) by rw [nLe (by omega) (by omega)]; omega)]
    unfold rsp
    rw [fnd_none (fun j hj => hI j (by omega))]; rfl
theorem sub0 {p x : Int32} : p - x = 0 ↔ x = p := by
  constructor
  · intro h
    have h1 := Int32.sub_add_cancel p x
    rw [h, Int32.zero_add] at h1
    exact h1
  · rintro rfl
    exact Int32.sub_self ..
theorem sub1 {p : Int32} {a : Nat} : p - nI a + -1 = p - nI (a + 1) := by
  rw [← nI_1, Int32.sub_eq_add_neg, Int32.sub_eq_add_neg, Int32.neg_add, Int32.sub_eq_add_neg, Int32.add_assoc]
theorem r_slotAt (h : RF 136 0 s T) (w : Sz T) {r : Nat} (hr : r < 2 ^ 31) {p : Int32} : m_X8_slotAt (nI r) p s = some (eo (satp T r p)) := by
  have hN := w.2.1
  have hR := w.1
  refine lpO_d (fun k => (p - nI (pos T r k), nI k)) (fun k => ∀ j, j < k → decide (tW T j = r ∧ nI (pos T r j) = p) = false) (tN T) (by rw [show pos T r 0 = 0 from rfl, show nI 0 = 0 from rfl, Int32.sub_zero]) (fun j hj => absurd hj (Nat.not_lt_zero _)) (by omega) fun k hk hI kf => ?_
  unfold m_X8_slotAt_b5
  dsimp only
  rw [if_pos (show ib (1 : Int32) 135 by decide), show (1 : Int32).toNatClampNeg = 1 from rfl, h.rN]
  by_cases q : k < tN T
  · have h1 := (w.2.2.2.1 k q).2.1
    rw [if_neg (show ¬ nI (tN T) ≤ nI k by rw [nLe (by omega) (by omega)]; omega), show m_X8_is (nI k) 1 s = m_X8_is (nI k) (nI 1) s from rfl, r_W h w q, bO_some]
    simp (disch := omega) only [nE]
    by_cases z : tW T k = r
    · rw [if_pos z]
      by_cases y : nI (pos T r k) = p
      · left
        rw [if_neg (fun v => v (sub0.mpr y))]
        unfold satp
        rw [fnd_some q (by simp [z, y]) hI]; rfl
      · right
        refine ⟨q, fun j hj => ?_, ?_⟩
        · by_cases u : j = k
          · subst u; simp [y]
          · exact hI j (by omega)
        · rw [if_pos (fun v => y (sub0.mp v)), vl_i, vl_i, sub1, nI_1]
          unfold pos
          rw [sm, if_pos z]
    · right
      refine ⟨q, fun j hj => ?_, ?_⟩
      · by_cases u : j = k
        · subst u; simp [z]
        · exact hI j (by omega)
      · rw [if_neg z, vl_i, nI_1]
        unfold pos
        rw [sm, if_neg z]
        rfl
  · have e : k = tN T := by omega
    subst e
    left
    rw [if_pos (show nI (tN T) ≤ nI (tN T) by rw [nLe (by omega) (by omega)]; exact Nat.le_refl _)]
    unfold satp
    rw [fnd_none hI]; rfl
end
