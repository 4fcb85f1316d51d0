/-! ===== the class: chains, the loudest, the quietest, ranks ===== -/
section
variable {t : Nat} {s : Mem} {T : Th}
theorem c_lastSlotFrom (h : RC t s T) (w : Sz T) (ha : Ac T) {k : Nat} (hk : k < tN T) : m_X6_lastSlotFrom t (nI k) s = some (nI (lst T k)) := by
  have hN := w.2.1
  unfold m_X6_lastSlotFrom
  rw [c_heirSlotOf h w hk, bO_some]
  refine lpO_d (fun m => (nI (it T m k), eo (hs T (it T m k)), nI m)) (fun _ => True) 24 rfl trivial (by omega) fun m hm _ kf => ?_
  simp (disch := omega) only [m_X6_lastSlotFrom_b11, ltI, ltm, nLe, eo_m1 (hs_sz w _)]
  by_cases q : m < 24
  · rw [if_neg (by omega)]
    cases e : hs T (it T m k) with
    | none => left; rw [if_pos rfl, lst_at e (by omega)]
    | some j =>
      right
      refine ⟨q, trivial, ?_⟩
      have hj := (hs_lt e).1
      have e2 : it T (m + 1) k = j := by
        show (match hs T (it T m k) with | some j => j | none => it T m k) = j
        rw [e]
      rw [if_neg (fun z => by cases z)]
      simp only [eo, c_heirSlotOf h w hj, bO_some, vl_i, nI_add, e2]
  · left
    rw [if_pos (by omega)]
    have e3 : m = 24 := by omega
    subst e3
    rfl
theorem c_chainLengthFrom (h : RC t s T) (w : Sz T) (ha : Ac T) {k : Nat} (hk : k < tN T) : m_X6_chainLengthFrom t (nI k) s = some (nI (lng T k)) := by
  have hN := w.2.1
  unfold m_X6_chainLengthFrom
  rw [c_heirSlotOf h w hk, bO_some]
  refine lpO_d (fun m => (nI m, eo (hs T (it T m k)))) (fun m => ∀ i, i < m → hs T (it T i k) ≠ none) 24 rfl (fun i hi => absurd hi (Nat.not_lt_zero _)) (by omega) fun m hm hI kf => ?_
  simp (disch := omega) only [m_X6_chainLengthFrom_b8, ltI, ltm, nLe, eo_m1 (hs_sz w _)]
  by_cases q : m < 24
  · rw [if_neg (by omega)]
    cases e : hs T (it T m k) with
    | none => left; rw [if_pos rfl, lng_at e (by omega) hI]
    | some j =>
      right
      have hj := (hs_lt e).1
      have e2 : it T (m + 1) k = j := by
        show (match hs T (it T m k) with | some j => j | none => it T m k) = j
        rw [e]
      refine ⟨q, fun i hi => ?_, ?_⟩
      · by_cases z : i = m
        · subst z; rw [e]; exact fun y => by cases y
        · exact hI i (by omega)
      · rw [if_neg (fun z => by cases z)]
        simp only [eo, c_heirSlotOf h w hj, bO_some, vl_i, nI_add, e2]
  · exfalso
    have e3 : m = 24 := by omega
    subst e3
    exact hI 23 (by omega) (it_stop ha hk (by omega))
theorem pas_no {T : Th} {k x m : Nat} (h : ∀ i, i ≤ m → it T i k ≠ x) (he : hs T (it T m k) = none ∨ 23 ≤ m) : ¬ pas T k x := by
  rintro ⟨i, hi, q⟩
  by_cases z : i ≤ m
  · exact h i z q
  · rcases he with he | he
    · have h1 := it_end he (i - m)
      rw [show m + (i - m) = i by omega] at h1
      exact h m (Nat.le_refl _) (h1.symm.trans q)
    · omega
/-- what stands at hand after m steps of a search along a chain -/
def cps (T : Th) (k : Nat) : Nat → Int32
  | 0 => nI k
  | m + 1 => eo (hs T (it T m k))
theorem c_chainPasses (h : RC t s T) (w : Sz T) {k x : Nat} (hk : k < tN T) (hx : x < tN T) : (pas T k x → m_X6_chainPasses t (nI k) (nI x) s = some (nI 1)) ∧ (¬ pas T k x → m_X6_chainPasses t (nI k) (nI x) s = some (nI 0)) := by
  have hN := w.2.1
  have key : ∀ v : Int32, (pas T k x → v = nI 1) → (¬ pas T k x → v = nI 0) → m_X6_chainPasses t (nI k) (nI x) s = some v := by
    intro v h1 h2
    refine lpO_d (fun m => (cps T k m, nI m)) (fun m => ∀ i, i < m → it T i k ≠ x) 24 rfl (fun i hi => absurd hi (Nat.not_lt_zero _)) (by omega) fun m hm hI kf => ?_
    simp (disch := omega) only [m_X6_chainPasses_b5, ltI, ltm, nLe]
    by_cases q : m < 24
    · rw [if_neg (by omega)]
      have key2 : ∀ j, cps T k m = nI j → j < tN T → it T m k = j → (if cps T k m = m1 then some (nI 0) else if ¬ cps T k m = nI x then bindO (m_X6_heirSlotOf t (cps T k m) s) fun v3 => vl (nI m + nI 1) fun y4 => kf (v3, y4) else some (nI 1)) = some v ∨ (m < 24 ∧ (∀ i, i < m + 1 → it T i k ≠ x) ∧ (if cps T k m = m1 then some (nI 0) else if ¬ cps T k m = nI x then bindO (m_X6_heirSlotOf t (cps T k m) s) fun v3 => vl (nI m + nI 1) fun y4 => kf (v3, y4) else some (nI 1)) = kf (cps T k (m + 1), nI (m + 1))) := by
        intro j hj hjN e
        rw [hj]
        simp (disch := omega) only [m1_eq, if_false, nE]
        by_cases z : j = x
        · left
          rw [if_neg (fun y => y z), h1 ⟨m, q, e.trans z⟩]
        · right
          refine ⟨q, fun i hi => ?_, ?_⟩
          · by_cases y : i = m
            · subst y; rw [e]; exact z
            · exact hI i (by omega)
          · rw [if_pos z, c_heirSlotOf h w hjN, bO_some, vl_i, nI_add, cps, e]
      cases m with
      | zero => exact key2 k rfl hk rfl
      | succ m =>
        cases e : hs T (it T m k) with
        | none =>
          left
          have e0 : cps T k (m + 1) = m1 := by rw [cps, e]; rfl
          simp only [e0, if_true]
          rw [h2 (pas_no (m := m) (fun i hi => hI i (by omega)) (Or.inl e))]
        | some j =>
          have hj := (hs_lt e).1
          have e2 : it T (m + 1) k = j := by
            show (match hs T (it T m k) with | some j => j | none => it T m k) = j
            rw [e]
          exact key2 j (by rw [cps, e]; rfl) hj e2
    · left
      have e3 : m = 24 := by omega
      rw [if_pos (by omega), h2 (pas_no (m := 23) (fun i hi => hI i (by omega)) (Or.inr (Nat.le_refl _)))]
  exact ⟨fun z => key _ (fun _ => rfl) (fun y => absurd z y), fun z => key _ (fun y => absurd y z) (fun _ => rfl)⟩
/-- the greatest so far -/
def bmx (P : Nat → Bool) (f : Nat → Nat) (n : Nat) : Nat := match bst P f n with
  | none => 0
  | some b => f b
theorem c_loudestSlot (h : RC t s T) (w : Sz T) {a b : Nat} (ha : a < 2 ^ 31) (hb : b < 2 ^ 31) {P : Nat → Bool} (hP : ∀ k, k < tN T → P k = decide (a ≤ tW T k ∧ tW T k ≤ b)) : m_X6_loudestSlot t (nI a) (nI b) s = some (eo (bst P (tU T) (tN T))) := by
  have hN := w.2.1
  have hR := w.1
  refine lpO_d (fun k => (eo (bst P (tU T) k), nI (bmx P (tU T) k), nI k)) (fun _ => True) (tN T) rfl trivial (by omega) fun k hk _ kf => ?_
  by_cases q : k < tN T
  · obtain ⟨_, h1, h2, h3, _⟩ := w.2.2.2.1 k q
    refine Or.inr ⟨q, trivial, ?_⟩
    have hm : bmx P (tU T) k ≤ 999 := by
      unfold bmx
      cases e : bst P (tU T) k with
      | none => exact Nat.zero_le _
      | some x => exact (w.2.2.2.1 x (by have := (bst_lt e).1; omega)).2.2.2.1
    simp (disch := omega) only [m_X6_loudestSlot_b8, m_X6_loudestSlot_j43, m_X6_loudestSlot_j44, h.hN, h.hW q, h.hU q, nLe, nL, nIb, nN, vl_i, nI_1, nI_add, ltI, if_pos, if_neg, nE, if_false, if_true]
    by_cases z : a ≤ tW T k ∧ tW T k ≤ b
    · have hPk : P k = true := by rw [hP k q]; simp [z]
      rw [if_neg (by omega), if_neg (by omega)]
      cases e : bst P (tU T) k with
      | none =>
        have e2 : bmx P (tU T) k = 0 := by unfold bmx; rw [e]
        rw [e2, if_neg (by omega)]
        simp [bmx, bst, e, hPk, eo]
      | some x =>
        have e2 : bmx P (tU T) k = tU T x := by unfold bmx; rw [e]
        rw [e2]
        by_cases y : tU T x < tU T k
        · rw [if_neg (by omega)]
          simp [bmx, bst, e, hPk, y, eo]
        · rw [if_pos (by omega)]
          simp [bmx, bst, e, y, eo]
    · have hPk : P k = false := by rw [hP k q]; simp only [z, decide_false]
      have e3 : bst P (tU T) (k + 1) = bst P (tU T) k := by
        rw [bst]
        cases e : bst P (tU T) k with
        | none => simp [hPk]
        | some x => simp [hPk]
      have e4 : bmx P (tU T) (k + 1) = bmx P (tU T) k := by unfold bmx; rw [e3]
      rw [e3, e4]
      by_cases y : tW T k < a
      · rw [if_pos y]
      · rw [if_neg y, if_pos (by omega)]
  · have e : k = tN T := by omega
    subst e
    left
    simp (disch := omega) only [m_X6_loudestSlot_b8, h.hN, nLe, if_pos, Nat.le_refl]
/-- where spreading goes -/
def rsp (T : Th) (r : Nat) : Option Nat := (fnd (fun d => decide (1 ≤ d ∧ tK T ((r + d) % tR T) = false ∧ cnt T ((r + d) % tR T) < tC T ((r + d) % tR T))) (tR T)).map (fun d => (r + d) % tR T)
theorem c_rowForSpreading (h : RC t s T) (w : Sz T) {r : Nat} (hr : r < tR T) : m_X6_rowForSpreading t (nI r) s = some (eo (rsp T r)) := by
  have hR := w.1
  have hN := w.2.1
  have key : lpO (fun kf2 a => m_X6_rowForSpreading_b2 t (nI r) s kf2 a) FUEL (nI 1) = some (eo (rsp T r)) := by
    refine lpO_d (fun m => nI (m + 1)) (fun m => ∀ j, j < m + 1 → decide (1 ≤ j ∧ tK T ((r + j) % tR T) = false ∧ cnt T ((r + j) % tR T) < tC T ((r + j) % tR T)) = false) (tR T) rfl (fun j hj => by cases (show j = 0 by omega); simp) (by omega) fun m hm hI kf => ?_
    by_cases q : m + 1 < tR T
    · have hg : m_X6_rowForSpreading_b2 t (nI r) s kf (nI (m + 1)) = m_X6_rowForSpreading_j32 t (nI r) (nI (m + 1)) (nI ((r + (m + 1)) % tR T)) s kf := by
        simp (disch := omega) only [m_X6_rowForSpreading_b2, h.hR, nLe, vl_i, nI_add, if_neg]
        by_cases z : tR T ≤ r + (m + 1)
        · rw [if_pos z, nS' z, show r + (m + 1) - tR T = (r + (m + 1)) % tR T by rw [Nat.mod_eq_sub_mod z, Nat.mod_eq_of_lt (by omega)]]
        · rw [if_neg z, Nat.mod_eq_of_lt (by omega)]
      rw [hg]
      have hx : (r + (m + 1)) % tR T < tR T := Nat.mod_lt _ (by omega)
      generalize hxx : (r + (m + 1)) % tR T = x at hx
      have hc := cnt_le w x
      have hcc := (w.2.2.2.2 x).1
      simp (disch := omega) only [m_X6_rowForSpreading_j32, nIb, nN, h.hK (show x < 8 by omega), h.hC (show x < 8 by omega), c_echoesIn h w (show x < 2 ^ 31 by omega), bO_some, nLe, ltI, vl_i, nI_add, if_pos, bI0]
      by_cases z : tK T x = false ∧ cnt T x < tC T x
      · left
        rw [if_neg (fun y => y z.1), if_neg (by omega)]
        unfold rsp
        rw [fnd_some (k := m + 1) (by omega) (by simp only [decide_eq_true_eq]; rw [hxx]; exact ⟨by omega, z⟩) hI]
        simp only [Option.map_some, hxx, eo]
      · right
        refine ⟨by omega, fun j hj => ?_, ?_⟩
        · by_cases y : j = m + 1
          · subst y; simp only [decide_eq_false_iff_not, hxx]; exact fun v => z v.2
          · exact hI j (by omega)
        · by_cases y : tK T x = false
          · have y2 : ¬ cnt T x < tC T x := fun v => z ⟨y, v⟩
            rw [if_neg (fun v => v y), if_pos (by omega)]
          · rw [if_pos y]
    · left
      simp (disch := omega) only [m_X6_rowForSpreading_b2, h.hR, nLe, if_pos]
      unfold rsp
      rw [fnd_none (fun j hj => hI j (by omega))]; rfl
  exact key
theorem ld_le (w : Sz T) (r : Nat) : ld T r ≤ 23976 := by
  have h := sm_le (f := fun k => if tW T k = r then tU T k else 0) (n := tN T) (c := 999) (fun k hk => by
    have := (w.2.2.2.1 k hk).2.2.2.1
    by_cases z : tW T k = r <;> simp [z] <;> omega)
  have := w.2.1
  unfold ld
  have : tN T * 999 ≤ 23976 := by omega
  omega
theorem c_echoesBetween (h : RC t s T) (w : Sz T) {a b : Nat} (ha : a ≤ b + 1) (hb : b < 1000) : m_X6_echoesBetween t (nI a) (nI b) s = some (nI (btw T a (b + 1))) := by
  refine lpO_d (fun k => (nI (sm (fun i => cnt T (a + i)) k), nI (a + k))) (fun _ => True) (b + 1 - a) rfl trivial (by omega) fun k hk _ kf => ?_
  by_cases q : a + k ≤ b
  · refine Or.inr ⟨by omega, trivial, ?_⟩
    simp (disch := omega) only [m_X6_echoesBetween_b5, nL, if_neg, c_echoesIn h w (show a + k < 2 ^ 31 by omega), bO_some, vl_i, nI_add, ltI]
    rfl
  · left
    have e : k = b + 1 - a := by omega
    simp (disch := omega) only [m_X6_echoesBetween_b5, nL, if_pos, e]
    rfl
theorem m1_lt {a : Nat} (h : a < 2 ^ 31) : m1 < nI a := by
  rw [Int32.lt_iff_toInt_lt, nI_toInt h, show m1.toInt = -1 from rfl]
  omega
theorem c_rankOf (h : RC t s T) (w : Sz T) {k : Nat} (hk : k < tN T) : m_X6_rankOf t (nI k) s = some (nI (rnk T k)) := by
  have hR := w.1
  have hN := w.2.1
  have h1 := (w.2.2.2.1 k hk).2.1
  have e : m_X6_echoesBetween t 0 (nI (tW T k) - 1) s = some (nI (sm (cnt T) (tW T k))) := by
    cases e : tW T k with
    | zero => exact lpO_d (fun _ => (nI 0, nI 0)) (fun _ => True) 0 rfl trivial (by omega) fun m _ _ kf => Or.inl (by
        have : m_X6_echoesBetween_b5 t (nI 0 - 1) s kf (nI 0) (nI 0) = some (nI 0) := by
          unfold m_X6_echoesBetween_b5
          rw [if_pos (show nI 0 - 1 < nI 0 by decide)]
        exact this)
    | succ x =>
      have := c_echoesBetween h w (a := 0) (b := x) (by omega) (by omega)
      rw [nI_pred, show (0 : Int32) = nI 0 from rfl, this, btw0]
  simp (disch := omega) only [m_X6_rankOf, nIb, nN, if_pos, h.hW hk, e, bO_some, c_positionOf h w hk, nI_add]
  rfl
theorem c_idRanked (h : RC t s T) (w : Sz T) {p : Nat} (hp : p < tN T) : ∃ k, k < tN T ∧ rks T p = some k ∧ m_X6_idRanked t (nI p) s = some (nI (tI T k)) := by
  have hR := w.1
  have hN := w.2.1
  have hall := cnt_all (T := T) (fun k hk => (w.2.2.2.1 k hk).2.1)
  obtain ⟨r, hr, h1, h2⟩ := row_ex (T := T) (p := p) (R := tR T) (by omega)
  obtain ⟨k, hk, h3, h4⟩ := satp_rks w h1 h2
  refine ⟨k, hk, h3, ?_⟩
  refine lpO_d (fun m => (nI (p - sm (cnt T) m), nI m)) (fun m => m ≤ r) r rfl (Nat.zero_le _) (by omega) fun m hm _ kf => ?_
  have hc := cnt_le w m
  have h5 : sm (cnt T) m ≤ sm (cnt T) r := sm_mono hm
  have h6 : sm (cnt T) (m + 1) = sm (cnt T) m + cnt T m := rfl
  simp (disch := omega) only [m_X6_idRanked_b4, h.hR, nLe, if_neg, c_echoesIn h w (show m < 2 ^ 31 by omega), bO_some, vl_i, nI_add, ltI]
  by_cases q : m < r
  · right
    have h7 : sm (cnt T) (m + 1) ≤ sm (cnt T) r := sm_mono (by omega)
    refine ⟨q, q, ?_⟩
    rw [if_pos (by omega), nS' (by omega), show p - sm (cnt T) m - cnt T m = p - sm (cnt T) (m + 1) by omega]
  · have e : m = r := by omega
    subst e
    left
    rw [if_neg (by omega), c_idAt h w (by omega), h4, bO_some]
theorem c_seatsSuffice (h : RC t s T) (w : Sz T) (hs : ∀ r, r < tR T → cnt T r ≤ tC T r + tP T r) : m_X6_seatsSuffice t s = some (nI 1) := by
  have hR := w.1
  refine lpO_d (fun k => nI k) (fun _ => True) (tR T) rfl trivial (by omega) fun k hk _ kf => ?_
  by_cases q : k < tR T
  · refine Or.inr ⟨q, trivial, ?_⟩
    have h1 := (w.2.2.2.2 k).1
    have h2 := (w.2.2.2.2 k).2.1
    simp (disch := omega) only [m_X6_seatsSuffice_b2, h.hR, nLe, if_neg, if_pos, c_emptySeatsIn h w (show k < 8 by omega) (hs k q), bO_some, vl_i, nI_add, ltI]
  · have e : k = tR T := by omega
    subst e
    left
    simp (disch := omega) only [m_X6_seatsSuffice_b2, h.hR, nLe, if_pos, Nat.le_refl]
    rfl
end
