/-! ===== what is done by the cells ===== -/
/-- the same theatre, history, copy -/
def Sm (n : Nat) (A A' : Ab) : Prop := A'.1 = A.1 ∧ A'.2.1 = A.2.1 ∧ A'.2.2.1 = A.2.2.1 ∧ WA n A'
/-- what an act leaves: all as it was, where it throws; else one change -/
def Act (n : Nat) (A A' : Ab) (v : Int64) : Prop := WA n A' ∧ A'.2.2.1 = A.2.2.1 ∧ ((v ≤ -4000000000000000001 ∧ A'.1 = A.1 ∧ A'.2.1 = A.2.1) ∨ (-4000000000000000001 < v ∧ tR (aT A) ≤ tR A'.1 ∧ A'.2.1 = (min (aU A + 1) 8, fun j => if j = 0 then aT A else aH A (j - 1))))
def okA (n c : Nat) (A : Ab) (s : Mem) (r : Res Int64) : Prop := ∃ v s1 A', r = some (.inl v, s1) ∧ CK s1 A' ∧ Act n A A' v ∧ Ku c s s1
theorem i32_gt (v : Int32) : (-4000000000000000001 : Int64) < v.toInt64 := by
  rw [Int64.lt_iff_toInt_lt, Int32.toInt_toInt64]
  have h := v.le_toInt
  show (-4000000000000000001 : Int) < v.toInt
  omega
theorem Sm.rf {n : Nat} {A : Ab} (W : WA n A) : Sm n A A := ⟨rfl, rfl, rfl, W⟩
section
variable {s s1 : Mem} {A A' : Ab} {n m c k : Nat} {L : List String} {p q : Int32}
theorem okA.pre {r : Res Int64} (h : okA n c A s1 r) (u : Ku k s s1) : okA n (k + c) A s r := by
  obtain ⟨v, s2, A', e, h1, h2, h3⟩ := h
  exact ⟨v, s2, A', e, h1, h2, u.trans h3⟩
theorem okA.up {r : Res Int64} (h : okA n c A s r) (hc : c ≤ k) : okA n k A s r := by
  obtain ⟨v, s2, A', e, h1, h2, h3⟩ := h
  exact ⟨v, s2, A', e, h1, h2, h3.up hc⟩
theorem rows_opN {T : Th} {kind a b : Nat} (W : WT n T) : tR T ≤ tR (opN T kind a b).2 := by
  unfold opN
  repeat' split
  · exact Nat.le_succ _
  · exact Nat.le_refl _
  · exact Nat.le_refl _
  · exact Nat.le_refl _
  · exact Nat.le_refl _
  · exact Nat.le_refl _
  · exact Nat.le_refl _
  · exact Nat.le_refl _
  · exact Nat.le_refl _
  · exact Nat.le_refl _
  · exact Nat.le_refl _
  · have e := (spn_w W (r := a) 24).2.2.2.1
    dsimp only
    exact Nat.le_of_eq e.symm
/-- a change, as an act -/
theorem act_ch {x : Res Int64} {kind : Nat} (hk : kind < 12) (W : WA n A) (hL : Cdo L (chA A kind p q).1) (y : mw 1 s x (vL L (chA A kind p q).1) (chA A kind p q).2) : okA (n + 1) 1 A s x := by
  obtain ⟨s1, e, h1, h2⟩ := y
  refine ⟨_, s1, _, e, h1, ?_, h2⟩
  have hW := W.chA hk (p := p) (q := q)
  revert hL hW
  unfold chA
  cases e2 : rs (aT A) kind p q with
  | inl c => exact fun hL _ => ⟨W.up (Nat.le_succ _), rfl, Or.inl ⟨vL_thr hL, rfl, rfl⟩⟩
  | inr ab =>
    obtain ⟨a, b⟩ := ab
    exact fun _ hW => ⟨hW, rfl, Or.inr ⟨i32_gt _, rows_opN W.1, rfl⟩⟩
theorem rows_exg {T : Th} {g : Pg} {m : Nat} (W : WT m T) : ∀ {k : Nat} {T' : Th}, PgOk k g → exg T g k = .inr T' → tR T ≤ tR T'
  | 0, T', _, h => by cases h; exact Nat.le_refl _
  | k + 1, T', ho, h => by
    rw [exg] at h
    cases e : exg T g k with
    | inl i' => rw [e] at h; cases h
    | inr T1 =>
      rw [e] at h
      dsimp only at h
      have h1 := rows_exg W (fun j hj => ho j (by omega)) e
      have h2 := exg_w W (fun j hj => ho j (by omega)) e
      cases e2 : rs T1 (g k).1 (nI (g k).2.1) (nI (g k).2.2) with
      | inl c => rw [e2] at h; cases h
      | inr ab =>
        obtain ⟨a, b⟩ := ab
        rw [e2] at h
        cases h
        exact Nat.le_trans h1 (rows_opN h2)
/-- a program's run, as an act -/
theorem act_run (W : WA n A) (hn : n < 9000) (h : CK s A) : okA (n + 10) 1 A s (m_L_run s) := by
  obtain ⟨s1, e, h1, h2⟩ := y_run h W (by omega)
  refine ⟨_, s1, _, e, h1, ?_, h2⟩
  have hW := W.run
  have hL := cdo_run (A := A)
  have ho := inok W
  revert hL hW
  unfold runA
  cases e1 : prs (aI A) 61 0 0 g0 with
  | inr e' => exact fun hW hL => ⟨hW, rfl, Or.inl ⟨vL_thr hL, rfl, rfl⟩⟩
  | inl NG =>
    obtain ⟨N, G⟩ := NG
    obtain ⟨n10, hgo⟩ := prs_in ho 61 0 0 g0 e1 (Nat.zero_le _) (by decide) (fun j hj => absurd hj (Nat.not_lt_zero _))
    dsimp only
    cases e4 : exg (aT A) G N with
    | inl i => exact fun hW hL => ⟨hW, rfl, Or.inl ⟨vL_thr hL, rfl, rfl⟩⟩
    | inr T' => exact fun hW _ => ⟨hW, rfl, Or.inr ⟨i32_gt _, rows_exg W.1 hgo e4, rfl⟩⟩
theorem Sm.ap (W : WA n A) : Sm n A (apA A p).2 := by
  have hW := W.ap (p := p)
  refine ⟨?_, ?_, ?_, hW⟩ <;> (unfold apA; repeat' split) <;> rfl
theorem Sm.tr {A1 : Ab} (h : Sm n A A1) (h2 : Sm n A1 A') : Sm n A A' := ⟨h2.1.trans h.1, h2.2.1.trans h.2.1, h2.2.2.1.trans h.2.2.1, h2.2.2.2⟩
theorem Act.sm {A1 : Ab} {v : Int64} (h : Sm m A A1) (h2 : Act n A1 A' v) : Act n A A' v := by
  obtain ⟨a1, a2, a3, a4⟩ := h
  obtain ⟨b1, b2, b3⟩ := h2
  refine ⟨b1, b2.trans a3, ?_⟩
  have e1 : aT A1 = aT A := a1
  have e2 : aU A1 = aU A := congrArg Prod.fst a2
  have e3 : aH A1 = aH A := congrArg Prod.snd a2
  rw [e1, e2, e3] at b3
  rcases b3 with ⟨c1, c2, c3⟩ | c
  · exact Or.inl ⟨c1, c2.trans a1, c3.trans a2⟩
  · exact Or.inr c
theorem tx_len : ∀ i, i < 8 → strN (3046 + i) ≤ 21 := by decide +kernel
/-- a text is appended, and run -/
theorem y_runs (h : CK s A) (W : WA n A) (hn : n < 9000) {i : Nat} (hi : i < 8) : okA (n + 10) 22 A s (m_L_runs (3046 + i) s) := by
  have hN := tx_len i hi
  unfold m_L_runs
  have key : okR (lp (fun kf2 (a : Int32 × Mem) => m_L_runs_b2 (3046 + i) a.2 kf2 a.1) FUEL (0, s)) (fun o s1 => ∃ v A', o = .inl v ∧ CK s1 A' ∧ Act (n + 10) A A' v ∧ Ku 22 s s1) := by
    refine lp_i (fun k (a : Int32 × Mem) => a.1 = nI k ∧ ∃ A1, CK a.2 A1 ∧ Sm n A A1 ∧ Ku k s a.2) (strN (3046 + i)) ⟨rfl, A, h, Sm.rf W, Ku.refl⟩ (by omega) (fun k a kf hk hI hkf => ?_)
    obtain ⟨w, σ⟩ := a
    obtain ⟨e1, A1, e2, e3, e4⟩ := hI
    dsimp only at e1 e2 e3 e4 ⊢
    subst e1
    unfold m_L_runs_b2
    by_cases q : k = strN (3046 + i)
    · rw [if_pos (nI_le (show strN (3046 + i) ≤ k by omega) (by omega))]
      obtain ⟨v, s2, A', f1, f2, f3, f4⟩ := act_run e3.2.2.2 hn e2
      rw [f1, bR_l]
      exact okR_some.mpr ⟨v, A', rfl, f2, f3.sm e3, (e4.trans f4).up (by omega)⟩
    · rw [if_neg (nI_ge (show k < strN (3046 + i) by omega) (by omega)), if_pos (show ib (nI k) (strN (3046 + i)) by rw [nIb (by omega)]; omega)]
      obtain ⟨s2, f1, f2, f3⟩ := y_append e2 e3.2.2.2 (p := nI (strC (3046 + i) (nI k).toNatClampNeg))
      rw [f1, bR_l, vl_i, nI_1]
      exact hkf _ (by omega) ⟨rfl, _, f2, e3.tr (Sm.ap e3.2.2.2), e4.trans f3⟩
  obtain ⟨o, s1, e, v, A', rfl, h1, h2, h3⟩ := key
  exact ⟨v, s1, A', e, h1, h2, h3⟩
/-- an id by a number -/
theorem y_anId (h : CK s A) (w : Sz (aT A)) : ∃ d s1, m_L_anId p s = some (.inl d, s1) ∧ CK s1 A ∧ Ku 1 s s1 := by
  have hN := w.2.1
  unfold m_L_anId
  rw [k_echoCount h, bP_some]
  by_cases q : tN (aT A) = 0
  · rw [q, if_neg (fun z => z rfl)]
    exact ⟨_, s, rfl, h, Ku.refl.up (by decide)⟩
  · have h0 : ¬ nI (tN (aT A)) = 0 := nI_ne0 (by omega) (by omega)
    rw [if_pos h0, bP_some, if_pos h0]
    obtain ⟨s1, f1, f2, f3⟩ := y_idByRank h w (p := p - p / nI (tN (aT A)) * nI (tN (aT A)))
    rw [f1, bR_l]
    exact ⟨_, s1, rfl, f2, f3⟩
theorem and31 (v : Int32) : ∃ m, m < 2 ^ 31 ∧ v &&& 2147483647 = nI m := by
  refine ⟨(v &&& 2147483647).toBitVec.toNat, ?_, ?_⟩
  · rw [show (v &&& 2147483647).toBitVec = v.toBitVec &&& 2147483647#32 from rfl, BitVec.toNat_and]
    exact Nat.lt_of_le_of_lt Nat.and_le_right (by decide)
  · apply Int32.toBitVec_inj.mp
    show (v &&& 2147483647).toBitVec = BitVec.ofNat 32 _
    rw [BitVec.ofNat_toNat, BitVec.setWidth_eq]
theorem chosen_val {d : Nat} (h0 : 0 < d) (hd : d < 2 ^ 31) : ∃ m, m < d ∧ m_L_chosen p (nI d) s = some (nI m) := by
  obtain ⟨m, hm, e⟩ := and31 p
  refine ⟨m % d, Nat.mod_lt _ h0, ?_⟩
  unfold m_L_chosen
  rw [if_pos (nI_ne0 h0 hd), e, pk_rem hm h0 hd]
end
section
variable {s : Mem} {A : Ab} {n : Nat} {p : Int32}
theorem ac_addRow (h : CK s A) (W : WA n A) (hn : n < 9000) {p : Int32} : okA (n + 1) 1 A s (m_L_addRow p s) := act_ch (kind := 0) (p := p) (q := 0) (by decide) W cdo_addRow (y_addRow h W (by omega))
theorem ac_addPhantoms (h : CK s A) (W : WA n A) (hn : n < 9000) {p q : Int32} : okA (n + 1) 1 A s (m_L_addPhantoms p q s) := act_ch (kind := 1) (p := p) (q := q) (by decide) W cdo_addPhantoms (y_addPhantoms h W (by omega))
theorem ac_removePhantoms (h : CK s A) (W : WA n A) (hn : n < 9000) {p q : Int32} : okA (n + 1) 1 A s (m_L_removePhantoms p q s) := act_ch (kind := 2) (p := p) (q := q) (by decide) W cdo_removePhantoms (y_removePhantoms h W (by omega))
theorem ac_add (h : CK s A) (W : WA n A) (hn : n < 9000) {p q : Int32} : okA (n + 1) 1 A s (m_L_add p q s) := act_ch (kind := 3) (p := p) (q := q) (by decide) W cdo_add (y_add h W (by omega))
theorem ac_move (h : CK s A) (W : WA n A) (hn : n < 9000) {p q : Int32} : okA (n + 1) 1 A s (m_L_move p q s) := act_ch (kind := 4) (p := p) (q := q) (by decide) W cdo_move (y_move h W (by omega))
theorem ac_remove (h : CK s A) (W : WA n A) (hn : n < 9000) {p : Int32} : okA (n + 1) 1 A s (m_L_remove p s) := act_ch (kind := 5) (p := p) (q := 0) (by decide) W cdo_remove (y_remove h W (by omega))
theorem ac_setHeir (h : CK s A) (W : WA n A) (hn : n < 9000) {p q : Int32} : okA (n + 1) 1 A s (m_L_setHeir p q s) := act_ch (kind := 6) (p := p) (q := q) (by decide) W cdo_setHeir (y_setHeir h W (by omega))
theorem ac_clearHeir (h : CK s A) (W : WA n A) (hn : n < 9000) {p : Int32} : okA (n + 1) 1 A s (m_L_clearHeir p s) := act_ch (kind := 7) (p := p) (q := 0) (by decide) W cdo_clearHeir (y_clearHeir h W (by omega))
theorem ac_lock (h : CK s A) (W : WA n A) (hn : n < 9000) {p : Int32} : okA (n + 1) 1 A s (m_L_lock p s) := act_ch (kind := 8) (p := p) (q := 0) (by decide) W cdo_lock (y_lock h W (by omega))
theorem ac_unlock (h : CK s A) (W : WA n A) (hn : n < 9000) {p : Int32} : okA (n + 1) 1 A s (m_L_unlock p s) := act_ch (kind := 9) (p := p) (q := 0) (by decide) W cdo_unlock (y_unlock h W (by omega))
theorem ac_nameRow (h : CK s A) (W : WA n A) (hn : n < 9000) {p q : Int32} : okA (n + 1) 1 A s (m_L_nameRow p q s) := act_ch (kind := 10) (p := p) (q := q) (by decide) W cdo_nameRow (y_nameRow h W (by omega))
theorem ac_spread (h : CK s A) (W : WA n A) (hn : n < 9000) {p : Int32} : okA (n + 1) 1 A s (m_L_spread p s) := act_ch (kind := 11) (p := p) (q := 0) (by decide) W cdo_spread (y_spread h W (by omega))
theorem okA.ups {r : Res Int64} {c k m : Nat} (h : okA n c A s r) (hc : c ≤ k) (hm : n ≤ m) : okA m k A s r := by
  obtain ⟨v, s2, A', e, h1, ⟨h2, h3⟩, h4⟩ := h
  exact ⟨v, s2, A', e, h1, ⟨h2.up hm, h3⟩, h4.up hc⟩
theorem y_acts (h : CK s A) (W : WA n A) (hn : n < 9000) (hR : 1 ≤ tR (aT A)) : okA (n + 10) 24 A s (m_L_acts p s) := by
  have w := W.1.sz (by omega)
  have hR8 := w.1
  have h2 : ¬ nI (tR (aT A)) = 0 := nI_ne0 hR (by omega)
  unfold m_L_acts
  obtain ⟨m, hm, e⟩ := chosen_val (s := s) (p := p >>> (8 &&& 31)) (d := 100000) (by decide) (by decide)
  rw [show m_L_chosen (p >>> (8 &&& 31)) 100000 s = _ from e, bP_some, k_rowCount h, bP_some]
  obtain ⟨m', _, e'⟩ := chosen_val (s := s) (p := p) (d := 24) (by decide) (by decide)
  rw [show m_L_chosen p 24 s = _ from e', bP_some]
  generalize nI m' = v3
  simp only [bR_id, if_pos h2]
  by_cases q0 : v3 = 0
  · rw [if_pos q0]
    exact (ac_addRow h W hn).ups (by omega) (by omega)
  rw [if_neg q0]
  by_cases q1 : v3 = 1
  · rw [if_pos q1]
    exact (ac_addPhantoms h W hn).ups (by omega) (by omega)
  rw [if_neg q1]
  by_cases q2 : v3 = 2
  · rw [if_pos q2]
    exact (ac_addPhantoms h W hn).ups (by omega) (by omega)
  rw [if_neg q2]
  by_cases q3 : v3 = 3
  · rw [if_pos q3]
    exact (ac_removePhantoms h W hn).ups (by omega) (by omega)
  rw [if_neg q3]
  by_cases q4 : v3 = 4
  · rw [if_pos q4]
    exact (ac_add h W hn).ups (by omega) (by omega)
  rw [if_neg q4]
  by_cases q5 : v3 = 5
  · rw [if_pos q5]
    exact (ac_add h W hn).ups (by omega) (by omega)
  rw [if_neg q5]
  by_cases q6 : v3 = 6
  · rw [if_pos q6]
    exact (ac_add h W hn).ups (by omega) (by omega)
  rw [if_neg q6]
  by_cases q7 : v3 = 7
  · rw [if_pos q7]
    exact (ac_add h W hn).ups (by omega) (by omega)
  rw [if_neg q7]
  by_cases q8 : v3 = 8
  · rw [if_pos q8]
    exact (ac_add h W hn).ups (by omega) (by omega)
  rw [if_neg q8]
  by_cases q9 : v3 = 9
  · rw [if_pos q9]
    obtain ⟨d0, s0, f0, g0, u0⟩ := y_anId h w
    rw [f0, bR_l]
    exact ((ac_move g0 W hn).pre u0).ups (by omega) (by omega)
  rw [if_neg q9]
  by_cases q10 : v3 = 10
  · rw [if_pos q10]
    obtain ⟨d0, s0, f0, g0, u0⟩ := y_anId h w
    rw [f0, bR_l]
    exact ((ac_move g0 W hn).pre u0).ups (by omega) (by omega)
  rw [if_neg q10]
  by_cases q11 : v3 = 11
  · rw [if_pos q11]
    obtain ⟨d0, s0, f0, g0, u0⟩ := y_anId h w
    rw [f0, bR_l]
    exact ((ac_remove g0 W hn).pre u0).ups (by omega) (by omega)
  rw [if_neg q11]
  by_cases q12 : v3 = 12
  · rw [if_pos q12]
    obtain ⟨d0, s0, f0, g0, u0⟩ := y_anId h w
    obtain ⟨d1, s1, f1, g1, u1⟩ := y_anId g0 w
    rw [f0, bR_l, f1, bR_l]
    exact ((ac_setHeir g1 W hn).pre (u0.trans u1)).ups (by omega) (by omega)
  rw [if_neg q12]
  by_cases q13 : v3 = 13
  · rw [if_pos q13]
    obtain ⟨d0, s0, f0, g0, u0⟩ := y_anId h w
    obtain ⟨d1, s1, f1, g1, u1⟩ := y_anId g0 w
    rw [f0, bR_l, f1, bR_l]
    exact ((ac_setHeir g1 W hn).pre (u0.trans u1)).ups (by omega) (by omega)
  rw [if_neg q13]
  by_cases q14 : v3 = 14
  · rw [if_pos q14]
    obtain ⟨d0, s0, f0, g0, u0⟩ := y_anId h w
    obtain ⟨d1, s1, f1, g1, u1⟩ := y_anId g0 w
    rw [f0, bR_l, f1, bR_l]
    exact ((ac_setHeir g1 W hn).pre (u0.trans u1)).ups (by omega) (by omega)
  rw [if_neg q14]
  by_cases q15 : v3 = 15
  · rw [if_pos q15]
    obtain ⟨d0, s0, f0, g0, u0⟩ := y_anId h w
    rw [f0, bR_l]
    exact ((ac_clearHeir g0 W hn).pre u0).ups (by omega) (by omega)
  rw [if_neg q15]
  by_cases q16 : v3 = 16
  · rw [if_pos q16]
    by_cases z : nI m - nI m / 2 * 2 = 0
    · rw [if_neg (fun y => y z)]
      exact (ac_lock h W hn).ups (by omega) (by omega)
    · rw [if_pos z]
      exact (ac_unlock h W hn).ups (by omega) (by omega)
  rw [if_neg q16]
  by_cases q17 : v3 = 17
  · rw [if_pos q17]
    exact (ac_nameRow h W hn).ups (by omega) (by omega)
  rw [if_neg q17]
  by_cases q18 : v3 = 18
  · rw [if_pos q18]
    exact (ac_spread h W hn).ups (by omega) (by omega)
  rw [if_neg q18]
  have e8 : nI m - nI m / 8 * 8 = nI (m % 8) := pk_rem (a := m) (d := 8) (by omega) (by decide) (by decide)
  have hm8 : m % 8 < 8 := Nat.mod_lt _ (by decide)
  rw [e8, if_pos (show ib (nI (m % 8)) 8 by rw [nIb (by omega)]; exact hm8), nN (by omega)]
  exact (y_runs h W hn hm8).ups (by omega) (by omega)
end
