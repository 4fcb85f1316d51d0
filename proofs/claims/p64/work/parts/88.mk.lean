/-! ===== the mark: what a theatre shows ===== -/
theorem lp_x {α β : Type} {body : (α → Res β) → α → Res β} {E : Res β} (st : Nat → α) (n : Nat) (h1 : ∀ k kf, k < n → body kf (st k) = kf (st (k + 1))) (h2 : ∀ kf, body kf (st n) = E) : ∀ j k, n - k < j → k ≤ n → lp body j (st k) = E
  | 0, _, hj, _ => absurd hj (Nat.not_lt_zero _)
  | j + 1, k, hj, hk => by
    show body (lp body j) (st k) = E
    by_cases q : k = n
    · subst q; exact h2 _
    · rw [h1 k _ (by omega)]
      exact lp_x st n h1 h2 j (k + 1) (by omega) (by omega)
theorem lp_x0 {α β : Type} {body : (α → Res β) → α → Res β} {E : Res β} (st : Nat → α) (n : Nat) {a : α} (ha : a = st 0) (hn : n < 4096) (h1 : ∀ k kf, k < n → body kf (st k) = kf (st (k + 1))) (h2 : ∀ kf, body kf (st n) = E) : lp body FUEL a = E := by
  rw [ha]
  exact lp_x st n h1 h2 FUEL 0 (by unfold FUEL; omega) (Nat.zero_le _)
/-- letters -/
def mkL (x : Tx) (v : Int64) : Nat → Int64
  | 0 => v
  | n + 1 => 31 * mkL x v n + (nI (x.2 n)).toInt64
/-- rows -/
def mkR (T : Th) (v : Int64) : Nat → Int64
  | 0 => v
  | r + 1 => 31 * mkL (rwTx T r) (mkR T v r) (rwTx T r).1 + vL L_boxCount (a_boxCount T (nI r))
def mkS (T : Th) (j : Nat) : Tx := match rks T j with
  | some k => ehTx T k
  | none => tx0
/-- echoes -/
def mkE (T : Th) (v : Int64) : Nat → Int64
  | 0 => v
  | j + 1 => mkL (mkS T j) (mkE T v j) (mkS T j).1
def nmV (T : Th) (b : Nat) : Int64 := vL L_namedRow (a_namedRow T (nI (97 + b)))
/-- boxes -/
def mkB (T : Th) (v : Int64) : Nat → Int64
  | 0 => v
  | b + 1 => 31 * mkB T v b + (nmV T b - nmV T b / 1000 * 1000)
def mrk0 (T : Th) : Int64 := 17 + 3 * (nI (tM T)).toInt64 + 5 * (nI (tV T)).toInt64 + 7 * lN (tA T) + 11 * lN (tL T)
def mrk (T : Th) : Int64 := mkB T (mkE T (mkR T (mrk0 T) (tR T)) (tN T)) 8
theorem rks_ex {T : Th} (w : Sz T) {j : Nat} (hj : j < tN T) : ∃ k, k < tN T ∧ rks T j = some k := by
  obtain ⟨r, h1, h2, h3⟩ := row_ex (T := T) (p := j) (R := tR T) (by rw [cnt_all fun k hk => (w.2.2.2.1 k hk).2.1]; exact hj)
  obtain ⟨k, k1, k2, _⟩ := satp_rks w h2 h3
  exact ⟨k, k1, k2⟩
theorem box_inc : ∀ k, k < 8 → ((nI (97 + k) + 1).toUInt32 % 65536).toInt32 = nI (97 + (k + 1)) := by decide +kernel
theorem nI_ll {n : Nat} (h : n < 2 ^ 31) : (nI n).toInt64.toInt32 = nI n := by rw [nI_l h, lN_i]
/-- the echo of a rank, as it is answered -/
theorem idr_val {T : Th} {L : List String} (w : Sz T) {k j : Nat} (hk : k < tN T) (e : rks T k = some j) : vL L (a_idByRank T (nI k)) = (nI (tI T j)).toInt64 := by
  have hN := w.2.1
  unfold a_idByRank rkQ
  rw [rkp_of w (by omega), e]
  rfl
theorem tI_lt {T : Th} (w : Sz T) {j : Nat} (hj : j < tN T) : tI T j < 2 ^ 31 := by
  have h1 := (w.2.2.2.1 j hj).1
  have h2 := w.2.2.1.1
  omega
theorem sltp_E {T : Th} {n : Nat} (W : WT n T) (w : Sz T) {j : Nat} (hj : j < tN T) : sltp T (nI (tI T j)) = some j := by
  rw [slt_of w (tI_lt w hj)]
  exact W.sltE hj
section
variable {s s0 s1 : Mem} {A : Ab} {x : Tx} {c n : Nat}
def mQ (A : Ab) (s0 : Mem) (c : Nat) (v : Int64) : Int64 ⊕ String → Mem → Prop := fun o s' => o = .inl v ∧ ∃ x : Tx, x.1 ≤ 360 ∧ TxOk x ∧ CK s' (setL A x) ∧ Ku c s0 s'
theorem mk_b (h : CK s (setL A x)) (hx : x.1 ≤ 360) (ho : TxOk x) (w : Sz (aT A)) (u : Ku c s0 s) {v : Int64} : okR (lp (fun kf170 (a : Int64 × Int32 × Mem) => m_L_mark_b170 a.2.2 kf170 a.1 a.2.1) FUEL (v, 97, s)) (mQ A s0 (c + 8) (mkB (aT A) v 8)) := by
  refine lp_i (fun k (a : Int64 × Int32 × Mem) => a.1 = mkB (aT A) v k ∧ a.2.1 = nI (97 + k) ∧ CK a.2.2 (setL A x) ∧ Ku (c + k) s0 a.2.2) 8 ⟨rfl, rfl, h, u⟩ (by decide) (fun k a kf hk hI hkf => ?_)
  obtain ⟨w1, w3, σ⟩ := a
  obtain ⟨e1, e2, e3, e4⟩ := hI
  dsimp only at e1 e2 e3 e4 ⊢
  subst e1
  subst e2
  unfold m_L_mark_b170
  by_cases q : k = 8
  · subst q
    rw [if_pos (show (104 : Int32) < nI (97 + 8) by decide +kernel)]
    exact okR_some.mpr ⟨rfl, x, hx, ho, e3, e4⟩
  · rw [if_neg (show ¬ (104 : Int32) < nI (97 + k) from nI_nlt (a := 104) (show 97 + k ≤ 104 by omega) (by decide))]
    obtain ⟨s1, f1, f2, f3⟩ := y_namedRow e3 w (p := nI (97 + k))
    rw [f1, bR_l, vl_i, box_inc k (by omega)]
    exact hkf _ (by omega) ⟨rfl, rfl, f2, e4.trans f3⟩
/-- the letters of an echo's line -/
theorem mk_l1 (h : CK s (setL A x)) (hx : x.1 ≤ 360) (ho : TxOk x) {v : Int64} {x14 : Int32} {kf110 : (Int64 × Int32 × Mem) → Res Int64} : lp (fun kf133 (a : Int64 × Int32 × Mem) => m_L_mark_b133 x14 (nI x.1).toInt64 a.2.2 kf110 kf133 a.1 a.2.1) FUEL (v, 0, s) = kf110 (mkL x v x.1, x14 + 1, s) := by
  refine lp_x0 (fun k => (mkL x v k, nI k, s)) x.1 rfl (by omega) (fun k kf hk => ?_) (fun kf => ?_)
  · show m_L_mark_b133 x14 (nI x.1).toInt64 s kf110 kf (mkL x v k) (nI k) = _
    unfold m_L_mark_b133
    rw [if_neg (by rw [lg_cmp_ge, nI_l (by omega), nI_l (by omega), lN_le (by omega) (by omega)]; omega), y_lineChar h hx ho (a := k) hk, bR_l, vl_i, nI_1]
    rfl
  · show m_L_mark_b133 x14 (nI x.1).toInt64 s kf110 kf (mkL x v x.1) (nI x.1) = _
    unfold m_L_mark_b133
    rw [if_pos (by rw [lg_cmp_ge]; exact Int64.le_refl _), vl_i]
/-- the letters of a row's line -/
theorem mk_l2 (h : CK s (setL A x)) (hx : x.1 ≤ 360) (ho : TxOk x) {v : Int64} {x22 : Int32} {kf44 : (Int64 × Int32 × Mem) → Res Int64} : lp (fun kf62 (a : Int64 × Int32 × Mem) => m_L_mark_b62 x22 (nI x.1).toInt64 a.2.2 kf44 kf62 a.1 a.2.1) FUEL (v, 0, s) = bindR (m_L_boxCount x22 s) (fun v25 s24 => vl (x22 + 1) (fun y26 => kf44 ((31 * mkL x v x.1) + v25, y26, s24))) := by
  refine lp_x0 (fun k => (mkL x v k, nI k, s)) x.1 rfl (by omega) (fun k kf hk => ?_) (fun kf => ?_)
  · show m_L_mark_b62 x22 (nI x.1).toInt64 s kf44 kf (mkL x v k) (nI k) = _
    unfold m_L_mark_b62
    rw [if_neg (by rw [lg_cmp_ge, nI_l (by omega), nI_l (by omega), lN_le (by omega) (by omega)]; omega), y_lineChar h hx ho (a := k) hk, bR_l, vl_i, nI_1]
    rfl
  · show m_L_mark_b62 x22 (nI x.1).toInt64 s kf44 kf (mkL x v x.1) (nI x.1) = _
    unfold m_L_mark_b62
    rw [if_pos (by rw [lg_cmp_ge]; exact Int64.le_refl _)]
theorem mk_e (h : CK s (setL A x)) (hx : x.1 ≤ 360) (ho : TxOk x) (W : WT n (aT A)) (w : Sz (aT A)) (u : Ku c s0 s) {v : Int64} : okR (lp (fun kf110 (a : Int64 × Int32 × Mem) => m_L_mark_b110 a.2.2 kf110 a.1 a.2.1) FUEL (v, 0, s)) (mQ A s0 (c + 56) (mkB (aT A) (mkE (aT A) v (tN (aT A))) 8)) := by
  have hN := w.2.1
  refine lp_i (fun k (a : Int64 × Int32 × Mem) => a.1 = mkE (aT A) v k ∧ a.2.1 = nI k ∧ ∃ y : Tx, y.1 ≤ 360 ∧ TxOk y ∧ CK a.2.2 (setL A y) ∧ Ku (c + 2 * k) s0 a.2.2) (tN (aT A)) ⟨rfl, rfl, x, hx, ho, h, u⟩ (by omega) (fun k a kf hk hI hkf => ?_)
  obtain ⟨w1, w3, σ⟩ := a
  obtain ⟨e1, e2, y, y1, y2, e3, e4⟩ := hI
  dsimp only at e1 e2 e3 e4 ⊢
  subst e1
  subst e2
  unfold m_L_mark_b110
  rw [k_echoCount e3, bP_some, show aT (setL A y) = aT A from rfl]
  by_cases q : k = tN (aT A)
  · rw [if_pos (nI_le (show tN (aT A) ≤ k by omega) (by omega))]
    have z := mk_b e3 y1 y2 w e4 (v := mkE (aT A) v k)
    rw [← q]
    exact okR_mono z fun o s' ⟨z1, x', z2, z3, z4, z5⟩ => ⟨z1, x', z2, z3, z4, z5.up (by omega)⟩
  · rw [if_neg (nI_ge (show k < tN (aT A) by omega) (by omega))]
    obtain ⟨j, j1, j2⟩ := rks_ex w (show k < tN (aT A) by omega)
    obtain ⟨s1, f1, f2, f3⟩ := y_idByRank e3 w (p := nI k)
    rw [f1, bR_l, show aT (setL A y) = aT A from rfl, idr_val w (by omega) j2, nI_ll (tI_lt w j1)]
    obtain ⟨s2, g1, g2, g3⟩ := y_formatEcho f2 w (p := nI (tI (aT A) j))
    have e5 : feA (setL A y) (nI (tI (aT A) j)) = (.inr (nI (ehTx (aT A) j).1), setL A (ehTx (aT A) j)) := by
      unfold feA
      rw [show aT (setL A y) = aT A from rfl, sltp_E W w j1]
      rfl
    rw [e5] at g1 g2
    have h1 : (ehTx (aT A) j).1 ≤ 360 := Nat.le_trans (ehTx_le w j1) (by decide)
    rw [g1, bR_l]
    show okR (lp (fun kf133 (a : Int64 × Int32 × Mem) => m_L_mark_b133 (nI k) (nI (ehTx (aT A) j).1).toInt64 a.2.2 kf kf133 a.1 a.2.1) FUEL (mkE (aT A) v k, 0, s2)) _
    rw [mk_l1 g2 h1 ehTx_ok, nI_1]
    refine hkf _ (by omega) ⟨?_, rfl, ehTx (aT A) j, h1, ehTx_ok, g2, ((e4.trans f3).trans g3).up (by omega)⟩
    show mkL (ehTx (aT A) j) (mkE (aT A) v k) (ehTx (aT A) j).1 = mkL (mkS (aT A) k) (mkE (aT A) v k) (mkS (aT A) k).1
    unfold mkS
    rw [j2]
theorem mk_r (h : CK s (setL A x)) (hx : x.1 ≤ 360) (ho : TxOk x) (W : WT n (aT A)) (w : Sz (aT A)) (u : Ku c s0 s) {v : Int64} : okR (lp (fun kf44 (a : Int64 × Int32 × Mem) => m_L_mark_b44 a.2.2 kf44 a.1 a.2.1) FUEL (v, 0, s)) (mQ A s0 (c + 72) (mkB (aT A) (mkE (aT A) (mkR (aT A) v (tR (aT A))) (tN (aT A))) 8)) := by
  have hR := w.1
  refine lp_i (fun k (a : Int64 × Int32 × Mem) => a.1 = mkR (aT A) v k ∧ a.2.1 = nI k ∧ ∃ y : Tx, y.1 ≤ 360 ∧ TxOk y ∧ CK a.2.2 (setL A y) ∧ Ku (c + 2 * k) s0 a.2.2) (tR (aT A)) ⟨rfl, rfl, x, hx, ho, h, u⟩ (by omega) (fun k a kf hk hI hkf => ?_)
  obtain ⟨w1, w3, σ⟩ := a
  obtain ⟨e1, e2, y, y1, y2, e3, e4⟩ := hI
  dsimp only at e1 e2 e3 e4 ⊢
  subst e1
  subst e2
  unfold m_L_mark_b44
  rw [k_rowCount e3, bP_some, show aT (setL A y) = aT A from rfl]
  by_cases q : k = tR (aT A)
  · rw [if_pos (nI_le (show tR (aT A) ≤ k by omega) (by omega))]
    have z := mk_e e3 y1 y2 W w e4 (v := mkR (aT A) v k)
    rw [← q]
    exact okR_mono z fun o s' ⟨z1, x', z2, z3, z4, z5⟩ => ⟨z1, x', z2, z3, z4, z5.up (by omega)⟩
  · have hk' : k < tR (aT A) := by omega
    rw [if_neg (nI_ge hk' (by omega))]
    obtain ⟨s1, g1, g2, g3⟩ := y_formatRow e3 w (p := nI k)
    have e5 : frA (setL A y) (nI k) = (.inr (nI (rwTx (aT A) k).1), setL A (rwTx (aT A) k)) := by
      unfold frA
      rw [show aT (setL A y) = aT A from rfl, rwp_of w hk']
      rfl
    rw [e5] at g1 g2
    have h1 : (rwTx (aT A) k).1 ≤ 360 := rwTx_le w hk'
    rw [g1, bR_l]
    show okR (lp (fun kf62 (a : Int64 × Int32 × Mem) => m_L_mark_b62 (nI k) (nI (rwTx (aT A) k).1).toInt64 a.2.2 kf kf62 a.1 a.2.1) FUEL (mkR (aT A) v k, 0, s1)) _
    rw [mk_l2 g2 h1 rwTx_ok]
    obtain ⟨s2, f1, f2, f3⟩ := y_boxCount g2 w (p := nI k)
    rw [f1, bR_l, vl_i, nI_1]
    exact hkf _ (by omega) ⟨rfl, rfl, rwTx (aT A) k, h1, rwTx_ok, f2, ((e4.trans g3).trans f3).up (by omega)⟩
/-- the mark is a number of the theatre alone, and changes the line alone -/
theorem y_mark (h : CK s A) (W : WA n A) (hn : n < 10000) : ∃ s1 x, m_L_mark s = some (.inl (mrk (aT A)), s1) ∧ CK s1 (setL A x) ∧ WA n (setL A x) ∧ Ku 72 s s1 := by
  have w := W.1.sz (by omega)
  have z : okR (m_L_mark s) (mQ A s (0 + 72) (mrk (aT A))) := by
    unfold m_L_mark
    rw [k_moveCount h, bP_some, k_removeCount h, bP_some, k_addedLoudness h, bP_some, k_lostLoudness h, bP_some]
    exact mk_r (x := aL A) h W.2.2.2.2.2.1 W.2.2.2.2.2.2.2.2.2 W.1 w Ku.refl
  obtain ⟨o, s1, e, rfl, x, z1, z2, z3, z4⟩ := z
  exact ⟨s1, x, e, z3, W.setL z1 z2, z4⟩
end
