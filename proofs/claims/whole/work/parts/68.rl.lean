/-! ===== the reference: lines; undoing; the saved copy; appending ===== -/
/-- the line's text, behind s0 -/
def LW (s0 s : Mem) (x : Tx) : Prop := gI s 8 9 = nI x.1 ∧ (∀ k, k < x.1 → gI s 584 k = nI (x.2 k)) ∧ ∀ c j, c ≠ 584 → (c ≠ 8 ∨ j ≠ 9) → gI s c j = gI s0 c j
theorem ch128 : ∀ c, c < 128 → vp_nar .char (((nI c).toUInt32 % 65536).toInt32) = nI c := by decide
theorem dgk {v : Nat} (h : v < 1000000) : (∀ k, k + 1 < sb_dg v → 10 * 10 ^ k ≤ v) ∧ v < 10 * 10 ^ (sb_dg v - 1) ∧ 1 ≤ sb_dg v ∧ sb_dg v ≤ 6 := by
  unfold sb_dg
  by_cases a1 : v < 10
  · rw [if_pos a1]
    exact ⟨fun k hk => absurd hk (by omega), by simpa using a1, by decide, by decide⟩
  rw [if_neg a1]
  by_cases a2 : v < 100
  · rw [if_pos a2]
    refine ⟨fun k hk => ?_, by simpa using a2, by decide, by decide⟩
    rcases (show k = 0 by omega) with rfl
    simp; omega
  rw [if_neg a2]
  by_cases a3 : v < 1000
  · rw [if_pos a3]
    refine ⟨fun k hk => ?_, by simpa using a3, by decide, by decide⟩
    rcases (show k = 0 ∨ k = 1 by omega) with rfl | rfl <;> (simp; omega)
  rw [if_neg a3]
  by_cases a4 : v < 10000
  · rw [if_pos a4]
    refine ⟨fun k hk => ?_, by simpa using a4, by decide, by decide⟩
    rcases (show k = 0 ∨ k = 1 ∨ k = 2 by omega) with rfl | rfl | rfl <;> (simp; omega)
  rw [if_neg a4]
  by_cases a5 : v < 100000
  · rw [if_pos a5]
    refine ⟨fun k hk => ?_, by simpa using a5, by decide, by decide⟩
    rcases (show k = 0 ∨ k = 1 ∨ k = 2 ∨ k = 3 by omega) with rfl | rfl | rfl | rfl <;> (simp; omega)
  rw [if_neg a5, if_pos h]
  refine ⟨fun k hk => ?_, by simpa using h, by decide, by decide⟩
  rcases (show k = 0 ∨ k = 1 ∨ k = 2 ∨ k = 3 ∨ k = 4 by omega) with rfl | rfl | rfl | rfl | rfl <;> (simp; omega)
theorem pow6 {k : Nat} (h : k ≤ 6) : 0 < 10 ^ k ∧ 10 ^ k ≤ 1000000 := ⟨Nat.pow_pos (by decide), by
  have := Nat.pow_le_pow_right (n := 10) (by decide) h
  simpa using this⟩
section
variable {s0 s s1 s2 u : Mem} {T : Th} {A : Ab} {n m f t : Nat} {p q : Int32} {x y : Tx}
theorem LW.eq (h : LW s0 s x) (h1 : y.1 = x.1) (h2 : ∀ k, k < x.1 → y.2 k = x.2 k) : LW s0 s y :=
  ⟨by rw [h1]; exact h.1, fun k hk => by rw [h2 k (by omega)]; exact h.2.1 k (by omega), h.2.2⟩
theorem LW.rf (h : LW s0 s x) (hr : RF 136 0 s0 T) : RF 136 0 s T := hr.kp fun j => h.2.2 136 j (by decide) (Or.inl (by decide))
theorem r_writes (h : LW s0 s x) {c : Nat} (hc : c < 128) (hx : x.1 < 360) : okR (m_X8_writes (nI c) s) (fun o s' => o = .inl () ∧ LW s0 s' (txC x c)) := by
  unfold m_X8_writes
  rw [h.1, if_pos (show ib (nI x.1) 360 by rw [nIb (by omega)]; exact hx), okR_vl, okR_vl, okR_some, gI_o (by decide), h.1, nI_1, nN (by omega), ch128 c hc]
  refine ⟨rfl, gI_s, fun k hk => ?_, fun c' j h1 h2 => ?_⟩
  · have hk : k < x.1 + 1 := hk
    rw [gI_o (by decide)]
    show _ = nI (sb_cat x.2 x.1 (fun _ => c) k)
    unfold sb_cat
    by_cases z : k = x.1
    · subst z; rw [gI_s, if_neg (by omega)]
    · rw [gI_k z, if_pos (by omega)]; exact h.2.1 k (by omega)
  · rw [gI_2 (by omega), gI_o h1]; exact h.2.2 c' j h1 h2
theorem r_writesNumber (h : LW s0 s x) {v : Nat} (hv : v < 1000000) (hx : x.1 + sb_dg v ≤ 360) : okR (m_X8_writesNumber (nI v) s) (fun o s' => o = .inl () ∧ LW s0 s' (txN x v)) := by
  obtain ⟨d1, d2, d3, d4⟩ := dgk hv
  obtain ⟨d, ed⟩ : ∃ d, d = sb_dg v := ⟨_, rfl⟩
  have es : ∀ i, sb_dec v i = 48 + v / 10 ^ (d - 1 - i) % 10 := fun i => by unfold sb_dec; rw [ed]
  rw [← ed] at d1 d2 d3 d4 hx
  refine lp_i (fun k a => a = nI (10 ^ k) ∧ k ≤ d - 1) 6 ⟨rfl, Nat.zero_le _⟩ (by decide) fun k a kf hk hI hkf => ?_
  obtain ⟨rfl, hI⟩ := hI
  obtain ⟨p1, p2⟩ := pow6 (k := k) (by omega)
  unfold m_X8_writesNumber_b2
  rw [if_pos (show ¬ nI (10 ^ k) = 0 from nI_ne0 p1 (by omega)), pk_div (by omega) p1 (by omega)]
  have hvk : v / 10 ^ k ≤ v := Nat.div_le_self _ _
  by_cases q : k < d - 1
  · have h1 := d1 k (by omega)
    have h2 : ¬ v / 10 ^ k < 10 := by rw [Nat.div_lt_iff_lt_mul p1]; omega
    rw [if_neg (show ¬ nI (v / 10 ^ k) ≤ 9 by rw [show (9 : Int32) = nI 9 from rfl, nLe (by omega) (by omega)]; omega), okR_vl, show (10 : Int32) = nI 10 from rfl, nM, ← Nat.pow_succ]
    exact hkf _ (by omega) ⟨rfl, by omega⟩
  · have e : k = d - 1 := by omega
    subst e
    have h2 : v / 10 ^ (d - 1) < 10 := by rw [Nat.div_lt_iff_lt_mul p1]; omega
    rw [if_pos (show nI (v / 10 ^ (d - 1)) ≤ 9 by rw [show (9 : Int32) = nI 9 from rfl, nLe (by omega) (by omega)]; omega)]
    refine lp_i (fun i a => a.1 = nI (if i < d then 10 ^ (d - 1 - i) else 0) ∧ LW s0 a.2 (x.1 + i, sb_cat x.2 x.1 (sb_dec v))) d ⟨by rw [if_pos (by omega)]; rfl, LW.eq (y := (x.1 + 0, sb_cat x.2 x.1 (sb_dec v))) h rfl (fun k hk => sb_cat_lo hk)⟩ (by omega) fun i a kf2 hi hI2 hkf2 => ?_
    obtain ⟨w3, s1⟩ := a
    obtain ⟨e1, h1⟩ := hI2
    dsimp only at e1 h1
    subst e1
    unfold m_X8_writesNumber_b20
    dsimp only
    by_cases y : i < d
    · obtain ⟨p3, p4⟩ := pow6 (k := d - 1 - i) (by omega)
      have hvi : v / 10 ^ (d - 1 - i) ≤ v := Nat.div_le_self _ _
      simp only [if_pos y]
      rw [if_neg (show ¬ nI (10 ^ (d - 1 - i)) ≤ 0 from nI_nle p3 (by omega)), if_pos (show ¬ nI (10 ^ (d - 1 - i)) = 0 from nI_ne0 p3 (by omega)), pk_div (by omega) p3 (by omega), show (10 : Int32) = nI 10 from rfl, pk_rem (by omega) (by decide) (by decide), show (48 : Int32) = nI 48 from rfl, nI_add, ← es, okR_bindR]
      refine okR_mono (r_writes h1 (c := sb_dec v i) (by rw [es]; omega) (by show x.1 + i < 360; omega)) fun o s2 z => ?_
      obtain ⟨rfl, z⟩ := z
      rw [thn_l, okR_vl, pk_div (by omega) (by decide) (by decide)]
      refine hkf2 _ y ⟨?_, z.eq rfl (fun k hk => ?_)⟩
      · dsimp only
        by_cases w : i + 1 < d
        · rw [if_pos w, show d - 1 - i = (d - 1 - (i + 1)) + 1 by omega, Nat.pow_succ, Nat.mul_div_cancel _ (by decide)]
        · rw [if_neg w, show d - 1 - i = 0 by omega]
      · have hk : k < x.1 + i + 1 := hk
        show sb_cat x.2 x.1 (sb_dec v) k = sb_cat (sb_cat x.2 x.1 (sb_dec v)) (x.1 + i) (fun _ => sb_dec v i) k
        by_cases w : k < x.1 + i
        · exact (if_pos w).symm
        · have e : k = x.1 + i := by omega
          subst e
          rw [sb_cat_hi]
          exact (if_neg w).symm
    · have e : i = d := by omega
      subst e
      simp only [if_neg y]
      rw [if_pos (show nI 0 ≤ 0 by decide), okR_some]
      refine ⟨rfl, ?_⟩
      have := h1
      rw [ed] at this
      exact this
theorem okW {α : Type} {r : Res Unit} {F : Unit → Mem → Res α} {Q : α ⊕ String → Mem → Prop} {s0 : Mem} {x : Tx} (h : okR r (fun o s' => o = .inl () ∧ LW s0 s' x)) (H : ∀ s', LW s0 s' x → okR (F () s') Q) : okR (bindR r F) Q := by
  rw [okR_bindR]
  refine okR_mono h fun o s' z => ?_
  obtain ⟨rfl, z⟩ := z
  rw [thn_l]
  exact H s' z
theorem r_fr107 (hr : RF 136 0 s0 T) (w : Sz T) {r : Nat} (h8 : r < 8) (h : LW s0 s x) (hx : x.1 ≤ 11) : okR (lp (fun kf107 (a : Int32 × Mem) => m_X8_formatRow_b107 (nI r) a.2 kf107 a.1) FUEL (0, s)) (fun o s' => o = .inl (nI (ecs T r x (tN T)).1) ∧ LW s0 s' (ecs T r x (tN T))) := by
  have hN := w.2.1
  have hR := w.1
  have hX := w.2.2.1.1
  refine lp_i (fun j a => a.1 = nI j ∧ LW s0 a.2 (ecs T r x j)) (tN T) ⟨rfl, h⟩ (by omega) fun j a kf hj hI hkf => ?_
  obtain ⟨w2, s1⟩ := a
  obtain ⟨e1, h1⟩ := hI
  dsimp only at e1 h1
  subst e1
  have hr1 := h1.rf hr
  have hg : gI s1 136 (1 : Int32).toNatClampNeg = nI (tN T) := hr1.rN
  unfold m_X8_formatRow_b107
  dsimp only
  rw [if_pos (show ib (1 : Int32) 135 by decide), hg]
  by_cases q : j < tN T
  · obtain ⟨a1, a2, _, a3, _⟩ := w.2.2.2.1 j q
    have a4 := ecs_le w (r := r) (x := x) j (by omega)
    have a5 := dg6 (v := tI T j) (by omega)
    have a6 := dg3 (v := tU T j) (by omega)
    have ee : ecs T r x (j + 1) = if tW T j = r then txN (txC (txN (txC (ecs T r x j) 32) (tI T j)) 58) (tU T j) else ecs T r x j := rfl
    rw [if_neg (show ¬ nI (tN T) ≤ nI j by rw [nLe (by omega) (by omega)]; omega), show m_X8_is (nI j) 1 s1 = some (nI (tW T j)) from r_W hr1 w q, bP_some]
    simp (disch := omega) only [nE]
    by_cases z : tW T j = r
    · rw [if_pos z] at ee
      rw [if_neg (fun y => y z)]
      unfold m_X8_writesEcho
      rw [okR_bindR]
      refine okR_mono (Q := fun o s' => o = .inl () ∧ LW s0 s' (ecs T r x (j + 1))) ?_ fun o s' y => ?_
      · refine okW (r_writes h1 (c := 32) (by decide) (by omega)) fun s2 h2 => ?_
        rw [show m_X8_is (nI j) 0 s2 = some (nI (tI T j)) from r_I (h2.rf hr) w q, bP_some]
        have t1 : (txC (ecs T r x j) 32).1 = (ecs T r x j).1 + 1 := rfl
        refine okW (r_writesNumber h2 (v := tI T j) (by omega) (by omega)) fun s3 h3 => ?_
        have t2 : (txN (txC (ecs T r x j) 32) (tI T j)).1 = (ecs T r x j).1 + 1 + sb_dg (tI T j) := rfl
        refine okW (r_writes h3 (c := 58) (by decide) (by omega)) fun s4 h4 => ?_
        have t3 : (txC (txN (txC (ecs T r x j) 32) (tI T j)) 58).1 = (ecs T r x j).1 + 1 + sb_dg (tI T j) + 1 := rfl
        rw [show m_X8_is (nI j) 2 s4 = some (nI (tU T j)) from r_U (h4.rf hr) w q, bP_some]
        refine okW (r_writesNumber h4 (v := tU T j) (by omega) (by omega)) fun s5 h5 => ?_
        rw [okR_some, ee]
        exact ⟨rfl, h5⟩
      · obtain ⟨rfl, y⟩ := y
        rw [thn_l, okR_vl, nI_1]
        exact hkf _ q ⟨rfl, y⟩
    · rw [if_neg z] at ee
      rw [if_pos z, okR_vl, nI_1]
      exact hkf _ q ⟨rfl, by rw [ee]; exact h1⟩
  · have e : j = tN T := by omega
    subst e
    rw [if_pos (show nI (tN T) ≤ nI (tN T) by rw [nLe (by omega) (by omega)]; exact Nat.le_refl _), okR_some, h1.1]
    exact ⟨rfl, h1⟩
theorem r_fr85 (hr : RF 136 0 s0 T) (w : Sz T) {r : Nat} (hrR : r < tR T) (h : LW s0 s (rwT2 T r)) : okR (m_X8_formatRow_j85 (nI r) s) (fun o s' => o = .inl (nI (rwTx T r).1) ∧ LW s0 s' (rwTx T r)) := by
  have hR := w.1
  have h9 := rwT2_le w hrR
  unfold m_X8_formatRow_j85
  refine okW (r_writes h (c := 93) (by decide) (by omega)) fun s1 h1 => ?_
  rw [r_isLocked (h1.rf hr) w hrR, bP_some]
  have ee : rwT3 T r = if tK T r = true then txC (txC (rwT2 T r) 93) 33 else txC (rwT2 T r) 93 := rfl
  have h3 := rwT3_le w hrR
  cases q : tK T r with
  | false =>
    rw [q, if_neg (by decide)] at ee
    rw [if_pos (show bI false = 0 from rfl)]
    rw [ee] at h3
    have := r_fr107 hr w (show r < 8 by omega) h1 h3
    rw [← ee] at this
    exact this
  | true =>
    rw [q, if_pos rfl] at ee
    rw [if_neg (show ¬ bI true = 0 by decide)]
    refine okW (r_writes h1 (c := 33) (by decide) (by show (rwT2 T r).1 + 1 < 360; omega)) fun s2 h2 => ?_
    rw [ee] at h3
    have := r_fr107 hr w (show r < 8 by omega) h2 h3
    rw [← ee] at this
    exact this
theorem MK.lw (h : MK s0 A) (k : LW s0 s x) : MK s (setL A x) := by
  obtain ⟨h1, ⟨f, hf, h2⟩, a1, a2, a3, a4, a5, a6, a7, a8⟩ := h
  have g : ∀ j, j ≠ 9 → gI s 8 j = gI s0 8 j := fun j hj => k.2.2 8 j (by decide) (Or.inr hj)
  refine ⟨k.rf h1, ⟨f, hf, h2.kp (g 5 (by decide)) (g 6 (by decide)) (fun j => k.2.2 200 j (by decide) (Or.inl (by decide)))⟩, (g 7 (by decide)).trans a1, fun T e => (a2 T e).kp (fun j => k.2.2 264 j (by decide) (Or.inl (by decide))), k.1, k.2.1, (g 11 (by decide)).trans a5, fun i hi => (k.2.2 712 i (by decide) (Or.inl (by decide))).trans (a6 i hi), (g 13 (by decide)).trans a7, (g 14 (by decide)).trans a8⟩
theorem LW.ml {L : List Nat} (h : MK s0 A) (h0 : gI s0 8 0 = nI 0) {v : Int32} (k : LW s0 s x) {o : Int32 ⊕ String} (e : o = .inl v) : ml L (.inr v) (setL A x) o s :=
  ⟨h.lw k, (k.2.2 8 0 (by decide) (Or.inr (by decide))).trans h0, e⟩
theorem LW.z : LW s (pI s 8 9 0) tx0 := ⟨gI_s, fun k hk => absurd hk (Nat.not_lt_zero _), fun c j _ h => gI_2 h⟩
theorem q_formatRow (h : MK s A) (w : Sz (aT A)) : okR (m_X8_formatRow p s) (ml [0, 0, 1] (frA A p).1 (frA A p).2) := by
  obtain ⟨h1, h2⟩ := h.z
  have hR := w.1
  unfold m_X8_formatRow frA
  rw [okR_vl, r_isRow h1.1 w, bP_some]
  cases e : rwp (aT A) p with
  | none =>
    rw [if_neg (show ¬ ¬ bI (none : Option Nat).isSome = 0 from (by decide : ¬ ¬ bI false = 0))]
    exact r_fails h1 rfl (fun s => rk1)
  | some r =>
    obtain ⟨hr, rfl⟩ := rwp_lt e
    have c24 := cnt_le24 w r
    have c12 := (w.2.2.2.2 r).1
    have c6 := (w.2.2.2.2 r).2.1
    have g1 := dg1 (v := r) (by omega)
    have g2 := dg2 (v := cnt (aT A) r) (by omega)
    have g3 := dg2 (v := tC (aT A) r) (by omega)
    have g4 := dg1 (v := tP (aT A) r) (by omega)
    rw [if_pos bs, okR_vl]
    have hT := h1.1
    obtain ⟨s0, es0⟩ : ∃ z, z = pI s 8 0 0 := ⟨_, rfl⟩
    rw [← es0] at h1 h2 hT ⊢
    refine okR_mono (Q := fun o s' => o = .inl (nI (rwTx (aT A) r).1) ∧ LW s0 s' (rwTx (aT A) r)) ?_ fun o s' z => LW.ml h1 h2 z.2 z.1
    refine okW (r_writesNumber LW.z (v := r) (by omega) (by show 0 + _ ≤ 360; omega)) fun s3 h3 => ?_
    refine okW (r_writes h3 (c := 91) (by decide) (by show 0 + sb_dg r < 360; omega)) fun s4 h4 => ?_
    rw [r_countIn (h4.rf hT) w (by omega), bP_some]
    refine okW (r_writesNumber h4 (v := cnt (aT A) r) (by omega) (by show 0 + sb_dg r + 1 + sb_dg (cnt (aT A) r) ≤ 360; omega)) fun s5 h5 => ?_
    refine okW (r_writes h5 (c := 47) (by decide) (by show 0 + sb_dg r + 1 + sb_dg (cnt (aT A) r) < 360; omega)) fun s6 h6 => ?_
    rw [show m_X8_of (nI r) 0 s6 = some (nI (tC (aT A) r)) from r_C (h6.rf hT) w hr, bP_some]
    refine okW (r_writesNumber h6 (v := tC (aT A) r) (by omega) (by show 0 + sb_dg r + 1 + sb_dg (cnt (aT A) r) + 1 + sb_dg (tC (aT A) r) ≤ 360; omega)) fun s7 h7 => ?_
    rw [show m_X8_of (nI r) 1 s7 = some (nI (tP (aT A) r)) from r_P (h7.rf hT) w hr, bP_some]
    have ee : rwT2 (aT A) r = if 0 < tP (aT A) r then txN (txC (rwT1 (aT A) r) 43) (tP (aT A) r) else rwT1 (aT A) r := rfl
    by_cases q : 0 < tP (aT A) r
    · rw [if_pos q] at ee
      rw [if_neg (show ¬ nI (tP (aT A) r) ≤ 0 from nI_nle q (by omega))]
      refine okW (r_writes h7 (c := 43) (by decide) (by show 0 + sb_dg r + 1 + sb_dg (cnt (aT A) r) + 1 + sb_dg (tC (aT A) r) < 360; omega)) fun s8 h8 => ?_
      rw [show m_X8_of (nI r) 1 s8 = some (nI (tP (aT A) r)) from r_P (h8.rf hT) w hr, bP_some]
      refine okW (r_writesNumber h8 (v := tP (aT A) r) (by omega) (by show 0 + sb_dg r + 1 + sb_dg (cnt (aT A) r) + 1 + sb_dg (tC (aT A) r) + 1 + sb_dg (tP (aT A) r) ≤ 360; omega)) fun s9 h9 => ?_
      exact r_fr85 hT w hr (by rw [ee]; exact h9)
    · rw [if_neg q] at ee
      rw [if_pos (show nI (tP (aT A) r) ≤ 0 by rw [show tP (aT A) r = 0 by omega]; decide)]
      exact r_fr85 hT w hr (by rw [ee]; exact h7)
theorem q_formatEcho (h : MK s A) (w : Sz (aT A)) : okR (m_X8_formatEcho p s) (ml [0, 1] (feA A p).1 (feA A p).2) := by
  obtain ⟨h1, h2⟩ := h.z
  have hR := w.1
  have hN := w.2.1
  have hX := w.2.2.1.1
  unfold m_X8_formatEcho feA
  rw [okR_vl, r_slotOf h1.1 w, bP_some]
  cases e : sltp (aT A) p with
  | none =>
    rw [if_neg (show ¬ 0 ≤ eo none by decide)]
    exact r_fails h1 rfl (fun s => rk1)
  | some k =>
    obtain ⟨hk, rfl⟩ := sltp_lt e
    obtain ⟨a1, a2, _, a3, a4⟩ := w.2.2.2.1 k hk
    have g1 := dg6 (v := tI (aT A) k) (by omega)
    have g2 := dg1 (v := tW (aT A) k) (by omega)
    have g3 := dg3 (v := tU (aT A) k) (by omega)
    rw [if_pos (show 0 ≤ eo (some k) from nI_pos' (by omega)), show eo (some k) = nI k from rfl, okR_vl]
    have hT := h1.1
    obtain ⟨s0, es0⟩ : ∃ z, z = pI s 8 0 0 := ⟨_, rfl⟩
    rw [← es0] at h1 h2 hT ⊢
    refine okR_mono (Q := fun o s' => o = .inl (nI (ehTx (aT A) k).1) ∧ LW s0 s' (ehTx (aT A) k)) ?_ fun o s' z => LW.ml h1 h2 z.2 z.1
    refine okW (r_writes LW.z (c := 35) (by decide) (by decide)) fun s3 h3 => ?_
    refine okW (r_writesNumber h3 (v := tI (aT A) k) (by omega) (by show 0 + 1 + _ ≤ 360; omega)) fun s4 h4 => ?_
    refine okW (r_writes h4 (c := 64) (by decide) (by show 0 + 1 + sb_dg (tI (aT A) k) < 360; omega)) fun s5 h5 => ?_
    rw [show m_X8_is (nI k) 1 s5 = some (nI (tW (aT A) k)) from r_W (h5.rf hT) w hk, bP_some]
    refine okW (r_writesNumber h5 (v := tW (aT A) k) (by omega) (by show 0 + 1 + sb_dg (tI (aT A) k) + 1 + sb_dg (tW (aT A) k) ≤ 360; omega)) fun s6 h6 => ?_
    refine okW (r_writes h6 (c := 61) (by decide) (by show 0 + 1 + sb_dg (tI (aT A) k) + 1 + sb_dg (tW (aT A) k) < 360; omega)) fun s7 h7 => ?_
    rw [show m_X8_is (nI k) 2 s7 = some (nI (tU (aT A) k)) from r_U (h7.rf hT) w hk, bP_some]
    refine okW (r_writesNumber h7 (v := tU (aT A) k) (by omega) (by show 0 + 1 + sb_dg (tI (aT A) k) + 1 + sb_dg (tW (aT A) k) + 1 + sb_dg (tU (aT A) k) ≤ 360; omega)) fun s8 h8 => ?_
    rw [show m_X8_is (nI k) 3 s8 = some (e1 (tH (aT A) k)) from r_H (h8.rf hT) w hk, bP_some]
    have ee : ehTx (aT A) k = match tH (aT A) k with | none => ehT1 (aT A) k | some d => txN (txC (ehT1 (aT A) k) 62) d := rfl
    cases e2 : tH (aT A) k with
    | none =>
      rw [e2] at ee
      dsimp only at ee
      rw [if_pos (show e1 none ≤ 0 by decide), okR_some, ee, h8.1]
      exact ⟨rfl, h8⟩
    | some d =>
      rw [e2] at ee
      dsimp only at ee
      have hd := a4 d e2
      have g4 := dg6 (v := d) (by omega)
      rw [if_neg (show ¬ e1 (some d) ≤ 0 from nI_nle (by omega) (by omega))]
      refine okW (r_writes h8 (c := 62) (by decide) (by show 0 + 1 + sb_dg (tI (aT A) k) + 1 + sb_dg (tW (aT A) k) + 1 + sb_dg (tU (aT A) k) < 360; omega)) fun s9 h9 => ?_
      rw [show m_X8_is (nI k) 3 s9 = some (e1 (tH (aT A) k)) from r_H (h9.rf hT) w hk, bP_some, e2, show e1 (some d) = nI (d + 1) from rfl, nI_pred]
      refine okW (r_writesNumber h9 (v := d) (by omega) (by show 0 + 1 + sb_dg (tI (aT A) k) + 1 + sb_dg (tW (aT A) k) + 1 + sb_dg (tU (aT A) k) + 1 + sb_dg d ≤ 360; omega)) fun s10 h10 => ?_
      rw [okR_some, h10.1, ee]
      exact ⟨rfl, h10⟩
theorem q_lineChar (h : MK s A) (hx : (aL A).1 ≤ 360) (ho : TxOk (aL A)) : okR (m_X8_lineChar p s) (ml [0, 0, 1] (a_lineChar (aL A) p) A) := by
  obtain ⟨h1, h2⟩ := h.z
  have h9 : gI (pI s 8 0 0) 8 9 = nI (aL A).1 := h1.2.2.2.2.1
  have h5 := h1.2.2.2.2.2.1
  unfold m_X8_lineChar a_lineChar
  rw [okR_vl, h9, r_between, bP_some]
  have hf : ∀ u : Mem, ∃ w : Int32, (fun (v : Int32) (s : Mem) => (if vp_nar .char ((v.toUInt32 % 65536).toInt32) = (v.toUInt32 % 65536).toInt32 then some (.inl ((v.toUInt32 % 65536).toInt32), s) else none : Res Int32)) 0 u = some (.inl w, u) := fun u => ⟨0, rfl⟩
  have no : p < 0 ∨ nI (aL A).1 ≤ p → (decide (¬ p < 0) && decide (¬ nI (aL A).1 - 1 < p)) = false := fun hp => by
    by_cases z : p < 0
    · simp [z]
    · obtain ⟨a, ha, rfl⟩ := nI_of z
      have hq : nI (aL A).1 ≤ nI a := hp.resolve_left z
      rw [nLe (by omega) ha] at hq
      have : nI (aL A).1 - 1 < nI a := by
        by_cases y : (aL A).1 = 0
        · rw [y, show nI 0 - 1 = m1 from rfl]
          exact Int32.lt_of_lt_of_le (show m1 < nI 0 by decide) (by rw [nLe (by decide) ha]; omega)
        · rw [show (1 : Int32) = nI 1 from rfl, nS' (by omega), nL (by omega) ha]; omega
      simp [this]
  by_cases q : p < 0
  · rw [fnd_nIn (by omega) (Or.inl q), no (Or.inl q), if_pos (show bI false = 0 from rfl)]
    exact r_fails h1 rfl hf
  · obtain ⟨a, ha0, rfl⟩ := nI_of q
    by_cases ha : a < (aL A).1
    · have yes : (decide (¬ nI a < 0) && decide (¬ nI (aL A).1 - 1 < nI a)) = true := by
        have : ¬ nI (aL A).1 - 1 < nI a := by rw [show (1 : Int32) = nI 1 from rfl, nS' (by omega), nL (by omega) (by omega)]; omega
        simp [q, this]
      rw [fnd_nI (by omega) ha, yes, if_neg (show ¬ bI true = 0 by decide), if_pos (show ib (nI a) 360 by rw [nIb (by omega)]; omega), nN (by omega), h5 a ha, if_pos (nar_char _ (ho a ha)), okR_some]
      exact ml_in h1 h2
    · have hq : nI (aL A).1 ≤ nI a := by rw [nLe (by omega) (by omega)]; omega
      rw [fnd_nIn (by omega) (Or.inr hq), no (Or.inr hq), if_pos (show bI false = 0 from rfl)]
      exact r_fails h1 rfl hf
end
