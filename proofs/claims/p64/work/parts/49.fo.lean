/-! ===== the class: formatting, reading the line, appending ===== -/
section
variable {s s1 s2 : Mem} {T : Th} {A : Ab} {n m t : Nat} {x : Tx}
theorem c_appendEchoes (h : RC t s T) (w : Sz T) {r : Nat} (hr : r < 8) (hb : BT s 7 x) (hx : x.1 ≤ 100) : okR (m_X7_appendEchoesOf t (nI r) s) (fun o s' => o = .inl () ∧ BT s' 7 (ecs T r x (tN T)) ∧ Ln 7 s s') := by
  have hN := w.2.1
  have hR := w.1
  have hX := w.2.2.1.1
  refine lp_i (fun j a => a.1 = nI j ∧ BT a.2 7 (ecs T r x j) ∧ Ln 7 s a.2) (tN T) ⟨rfl, hb, Ln.refl⟩ (by omega) fun j a kf hj hI hkf => ?_
  obtain ⟨w3, s0⟩ := a
  obtain ⟨e1, h1, h2⟩ := hI
  dsimp only at e1 h1 h2
  subst e1
  have h0 := h.ln h2
  by_cases q : j < tN T
  · obtain ⟨a1, a2, _, a3, _⟩ := w.2.2.2.1 j q
    have a4 := ecs_le w (r := r) (x := x) j (by omega)
    have a5 := dg6 (v := tI T j) (by omega)
    have a6 := dg3 (v := tU T j) (by omega)
    simp (disch := omega) only [m_X7_appendEchoesOf_b2, h0.hN, nLe, nIb, nN, if_neg, if_pos, h0.hW q, nE]
    have ee : ecs T r x (j + 1) = if tW T j = r then txN (txC (txN (txC (ecs T r x j) 32) (tI T j)) 58) (tU T j) else ecs T r x j := rfl
    by_cases z : tW T j = r
    · rw [if_pos z] at ee
      simp only [z, not_true_eq_false, if_false]
      refine okR_sbC (c := 32) rfl h1 (Or.inr rfl) (by decide) (by omega) fun u1 b1 l1 => ?_
      have t1 : (txC (ecs T r x j) 32).1 = (ecs T r x j).1 + 1 := rfl
      rw [(h0.ln l1).hI q]
      refine okR_sbI rfl b1 (Or.inr rfl) (by omega) (by omega) fun u2 b2 l2 => ?_
      have t2 : (txN (txC (ecs T r x j) 32) (tI T j)).1 = (ecs T r x j).1 + 1 + sb_dg (tI T j) := rfl
      refine okR_sbC (c := 58) rfl b2 (Or.inr rfl) (by decide) (by omega) fun u3 b3 l3 => ?_
      have t3 : (txC (txN (txC (ecs T r x j) 32) (tI T j)) 58).1 = (ecs T r x j).1 + 1 + sb_dg (tI T j) + 1 := rfl
      rw [(((h0.ln l1).ln l2).ln l3).hU q]
      refine okR_sbI rfl b3 (Or.inr rfl) (by omega) (by omega) fun u4 b4 l4 => ?_
      rw [okR_vl, nI_1]
      exact hkf _ q ⟨rfl, by rw [ee]; exact b4, (((h2.trans l1).trans l2).trans l3).trans l4⟩
    · rw [if_neg z] at ee
      simp only [z, not_false_eq_true, if_true]
      rw [okR_vl, nI_1]
      exact hkf _ q ⟨rfl, by rw [ee]; exact h1, h2⟩
  · have e : j = tN T := by omega
    subst e
    simp (disch := omega) only [m_X7_appendEchoesOf_b2, h0.hN, nLe, if_pos, Nat.le_refl]
    exact okR_some.mpr ⟨rfl, h1, h2⟩
theorem c_fr3 (h : RC t s T) (w : Sz T) {r : Nat} (hr : r < tR T) (hb : BT s 7 (rwT3 T r)) : okR (m_X7_formatRow_j112 (nI r) t s) (fun o s' => o = .inl (nI (rwTx T r).1) ∧ BT s' 7 (rwTx T r) ∧ Ln 7 s s') := by
  have hR := w.1
  have h1 := rwT3_le w hr
  unfold m_X7_formatRow_j112
  rw [okR_bindR]
  refine okR_mono (c_appendEchoes h w (show r < 8 by omega) hb (by omega)) fun o s1 q => ?_
  obtain ⟨rfl, q1, q2⟩ := q
  rw [thn_l, okR_some, q1.1]
  exact ⟨rfl, q1, q2⟩
theorem c_fr2 (h : RC t s T) (w : Sz T) {r : Nat} (hr : r < tR T) (hb : BT s 7 (rwT2 T r)) : okR (m_X7_formatRow_j83 (nI r) t s) (fun o s' => o = .inl (nI (rwTx T r).1) ∧ BT s' 7 (rwTx T r) ∧ Ln 7 s s') := by
  have hR := w.1
  have h1 := rwT2_le w hr
  unfold m_X7_formatRow_j83
  refine okR_sbC (c := 93) rfl hb (Or.inr rfl) (by decide) (by omega) fun u1 b1 l1 => ?_
  have c1 := h.ln l1
  simp (disch := omega) only [nIb, nN, if_pos, c1.hK (show r < 8 by omega)]
  have ee : rwT3 T r = if tK T r = true then txC (txC (rwT2 T r) 93) 33 else txC (rwT2 T r) 93 := rfl
  cases q : tK T r with
  | false =>
    rw [q] at ee
    rw [if_pos (show bI false = 0 from rfl)]
    refine okR_mono (c_fr3 c1 w hr (by rw [ee]; exact b1)) fun o s' z => ⟨z.1, z.2.1, l1.trans z.2.2⟩
  | true =>
    rw [q, if_pos rfl] at ee
    rw [if_neg (show ¬ bI true = 0 by decide)]
    refine okR_sbC (c := 33) rfl b1 (Or.inr rfl) (by decide) (by show (rwT2 T r).1 + 1 < 400; omega) fun u2 b2 l2 => ?_
    refine okR_mono (c_fr3 (c1.ln l2) w hr (by rw [ee]; exact b2)) fun o s' z => ⟨z.1, z.2.1, (l1.trans l2).trans z.2.2⟩
theorem k_formatRow (h : CK s A) (w : Sz (aT A)) {p : Int32} : okR (m_X7_formatRow p s) (cl s (frA A p).1 (frA A p).2) := by
  have h0 := h
  obtain ⟨⟨n, hn, hH⟩, _⟩ := h
  have hR := w.1
  unfold m_X7_formatRow m_X7_theatreWithRow frA
  rw [c_present hH hn, bP_some, if_pos (th12 hn), c_hasRow hH.2.2.1 w, bP_some]
  cases e : rwp (aT A) p with
  | none => exact okR_some.mpr (cl_tr h0)
  | some r =>
    obtain ⟨hr, rfl⟩ := rwp_lt e
    rw [show (if (some r).isSome = true then nI 1 else nI 0) = nI 1 from rfl, if_pos (show ¬ nI 1 = 0 by decide), bR_l, if_pos (th12 hn), okR_vl]
    have hC := hH.2.2.1
    obtain ⟨b0, l0⟩ := ln_z (s := s) (o := 7) (Or.inr rfl)
    have g1 := dg1 (v := r) (by omega)
    have g2 := dg2 (v := cnt (aT A) r) (by have := cnt_le24 w r; omega)
    have g3 := dg2 (v := tC (aT A) r) (by have := (w.2.2.2.2 r).1; omega)
    have g4 := dg1 (v := tP (aT A) r) (by have := (w.2.2.2.2 r).2.1; omega)
    have fin : ∀ {s' s2 : Mem} {o : Int32 ⊕ String}, Ln 7 s s' → (o = .inl (nI (rwTx (aT A) r).1) ∧ BT s2 7 (rwTx (aT A) r) ∧ Ln 7 s' s2) → cl s (.inr (nI (rwTx (aT A) r).1)) (setL A (rwTx (aT A) r)) o s2 := fun l z => ⟨z.1, h0.ln7 (l.trans z.2.2) z.2.1, (l.trans z.2.2).2.2.up (by decide)⟩
    refine okR_sbI rfl b0 (Or.inr rfl) (by omega) (by show 0 + sb_dg r ≤ 400; omega) fun u1 b1 l1 => ?_
    refine okR_sbC (c := 91) rfl b1 (Or.inr rfl) (by decide) (by show 0 + sb_dg r < 400; omega) fun u2 b2 l2 => ?_
    have l2' := (l0.trans l1).trans l2
    rw [c_echoesIn (hC.ln l2') w (by omega), bP_some]
    have c24 := cnt_le24 w r
    have c12 := (w.2.2.2.2 r).1
    have c6 := (w.2.2.2.2 r).2.1
    refine okR_sbI rfl b2 (Or.inr rfl) (by omega) (by show 0 + sb_dg r + 1 + sb_dg (cnt (aT A) r) ≤ 400; omega) fun u3 b3 l3 => ?_
    refine okR_sbC (c := 47) rfl b3 (Or.inr rfl) (by decide) (by show 0 + sb_dg r + 1 + sb_dg (cnt (aT A) r) < 400; omega) fun u4 b4 l4 => ?_
    have l4' := (l2'.trans l3).trans l4
    rw [if_pos (show ib (nI r) 8 by rw [nIb (by omega)]; omega)]
    refine okR_sbI (c := tC (aT A) r) (by rw [nN (show r < 2 ^ 31 by omega)]; exact (hC.ln l4').hC (show r < 8 by omega)) b4 (Or.inr rfl) (by omega) (by show 0 + sb_dg r + 1 + sb_dg (cnt (aT A) r) + 1 + sb_dg (tC (aT A) r) ≤ 400; omega) fun u5 b5 l5 => ?_
    have l5' := l4'.trans l5
    rw [if_pos (show ib (nI r) 8 by rw [nIb (by omega)]; omega)]
    have eP : ∀ {u : Mem}, Ln 7 s u → gI u (12 + n + 128) (nI r).toNatClampNeg = nI (tP (aT A) r) := fun l => by rw [nN (show r < 2 ^ 31 by omega)]; exact (hC.ln l).hP (show r < 8 by omega)
    have ee : rwT2 (aT A) r = if 0 < tP (aT A) r then txN (txC (rwT1 (aT A) r) 43) (tP (aT A) r) else rwT1 (aT A) r := rfl
    by_cases q : 0 < tP (aT A) r
    · rw [if_pos q] at ee
      rw [if_neg (show ¬ gI u5 (12 + n + 128) (nI r).toNatClampNeg ≤ 0 by rw [eP l5']; exact nI_nle q (by omega))]
      refine okR_sbC (c := 43) rfl b5 (Or.inr rfl) (by decide) (by show 0 + sb_dg r + 1 + sb_dg (cnt (aT A) r) + 1 + sb_dg (tC (aT A) r) < 400; omega) fun u6 b6 l6 => ?_
      have l6' := l5'.trans l6
      rw [if_pos (show ib (nI r) 8 by rw [nIb (by omega)]; omega)]
      refine okR_sbI (c := tP (aT A) r) (eP l6') b6 (Or.inr rfl) (by omega) (by show 0 + sb_dg r + 1 + sb_dg (cnt (aT A) r) + 1 + sb_dg (tC (aT A) r) + 1 + sb_dg (tP (aT A) r) ≤ 400; omega) fun u7 b7 l7 => ?_
      exact okR_mono (c_fr2 (hC.ln (l6'.trans l7)) w hr (by rw [ee]; exact b7)) fun o s' z => fin (l6'.trans l7) z
    · rw [if_neg q] at ee
      rw [if_pos (show gI u5 (12 + n + 128) (nI r).toNatClampNeg ≤ 0 by rw [eP l5', show tP (aT A) r = 0 by omega]; decide)]
      exact okR_mono (c_fr2 (hC.ln l5') w hr (by rw [ee]; exact b5)) fun o s' z => fin l5' z
theorem k_formatEcho (h : CK s A) (w : Sz (aT A)) {p : Int32} : okR (m_X7_formatEcho p s) (cl s (feA A p).1 (feA A p).2) := by
  have h0 := h
  obtain ⟨⟨n, hn, hH⟩, _⟩ := h
  have hR := w.1
  have hN := w.2.1
  have hX := w.2.2.1.1
  unfold m_X7_formatEcho m_X7_slotOfActive feA
  rw [c_present hH hn, bP_some, if_pos (th12 hn), c_slotOf hH.2.2.1 w, bP_some, ltI, ltm]
  cases e : sltp (aT A) p with
  | none => exact okR_some.mpr (cl_tr h0)
  | some k =>
    obtain ⟨hk, rfl⟩ := sltp_lt e
    rw [show eo (some k) = nI k from rfl, if_pos (show ¬ nI k = m1 from fun z => by rw [m1_eq (by omega)] at z; exact z), bR_l, c_present hH hn, bP_some, if_pos (th12 hn), okR_vl]
    have hC := hH.2.2.1
    obtain ⟨b0, l0⟩ := ln_z (s := s) (o := 7) (Or.inr rfl)
    obtain ⟨a1, a2, _, a3, a4⟩ := w.2.2.2.1 k hk
    have g1 := dg6 (v := tI (aT A) k) (by omega)
    have g2 := dg1 (v := tW (aT A) k) (by omega)
    have g3 := dg3 (v := tU (aT A) k) (by omega)
    have ik : ib (nI k) 24 := by rw [nIb (by omega)]; omega
    refine okR_sbC (c := 35) rfl b0 (Or.inr rfl) (by decide) (by decide) fun u1 b1 l1 => ?_
    refine okR_sbI rfl b1 (Or.inr rfl) (by omega) (by show 0 + 1 + sb_dg (tI (aT A) k) ≤ 400; omega) fun u2 b2 l2 => ?_
    refine okR_sbC (c := 64) rfl b2 (Or.inr rfl) (by decide) (by show 0 + 1 + sb_dg (tI (aT A) k) < 400; omega) fun u3 b3 l3 => ?_
    have l3' := ((l0.trans l1).trans l2).trans l3
    have nk : (nI k).toNatClampNeg = k := nN (show k < 2 ^ 31 by omega)
    rw [if_pos ik]
    refine okR_sbI (c := tW (aT A) k) (by rw [nk]; exact (hC.ln l3').hW hk) b3 (Or.inr rfl) (by omega) (by show 0 + 1 + sb_dg (tI (aT A) k) + 1 + sb_dg (tW (aT A) k) ≤ 400; omega) fun u4 b4 l4 => ?_
    refine okR_sbC (c := 61) rfl b4 (Or.inr rfl) (by decide) (by show 0 + 1 + sb_dg (tI (aT A) k) + 1 + sb_dg (tW (aT A) k) < 400; omega) fun u5 b5 l5 => ?_
    have l5' := (l3'.trans l4).trans l5
    rw [if_pos ik]
    refine okR_sbI (c := tU (aT A) k) (by rw [nk]; exact (hC.ln l5').hU hk) b5 (Or.inr rfl) (by omega) (by show 0 + 1 + sb_dg (tI (aT A) k) + 1 + sb_dg (tW (aT A) k) + 1 + sb_dg (tU (aT A) k) ≤ 400; omega) fun u6 b6 l6 => ?_
    have l6' := l5'.trans l6
    rw [if_pos ik]
    have eH : ∀ {u : Mem}, Ln 7 s u → gI u (12 + n + 576) (nI k).toNatClampNeg = eo (tH (aT A) k) := fun l => by rw [nk]; exact (hC.ln l).hH hk
    have ee : ehTx (aT A) k = match tH (aT A) k with | none => ehT1 (aT A) k | some d => txN (txC (ehT1 (aT A) k) 62) d := rfl
    cases e2 : tH (aT A) k with
    | none =>
      rw [e2] at ee
      dsimp only at ee ⊢
      rw [if_pos (show gI u6 (12 + n + 576) (nI k).toNatClampNeg = m1 by rw [eH l6', e2]; rfl), okR_some, b6.1, ee]
      exact ⟨rfl, h0.ln7 l6' b6, l6'.2.2.up (by decide)⟩
    | some d =>
      rw [e2] at ee
      dsimp only at ee ⊢
      have hd := a4 d e2
      have g4 := dg6 (v := d) (by omega)
      rw [if_neg (show ¬ gI u6 (12 + n + 576) (nI k).toNatClampNeg = m1 from fun z => by rw [eH l6', e2, show eo (some d) = nI d from rfl, m1_eq (by omega)] at z; exact z)]
      refine okR_sbC (c := 62) rfl b6 (Or.inr rfl) (by decide) (by show 0 + 1 + sb_dg (tI (aT A) k) + 1 + sb_dg (tW (aT A) k) + 1 + sb_dg (tU (aT A) k) < 400; omega) fun u7 b7 l7 => ?_
      have l7' := l6'.trans l7
      rw [if_pos ik]
      refine okR_sbI (c := d) (by rw [eH l7', e2]; rfl) b7 (Or.inr rfl) (by omega) (by show 0 + 1 + sb_dg (tI (aT A) k) + 1 + sb_dg (tW (aT A) k) + 1 + sb_dg (tU (aT A) k) + 1 + sb_dg d ≤ 400; omega) fun u8 b8 l8 => ?_
      rw [okR_some, b8.1, ee]
      exact ⟨rfl, h0.ln7 (l7'.trans l8) b8, (l7'.trans l8).2.2.up (by decide)⟩
theorem nar_char : ∀ c, c < 128 → vp_nar .char (nI c) = nI c := by decide
theorem fnd_nI {N k : Nat} (hN : N < 2 ^ 31) (hk : k < N) : fnd (fun j => decide (nI j = nI k)) N = some k :=
  fnd_some hk (by simp) fun j hj => by
    simp only [decide_eq_false_iff_not]
    rw [nE (by omega) (by omega)]
    omega
theorem fnd_nIn {N : Nat} (hN : N < 2 ^ 31) {p : Int32} (hp : p < 0 ∨ nI N ≤ p) : fnd (fun j => decide (nI j = p)) N = none := by
  refine fnd_none fun k hk => ?_
  simp only [decide_eq_false_iff_not]
  intro e
  subst e
  rcases hp with q | q
  · exact nI_pos (by omega) q
  · rw [nLe (by omega) (by omega)] at q; omega
theorem k_lineChar (h : CK s A) (hx : (aL A).1 ≤ 360) (ho : TxOk (aL A)) {p : Int32} : okR (m_X7_lineChar p s) (cl s (a_lineChar (aL A) p) A) := by
  have hb : BT s 7 (aL A) := h.2.2.2.2.2.1
  unfold m_X7_lineChar a_lineChar
  rw [hb.1]
  by_cases q : p < 0
  · rw [if_pos q, fnd_nIn (by omega) (Or.inl q)]
    exact okR_some.mpr (cl_tr h)
  · rw [if_neg q]
    obtain ⟨a, ha0, rfl⟩ := nI_of q
    by_cases ha : a < (aL A).1
    · rw [fnd_nI (by omega) ha]
      simp (disch := omega) only [nL, if_pos, nIb, nN]
      rw [hb.2 a ha, if_pos (nar_char _ (ho a ha))]
      exact okR_some.mpr (cl_in h)
    · rw [fnd_nIn (by omega) (Or.inr (by rw [nLe (by omega) (by omega)]; omega))]
      simp (disch := omega) only [nL, if_neg]
      exact okR_some.mpr (cl_tr h)
theorem k_append (h : CK s A) (hx : (aI A).1 ≤ 60) {p : Int32} : okR (m_X7_append p s) (cl s (apA A p).1 (apA A p).2) := by
  have hb : BT s 6 (aI A) := h.2.2.2.2.2.2
  unfold m_X7_append apA
  have no : p < 32 ∨ 126 < p → fnd (fun c => decide (32 ≤ c ∧ nI c = p)) 127 = none := fun hp => fnd_none fun k hk => by
    simp only [decide_eq_false_iff_not]
    rintro ⟨z1, z2⟩
    subst z2
    rcases hp with z | z
    · rw [show (32 : Int32) = nI 32 from rfl, nL (by omega) (by decide)] at z; omega
    · rw [show (126 : Int32) = nI 126 from rfl, nL (by decide) (by omega)] at z; omega
  by_cases q : p < 32
  · rw [if_pos q, no (Or.inl q)]
    exact okR_some.mpr (cl_tr h)
  · rw [if_neg q]
    obtain ⟨c, hc0, rfl⟩ := nI_of (x := p) (fun z => q (Int32.lt_trans z (by decide)))
    have q' : 32 ≤ c := by rw [show (32 : Int32) = nI 32 from rfl, nL (by omega) (by decide)] at q; omega
    by_cases y : c ≤ 126
    · have f : fnd (fun j => decide (32 ≤ j ∧ nI j = nI c)) 127 = some c := fnd_some (by omega) (by simp; exact q') fun j hj => by
        simp only [decide_eq_false_iff_not]
        rintro ⟨z1, z2⟩
        rw [nE (by omega) (by omega)] at z2
        omega
      rw [f, if_pos (show nI c ≤ 126 by rw [show (126 : Int32) = nI 126 from rfl, nLe (by omega) (by decide)]; exact y)]
      dsimp only
      by_cases z : (aI A).1 < 60
      · rw [if_pos z, if_pos (show nI (gB s 6).2.1 < 60 by rw [hb.1, show (60 : Int32) = nI 60 from rfl, nL (by omega) (by decide)]; exact z)]
        refine okR_sbC rfl hb (Or.inl rfl) (by omega) (by omega) fun u b l => ?_
        rw [okR_some, b.1]
        exact ⟨rfl, h.ln6 l b, l.2.2.up (by decide)⟩
      · rw [if_neg z, if_neg (show ¬ nI (gB s 6).2.1 < 60 by rw [hb.1, show (60 : Int32) = nI 60 from rfl, nL (by omega) (by decide)]; exact z)]
        exact okR_some.mpr (cl_tr h)
    · have y' : (126 : Int32) < nI c := by rw [show (126 : Int32) = nI 126 from rfl, nL (by decide) (by omega)]; omega
      rw [no (Or.inr y'), if_neg (show ¬ nI c ≤ 126 by rw [show (126 : Int32) = nI 126 from rfl, nLe (by omega) (by decide)]; omega)]
      exact okR_some.mpr (cl_tr h)
end
