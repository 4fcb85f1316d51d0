/-! ===== the reference: running a program ===== -/
def FA (s s' : Mem) : Prop := ∀ c j, c ≠ 1032 → c ≠ 136 → (c ≠ 8 ∨ (j ≠ 12 ∧ j ≠ 16 ∧ j ≠ 17)) → gI s' c j = gI s c j
/-- what reading all comes to -/
def AQ (s0 : Mem) (R : (Nat × Pg) ⊕ Nat) (o : Int32 ⊕ String) (s' : Mem) : Prop := match R with
  | .inr e => o = .inl (nI 0) ∧ ∃ st a b, RI s0 s' e st a b
  | .inl _ => o = .inl (nI 1) ∧ ∃ i st a b, RI s0 s' i st a b
/-- what doing all comes to -/
def DQ (N : Nat) (R : Nat ⊕ Th) (o : Int32 ⊕ String) (s' : Mem) : Prop := match R with
  | .inl i => o = .inl (nI 0) ∧ gI s' 8 17 = nI i
  | .inr T' => o = .inl (nI 1) ∧ RF 136 0 s' T' ∧ gI s' 8 17 = nI N
section
variable {s0 s s1 s2 : Mem} {x : Tx} {i j n m k : Nat} {st a b : Int32} {T : Th} {A : Ab} {g : Pg} {p q : Int32}
theorem FA.refl : FA s s := fun _ _ _ _ _ => rfl
theorem FA.trans (h1 : FA s s1) (h2 : FA s1 s2) : FA s s2 := fun c j a b d => (h2 c j a b d).trans (h1 c j a b d)
theorem RI.fa (h : RI s0 s i st a b) : FA s0 s := fun c j h1 _ h3 => h.2.2.2.2 c j h1 (by omega)
theorem F6.fa (h : F6 s s1) : FA s s1 := fun c j _ h2 _ => h.1 c h2 j
theorem RI.self (h : gI s 8 12 = nI i) : RI s s i (gI s 8 16) (gI s 1032 0) (gI s 1032 1) := ⟨h, rfl, rfl, rfl, fun _ _ _ _ => rfl⟩
theorem HX.fa (h : HX s x) (f : FA s s1) : HX s1 x := ⟨(f 8 11 (by decide) (by decide) (Or.inr (by decide))).trans h.1, fun k hk => (f 712 k (by decide) (by decide) (Or.inl (by decide))).trans (h.2 k hk)⟩
theorem r_readsAll (hx : HX s x) (ho : InOk x) : okR (m_X8_readsAll s) (AQ s (prs x 61 0 0 g0)) := by
  have hx1 := ho.1
  unfold m_X8_readsAll
  rw [okR_vl]
  obtain ⟨R, eR⟩ : ∃ R, R = prs x 61 0 0 g0 := ⟨_, rfl⟩
  rw [← eR]
  have h0 : RI s (pI s 8 12 0) 0 (gI s 8 16) (gI s 1032 0) (gI s 1032 1) := ⟨gI_s, gI_k (by decide), gI_o (by decide), gI_o (by decide), fun c q _ h2 => gI_2 (by omega)⟩
  refine lp_i (fun k a => (a.1 = nI 1 ∧ ∃ i st u v g, RI s a.2 i st u v ∧ R = prs x (61 - k) i k g ∧ 6 * k ≤ i ∧ i ≤ x.1) ∨ (a.1 = nI 0 ∧ ∃ j st u v n g, RI s a.2 j st u v ∧ j ≤ x.1 ∧ R = if x.1 ≤ j then .inl (n, g) else .inr j)) 20 (Or.inl ⟨rfl, 0, _, _, _, g0, h0, eR, by decide, Nat.zero_le _⟩) (by decide) fun k a kf hk hI hkf => ?_
  obtain ⟨w1, s1⟩ := a
  unfold m_X8_readsAll_b7
  dsimp only at hI ⊢
  rcases hI with ⟨rfl, i, st, u, v, g, i1, i2, i3, i4⟩ | ⟨rfl, j, st, u, v, n, g, i1, i2, i3⟩
  · rw [if_neg (show ¬ nI 1 = 0 by decide), okR_bindR]
    refine okR_mono (r_readsCommand hx ho i4 i1) fun o s3 z => ?_
    rw [show 61 - k = (60 - k) + 1 by omega, prs_s] at i2
    cases e : cmd x i with
    | inr e' =>
      rw [e] at z i2
      obtain ⟨rfl, st2, u2, v2, z⟩ := z
      rw [thn_l, if_neg (show ¬ ¬ nI 0 = 0 by decide), okR_some, i2]
      exact ⟨rfl, _, _, _, z⟩
    | inl cj =>
      obtain ⟨⟨kd, va, vb⟩, j⟩ := cj
      rw [e] at z i2
      obtain ⟨rfl, b2, z, _⟩ := z
      obtain ⟨c1, c2, c3, c4, c5⟩ := cmd_in i4 e
      rw [thn_l, if_pos (show ¬ nI 1 = 0 by decide), show m_X8_reads 59 s3 = m_X8_reads (nI 59) s3 from rfl, r_reads (z.hx hx) ho (by omega) z.1 (by decide) (by decide)]
      dsimp only at i2
      unfold cont at i2
      by_cases y : cx x j = 59
      · have zj := cx_lt (x := x) (i := j) (by omega)
        rw [if_neg (show ¬ x.1 ≤ j by omega), if_pos y] at i2
        rw [if_pos y, bR_l]
        exact hkf _ (by omega) (Or.inl ⟨rfl, j + 1, _, _, _, _, z.mi, by rw [show 61 - (k + 1) = 60 - k by omega]; exact i2, by omega, zj⟩)
      · rw [if_neg y] at i2
        rw [if_neg y, bR_l]
        exact hkf _ (by omega) (Or.inr ⟨rfl, j, _, _, _, _, _, z, c5, i2⟩)
  · have g11 : gI s1 8 11 = nI x.1 := (i1.hx hx).1
    rw [if_pos (show nI 0 = 0 from rfl), i1.1, g11]
    by_cases y : x.1 ≤ j
    · rw [if_pos y] at i3
      rw [if_neg (show ¬ ¬ nI j = nI x.1 from fun z => z (by rw [show j = x.1 by omega])), okR_some, i3]
      exact ⟨rfl, _, _, _, _, i1⟩
    · rw [if_neg y] at i3
      rw [if_pos (show ¬ nI j = nI x.1 from fun z => by rw [nE (by omega) (by omega)] at z; omega), okR_some, i3]
      exact ⟨rfl, _, _, _, i1⟩
theorem prs_g : ∀ (f i n : Nat) (g : Pg) {N : Nat} {G : Pg}, prs x f i n g = .inl (N, G) → n < N ∧ (∀ j, j < n → G j = g j) ∧ ∃ c j, cmd x i = .inl (c, j) ∧ G n = c
  | 0, _, _, _, _, _, h => by cases h
  | f + 1, i, n, g, N, G, h => by
    rw [prs_s] at h
    cases e : cmd x i with
    | inr e' => rw [e] at h; cases h
    | inl cj =>
      obtain ⟨c, j⟩ := cj
      rw [e] at h
      dsimp only at h
      unfold cont at h
      by_cases y : x.1 ≤ j
      · rw [if_pos y] at h
        cases h
        exact ⟨Nat.lt_succ_self _, fun q hq => uf_k (by omega), c, j, rfl, uf_s⟩
      · rw [if_neg y] at h
        by_cases z : cx x j = 59
        · rw [if_pos z] at h
          obtain ⟨h1, h2, _⟩ := prs_g f (j + 1) (n + 1) _ h
          exact ⟨by omega, fun q hq => (h2 q (by omega)).trans (uf_k (by omega)), c, j, rfl, (h2 n (by omega)).trans uf_s⟩
        · rw [if_neg z] at h; cases h
theorem bO_id {α : Type} {x : Option α} : bindO x (fun v => some v) = x := by cases x <;> rfl

theorem r_notNow (h : RF 136 0 s T) (W : WT n T) (hn : n < 10000) {va vb : Nat} (hk : k < 12) (h16 : gI s 8 16 = nI (srt k)) (ha : gI s 1032 0 = nI va) (hb : gI s 1032 1 = b) (hv : (fms k).length = 2 → b = nI vb) : m_X8_notNow s = some (nI (pcd k (rs T k (nI va) (nI vb)))) := by
  have w := W.sz (show n ≤ 10000 by omega)
  unfold m_X8_notNow
  rw [if_pos (show ib (0 : Int32) 2 by decide), vl_i, if_pos (show ib (1 : Int32) 2 by decide), vl_i, show (0 : Int32).toNatClampNeg = 0 from rfl, show (1 : Int32).toNatClampNeg = 1 from rfl, ha, hb, h16]
  simp only [bO_id]
  rcases (show k = 0 ∨ k = 1 ∨ k = 2 ∨ k = 3 ∨ k = 4 ∨ k = 5 ∨ k = 6 ∨ k = 7 ∨ k = 8 ∨ k = 9 ∨ k = 10 ∨ k = 11 by omega) with rfl | rfl | rfl | rfl | rfl | rfl | rfl | rfl | rfl | rfl | rfl | rfl
  · exact r_n0 h w _
  · rw [hv rfl]; exact r_n1 h w _ _
  · rw [hv rfl]; exact r_n2 h w W _ _
  · rw [hv rfl]; exact r_n3 h w W _ _
  · rw [hv rfl]; exact r_n4 h w W _ _
  · exact r_n5 h w _
  · rw [hv rfl]; exact r_n6 h w W _ _
  · exact r_n7 h w _
  · exact r_n8 h w true _ (Or.inl rfl)
  · exact r_n8 h w false _ (Or.inr rfl)
  · rw [hv rfl]; exact r_n10 h w _ _
  · exact r_n11 h w _
theorem r_doesNow (h : RF 136 0 s T) (W : WT n T) (hn : n < 10000) {va vb : Nat} (hk : k < 12) (h16 : gI s 8 16 = nI (srt k)) (ha : gI s 1032 0 = nI va) (hb : gI s 1032 1 = b) (hv : (fms k).length = 2 → b = nI vb) {c d : Nat} (hr : rs T k (nI va) (nI vb) = .inr (c, d)) : okR (m_X8_doesNow s) (rch s (opN T k c d).1 (opN T k c d).2) := by
  unfold m_X8_doesNow
  rw [if_pos (show ib (0 : Int32) 2 by decide), vl_i, if_pos (show ib (1 : Int32) 2 by decide), vl_i, show (0 : Int32).toNatClampNeg = 0 from rfl, show (1 : Int32).toNatClampNeg = 1 from rfl, ha, hb, h16]
  simp only [bR_id]
  rcases (show k = 0 ∨ k = 1 ∨ k = 2 ∨ k = 3 ∨ k = 4 ∨ k = 5 ∨ k = 6 ∨ k = 7 ∨ k = 8 ∨ k = 9 ∨ k = 10 ∨ k = 11 by omega) with rfl | rfl | rfl | rfl | rfl | rfl | rfl | rfl | rfl | rfl | rfl | rfl
  · exact r_d0 h W hn hr
  · rw [hv rfl]; exact r_d1 h W hn hr
  · rw [hv rfl]; exact r_d2 h W hn hr
  · rw [hv rfl]; exact r_d3 h W hn hr
  · rw [hv rfl]; exact r_d4 h W hn hr
  · exact r_d5 h W hn hr
  · rw [hv rfl]; exact r_d6 h W hn hr
  · exact r_d7 h W hn hr
  · exact r_d8 h W hn hr
  · exact r_d9 h W hn hr
  · rw [hv rfl]; exact r_d10 h W hn hr
  · exact r_d11 h W hn hr
theorem r_doesAll {N : Nat} {G : Pg} (hx : HX s x) (ho : InOk x) (h : RF 136 0 s T) (W : WT m T) (hm : m + 10 < 10000) (hp : prs x 61 0 0 g0 = .inl (N, G)) : okR (m_X8_doesAll s) (fun o s' => DQ N (exg T G N) o s' ∧ FA s s') := by
  have hx1 := ho.1
  obtain ⟨n10, hgo⟩ := prs_in ho 61 0 0 g0 hp (Nat.zero_le _) (by decide) (fun j hj => absurd hj (Nat.not_lt_zero _))
  unfold m_X8_doesAll
  rw [okR_vl, okR_vl]
  obtain ⟨u, eu⟩ : ∃ u, u = pI (pI s 8 17 0) 8 12 0 := ⟨_, rfl⟩
  rw [← eu]
  have fu : FA s u := by rw [eu]; exact fun c j _ _ h3 => (gI_2 (by omega)).trans (gI_2 (by omega))
  have u12 : gI u 8 12 = nI 0 := by rw [eu, gI_s]; rfl
  have u17 : gI u 8 17 = nI 0 := by rw [eu, gI_k (by decide), gI_s]; rfl
  have hu : RF 136 0 u T := by rw [eu]; exact (h.kp fun j => gI_o (by decide)).kp fun j => gI_o (by decide)
  refine lp_i (fun k a => gI a.2 8 17 = nI k ∧ FA s a.2 ∧ (∃ T', exg T G k = .inr T' ∧ RF 136 0 a.2 T') ∧ ((a.1 = nI 1 ∧ ∃ i g, gI a.2 8 12 = nI i ∧ prs x (61 - k) i k g = .inl (N, G) ∧ 6 * k ≤ i ∧ i ≤ x.1) ∨ (a.1 = nI 0 ∧ k = N))) 20 ⟨u17, fu, ⟨T, rfl, hu⟩, Or.inl ⟨rfl, 0, g0, u12, hp, by decide, Nat.zero_le _⟩⟩ (by decide) fun k a kf hk hI hkf => ?_
  obtain ⟨w1, s1⟩ := a
  unfold m_X8_doesAll_b12
  dsimp only at hI ⊢
  obtain ⟨i1, i2, ⟨T', i3, i4⟩, hI⟩ := hI
  rcases hI with ⟨rfl, i, g, i5, i6, i7, i8⟩ | ⟨rfl, rfl⟩
  · have hk10 : k ≤ 10 := by omega
    obtain ⟨p1, p2, c, j, p3, p4⟩ := prs_g _ _ _ _ i6
    obtain ⟨kd, va, vb⟩ := c
    have W1 := exg_w W (k := k) (fun q hq => hgo q (by omega)) i3
    obtain ⟨c1, c2, c3, c4, c5⟩ := cmd_in i8 p3
    rw [if_neg (show ¬ nI 1 = 0 by decide), okR_bindR]
    refine okR_mono (r_readsCommand (hx.fa i2) ho i8 (RI.self i5)) fun o s3 z => ?_
    rw [p3] at z
    obtain ⟨rfl, b2, z1, z2⟩ := z
    have r3 : RF 136 0 s3 T' := i4.kp fun q => z1.2.2.2.2 136 q (by decide) (Or.inl (by decide))
    have f3 := i2.trans z1.fa
    have d3 : gI s3 8 17 = nI k := (z1.2.2.2.2 8 17 (by decide) (Or.inr (by decide))).trans i1
    have ee : exg T G (k + 1) = match rs T' kd (nI va) (nI vb) with | .inl _ => .inl k | .inr (a, b) => .inr (opN T' kd a b).2 := by
      rw [exg, i3, p4]; rfl
    rw [thn_l, r_notNow r3 W1 (by omega) c1 z1.2.1 z1.2.2.1 z1.2.2.2.1 z2, bP_some]
    cases e : rs T' kd (nI va) (nI vb) with
    | inl c =>
      rw [e] at ee
      have hc := rs_pc c1 e
      rw [pcd_l, if_neg (show ¬ nI ((pcl kd).getD c 0) = 0 from nI_ne0 (by omega) (by omega)), okR_some]
      have := exg_up ee (N - (k + 1))
      rw [show k + 1 + (N - (k + 1)) = N by omega] at this
      refine ⟨?_, f3⟩
      rw [this]
      exact ⟨rfl, d3⟩
    | inr ab =>
      obtain ⟨c, d⟩ := ab
      rw [e] at ee
      rw [show pcd kd (.inr (c, d)) = 0 from rfl, if_pos (show nI 0 = 0 from rfl), okR_bindR]
      refine okR_mono (r_doesNow r3 W1 (by omega) c1 z1.2.1 z1.2.2.1 z1.2.2.2.1 z2 e) fun o s4 y => ?_
      obtain ⟨rfl, y1, y2⟩ := y
      have f4 := f3.trans y2.fa
      have d4 : gI s4 8 17 = nI k := (y2.1 8 (by decide) 17).trans d3
      have a4 : gI s4 8 12 = nI j := (y2.1 8 (by decide) 12).trans z1.1
      rw [thn_l, okR_vl, d4, nI_1]
      obtain ⟨v, ev⟩ : ∃ v, v = pI s4 8 17 (nI (k + 1)) := ⟨_, rfl⟩
      rw [← ev]
      have f5 : FA s v := f4.trans (by rw [ev]; exact fun c j _ _ h3 => gI_2 (by omega))
      have d5 : gI v 8 17 = nI (k + 1) := by rw [ev, gI_s]
      have a5 : gI v 8 12 = nI j := by rw [ev, gI_k (by decide)]; exact a4
      have r5 : RF 136 0 v (opN T' kd c d).2 := by rw [ev]; exact y1.kp fun q => gI_o (by decide)
      rw [show m_X8_reads 59 v = m_X8_reads (nI 59) v from rfl, r_reads (hx.fa f5) ho (by omega) a5 (by decide) (by decide)]
      rw [show 61 - k = (60 - k) + 1 by omega, prs_s, p3] at i6
      dsimp only at i6
      unfold cont at i6
      by_cases t : cx x j = 59
      · have zj := cx_lt (x := x) (i := j) (by omega)
        rw [if_neg (show ¬ x.1 ≤ j by omega), if_pos t] at i6
        rw [if_pos t, bR_l]
        refine hkf _ (by omega) ⟨?_, f5.trans fun c j _ _ h3 => gI_2 (by omega), ⟨_, ee, r5.kp fun q => gI_o (by decide)⟩, Or.inl ⟨rfl, j + 1, _, gI_s, by rw [show 61 - (k + 1) = 60 - k by omega]; exact i6, by omega, zj⟩⟩
        exact (gI_k (by decide)).trans d5
      · rw [if_neg t] at i6
        rw [if_neg t, bR_l]
        have hN : N = k + 1 := by
          by_cases y : x.1 ≤ j
          · rw [if_pos y] at i6; cases i6; rfl
          · rw [if_neg y] at i6; cases i6
        exact hkf _ (by omega) ⟨d5, f5, ⟨_, ee, r5⟩, Or.inr ⟨rfl, hN.symm⟩⟩
  · rw [if_pos (show nI 0 = 0 from rfl), okR_some, i3]
    exact ⟨⟨rfl, i4, i1⟩, i2⟩
theorem MR.end1 (h : MR s A) : MR (pI s 8 11 0) (setI A tx0) := by
  obtain ⟨a1, a2, a3, a4, a5, a6, a7, a8⟩ := h
  exact ⟨(gI_k (by decide)).trans a1, fun T e => (a2 T e).kp fun j => gI_o (by decide), (gI_k (by decide)).trans a3, fun k hk => (gI_o (by decide)).trans (a4 k hk), gI_s, fun k hk => absurd hk (Nat.not_lt_zero _), (gI_k (by decide)).trans a7, (gI_k (by decide)).trans a8⟩
theorem MR.e13 (h : MR s A) {e : Nat} : MR (pI s 8 13 (nI e)) (A.1, A.2.1, A.2.2.1, aL A, aI A, some e, aF A) := by
  obtain ⟨a1, a2, a3, a4, a5, a6, a7, a8⟩ := h
  exact ⟨(gI_k (by decide)).trans a1, fun T e => (a2 T e).kp fun j => gI_o (by decide), (gI_k (by decide)).trans a3, fun k hk => (gI_o (by decide)).trans (a4 k hk), (gI_k (by decide)).trans a5, fun k hk => (gI_o (by decide)).trans (a6 k hk), gI_s, (gI_k (by decide)).trans a8⟩
theorem MR.e14 (h : MR s A) {e : Nat} : MR (pI s 8 14 (nI e)) (A.1, A.2.1, A.2.2.1, aL A, aI A, aE A, some e) := by
  obtain ⟨a1, a2, a3, a4, a5, a6, a7, a8⟩ := h
  exact ⟨(gI_k (by decide)).trans a1, fun T e => (a2 T e).kp fun j => gI_o (by decide), (gI_k (by decide)).trans a3, fun k hk => (gI_o (by decide)).trans (a4 k hk), (gI_k (by decide)).trans a5, fun k hk => (gI_o (by decide)).trans (a6 k hk), (gI_k (by decide)).trans a7, gI_s⟩
theorem MR.fa (h : MR s A) (f : FA s s1) : MR s1 A := h.kp fun c j hc => f c j (mrc_o hc (by decide)) (mrc_o hc (by decide)) (by unfold mrc at hc; omega)
theorem q_run (h : MK s A) (W : WA m A) (hm : m + 10 < 10000) : okR (m_X8_run s) (ml [0, 0, 0, 1, 2] (runA A).1 (runA A).2) := by
  have ho := inok W
  have hx1 := ho.1
  have w := W.1.sz (show m ≤ 10000 by omega)
  obtain ⟨h1, h2⟩ := h.z
  unfold m_X8_run runA
  rw [okR_vl]
  obtain ⟨u, eu⟩ : ∃ u, u = pI s 8 0 0 := ⟨_, rfl⟩
  rw [← eu] at h1 h2 ⊢
  obtain ⟨b1, ⟨f, hf, b2⟩, b3⟩ := h1
  have hx : HX u (aI A) := ⟨b3.2.2.2.2.1, b3.2.2.2.2.2.1⟩
  rw [okR_bindR]
  refine okR_mono (r_readsAll hx ho) fun o s3 z => ?_
  cases e : prs (aI A) 61 0 0 g0 with
  | inr e' =>
    rw [e] at z
    obtain ⟨rfl, st, a, b, z⟩ := z
    rw [thn_l, if_neg (show ¬ ¬ nI 0 = 0 by decide), okR_vl, okR_vl, z.1]
    have f3 := z.fa
    have r3 : MR s3 A := b3.fa f3
    have hK : MK (pI (pI s3 8 13 (nI e')) 8 11 0) (endA A (some e') (aF A)) := by
      refine ⟨((b1.kp fun j => z.2.2.2.2 136 j (by decide) (Or.inl (by decide))).kp fun j => gI_o (by decide)).kp fun j => gI_o (by decide), ⟨f, hf, ((b2.kp (f3 8 5 (by decide) (by decide) (Or.inr (by decide))) (f3 8 6 (by decide) (by decide) (Or.inr (by decide))) (fun j => f3 200 j (by decide) (by decide) (Or.inl (by decide)))).kp (gI_k (by decide)) (gI_k (by decide)) (fun j => gI_o (by decide))).kp (gI_k (by decide)) (gI_k (by decide)) (fun j => gI_o (by decide))⟩, r3.e13.end1⟩
    exact r_fails hK rfl (fun s => rk1)
  | inl NG =>
    obtain ⟨N, G⟩ := NG
    rw [e] at z
    obtain ⟨rfl, i, st, a, b, z⟩ := z
    have f3 := z.fa
    have c1 : RF 136 0 s3 (aT A) := b1.kp fun j => z.2.2.2.2 136 j (by decide) (Or.inl (by decide))
    have c2 : MH f s3 A := b2.kp (f3 8 5 (by decide) (by decide) (Or.inr (by decide))) (f3 8 6 (by decide) (by decide) (Or.inr (by decide))) (fun j => f3 200 j (by decide) (by decide) (Or.inl (by decide)))
    have c3 : MR s3 A := b3.fa f3
    have t3 : gI s3 8 0 = nI 0 := (f3 8 0 (by decide) (by decide) (Or.inr (by decide))).trans h2
    rw [thn_l, if_pos (show ¬ nI 1 = 0 by decide), okR_bindR]
    refine okR_mono (r_copies c1 w) fun o s5 y => ?_
    obtain ⟨rfl, y1, y2⟩ := y
    have d1 : RF 136 0 s5 (aT A) := c1.kp (y2 136 (by decide))
    have d2 : MH f s5 A := c2.kp (y2 8 (by decide) 5) (y2 8 (by decide) 6) (y2 200 (by decide))
    have d3 : MR s5 A := c3.kp fun c j hc => y2 c (mrc_o hc (by decide)) j
    have t5 : gI s5 8 0 = nI 0 := (y2 8 (by decide) 0).trans t3
    have hx5 : HX s5 (aI A) := ⟨d3.2.2.2.2.1, d3.2.2.2.2.2.1⟩
    rw [thn_l, okR_bindR]
    refine okR_mono (r_doesAll hx5 ho d1 W.1 hm e) fun o s7 v => ?_
    obtain ⟨v1, v2⟩ := v
    have e1 : RF 328 0 s7 (aT A) := y1.kp fun j => v2 328 j (by decide) (by decide) (Or.inl (by decide))
    have e2 : MH f s7 A := d2.kp (v2 8 5 (by decide) (by decide) (Or.inr (by decide))) (v2 8 6 (by decide) (by decide) (Or.inr (by decide))) (fun j => v2 200 j (by decide) (by decide) (Or.inl (by decide)))
    have e3 : MR (pI s7 8 11 0) (setI A tx0) := (d3.fa v2).end1
    have t7 : gI s7 8 0 = nI 0 := (v2 8 0 (by decide) (by decide) (Or.inr (by decide))).trans t5
    obtain ⟨q, eq⟩ : ∃ q, q = pI s7 8 11 0 := ⟨_, rfl⟩
    have k1 : RF 328 0 q (aT A) := by rw [eq]; exact e1.kp fun j => gI_o (by decide)
    have k2 : MH f q A := by rw [eq]; exact e2.kp (gI_k (by decide)) (gI_k (by decide)) (fun j => gI_o (by decide))
    have tq : gI q 8 0 = nI 0 := by rw [eq, gI_k (by decide)]; exact t7
    have q17 : gI q 8 17 = gI s7 8 17 := by rw [eq, gI_k (by decide)]
    dsimp only
    cases e4 : exg (aT A) G N with
    | inl i =>
      rw [e4] at v1
      obtain ⟨rfl, v1⟩ := v1
      rw [thn_l, okR_vl, if_pos (show nI 0 = 0 from rfl), ← eq, okR_bindR]
      rw [← eq] at e3
      refine okR_mono (r_goesBack k1 w) fun o s10 y => ?_
      obtain ⟨rfl, g1, g2⟩ := y
      rw [thn_l, okR_vl, g2 8 (by decide) 17, q17, v1]
      have hK : MK (pI s10 8 14 (nI i)) (endA A (aE A) (some i)) := by
        refine ⟨g1.kp fun j => gI_o (by decide), ⟨f, hf, (k2.kp (g2 8 (by decide) 5) (g2 8 (by decide) 6) (g2 200 (by decide))).kp (gI_k (by decide)) (gI_k (by decide)) (fun j => gI_o (by decide))⟩, ?_⟩
        have := e3.kp (s1 := s10) fun c j hc => g2 c (mrc_o hc (by decide)) j
        exact this.e14
      exact r_fails hK rfl (fun s => rk1)
    | inr T' =>
      rw [e4] at v1
      obtain ⟨rfl, v1, v3⟩ := v1
      rw [thn_l, okR_vl, if_neg (show ¬ nI 1 = 0 by decide), ← eq, okR_bindR]
      rw [← eq] at e3
      have k3 : RF 136 0 q T' := by rw [eq]; exact v1.kp fun j => gI_o (by decide)
      refine okR_mono (r_keeps k1 w k2 hf W.2.1 (fun j hj => (W.2.2.1 j hj).sz (by omega)) T') fun o s15 y => ?_
      obtain ⟨rfl, ⟨f', g1, g2⟩, g3⟩ := y
      rw [thn_l, okR_some, g3 8 17 (by decide) (Or.inr (by decide)), q17, v3]
      refine ⟨⟨k3.kp fun j => g3 136 j (by decide) (Or.inl (by decide)), ⟨f', g1, g2⟩, e3.kp fun c j hc => g3 c j (mrc_o hc (by decide)) (by unfold mrc at hc; omega)⟩, (g3 8 0 (by decide) (Or.inr (by decide))).trans tq, rfl⟩
end
