/-! ===== the reference as a whole: what it knows; what it remembers ===== -/
def MH (f : Nat) (s : Mem) (A : Ab) : Prop := gI s 8 5 = nI (aU A) ∧ gI s 8 6 = nI f ∧ ∀ j, j < aU A → RF 200 (135 * ((f + aU A - 1 - j) % 8)) s (aH A j)
def MR (s : Mem) (A : Ab) : Prop := gI s 8 7 = bI (aS A).isSome ∧ (∀ T, aS A = some T → RF 264 0 s T) ∧ gI s 8 9 = nI (aL A).1 ∧ (∀ k, k < (aL A).1 → gI s 584 k = nI ((aL A).2 k)) ∧ gI s 8 11 = nI (aI A).1 ∧ (∀ k, k < (aI A).1 → gI s 712 k = nI ((aI A).2 k)) ∧ gI s 8 13 = eo (aE A) ∧ gI s 8 14 = eo (aF A)
def MK (s : Mem) (A : Ab) : Prop := RF 136 0 s (aT A) ∧ (∃ f, f < 8 ∧ MH f s A) ∧ MR s A
/-- what a call of the reference comes to: its code, its answer -/
def ml {α : Type} (L : List Nat) (r : Nat ⊕ α) (A' : Ab) : α ⊕ String → Mem → Prop := fun o s' => MK s' A' ∧ match r with
  | .inl c => gI s' 8 0 = nI (L.getD c 0) ∧ ∃ v, o = .inl v
  | .inr v => gI s' 8 0 = nI 0 ∧ o = .inl v
section
variable {s s1 s2 : Mem} {T : Th} {A : Ab} {n m f : Nat}
theorem RF.cp {c o c' o' : Nat} (h : RF c o s T) (w : Sz T) (hc : ∀ j, j < 135 → gI s1 c' (o' + j) = gI s c (o + j)) : RF c' o' s1 T := by
  have hR := w.1
  have hN := w.2.1
  obtain ⟨⟨a1, a2, a3, a4, a5, a6, a7⟩, b, d, e⟩ := h
  refine ⟨⟨(hc 0 (by decide)).trans a1, (hc 1 (by decide)).trans a2, (hc 2 (by decide)).trans a3, (hc 3 (by decide)).trans a4, (hc 4 (by decide)).trans a5, (hc 5 (by decide)).trans a6, (hc 6 (by decide)).trans a7⟩, fun i hi => ?_, fun r hr => ?_, fun k hk => ?_⟩
  · have := hc (7 + i) (by omega)
    rw [show o' + 7 + i = o' + (7 + i) by omega, this, show o + (7 + i) = o + 7 + i by omega]
    exact b i hi
  · have h1 := hc (15 + 3 * r) (by omega)
    have h2 := hc (16 + 3 * r) (by omega)
    have h3 := hc (17 + 3 * r) (by omega)
    rw [show o' + 15 + 3 * r = o' + (15 + 3 * r) by omega, show o' + 16 + 3 * r = o' + (16 + 3 * r) by omega, show o' + 17 + 3 * r = o' + (17 + 3 * r) by omega, h1, h2, h3, show o + (15 + 3 * r) = o + 15 + 3 * r by omega, show o + (16 + 3 * r) = o + 16 + 3 * r by omega, show o + (17 + 3 * r) = o + 17 + 3 * r by omega]
    exact d r hr
  · have h1 := hc (39 + 4 * k) (by omega)
    have h2 := hc (40 + 4 * k) (by omega)
    have h3 := hc (41 + 4 * k) (by omega)
    have h4 := hc (42 + 4 * k) (by omega)
    rw [show o' + 39 + 4 * k = o' + (39 + 4 * k) by omega, show o' + 40 + 4 * k = o' + (40 + 4 * k) by omega, show o' + 41 + 4 * k = o' + (41 + 4 * k) by omega, show o' + 42 + 4 * k = o' + (42 + 4 * k) by omega, h1, h2, h3, h4, show o + (39 + 4 * k) = o + 39 + 4 * k by omega, show o + (40 + 4 * k) = o + 40 + 4 * k by omega, show o + (41 + 4 * k) = o + 41 + 4 * k by omega, show o + (42 + 4 * k) = o + 42 + 4 * k by omega]
    exact e k hk
theorem RF.kp {c o : Nat} (h : RF c o s T) (hc : ∀ j, gI s1 c j = gI s c j) : RF c o s1 T := by
  obtain ⟨⟨a1, a2, a3, a4, a5, a6, a7⟩, b, d, e⟩ := h
  refine ⟨⟨(hc _).trans a1, (hc _).trans a2, (hc _).trans a3, (hc _).trans a4, (hc _).trans a5, (hc _).trans a6, (hc _).trans a7⟩, fun i hi => (hc _).trans (b i hi), fun r hr => ⟨(hc _).trans (d r hr).1, (hc _).trans (d r hr).2.1, (hc _).trans (d r hr).2.2⟩, fun k hk => ⟨(hc _).trans (e k hk).1, (hc _).trans (e k hk).2.1, (hc _).trans (e k hk).2.2.1, (hc _).trans (e k hk).2.2.2⟩⟩
theorem MH.kp (h : MH f s A) (h5 : gI s1 8 5 = gI s 8 5) (h6 : gI s1 8 6 = gI s 8 6) (hc : ∀ j, gI s1 200 j = gI s 200 j) : MH f s1 A :=
  ⟨h5.trans h.1, h6.trans h.2.1, fun j hj => (h.2.2 j hj).kp hc⟩
/-- the cells of what stands outside -/
def mrc (c j : Nat) : Prop := (c = 8 ∧ (j = 7 ∨ j = 9 ∨ j = 11 ∨ j = 13 ∨ j = 14)) ∨ c = 264 ∨ c = 584 ∨ c = 712
theorem MR.kp (h : MR s A) (hc : ∀ c j, mrc c j → gI s1 c j = gI s c j) : MR s1 A := by
  obtain ⟨a1, a2, a3, a4, a5, a6, a7, a8⟩ := h
  exact ⟨(hc 8 7 (Or.inl ⟨rfl, by decide⟩)).trans a1, fun T e => (a2 T e).kp (fun j => hc 264 j (Or.inr (Or.inl rfl))), (hc 8 9 (Or.inl ⟨rfl, by decide⟩)).trans a3, fun k hk => (hc 584 k (Or.inr (Or.inr (Or.inl rfl)))).trans (a4 k hk), (hc 8 11 (Or.inl ⟨rfl, by decide⟩)).trans a5, fun k hk => (hc 712 k (Or.inr (Or.inr (Or.inr rfl)))).trans (a6 k hk), (hc 8 13 (Or.inl ⟨rfl, by decide⟩)).trans a7, (hc 8 14 (Or.inl ⟨rfl, by decide⟩)).trans a8⟩
theorem mrc_8 {c j : Nat} (h : mrc c j) {k : Nat} (hk : k ≠ 7 ∧ k ≠ 9 ∧ k ≠ 11 ∧ k ≠ 13 ∧ k ≠ 14) : c ≠ 8 ∨ j ≠ k := by
  unfold mrc at h
  omega
theorem mrc_o {c j a : Nat} (h : mrc c j) (ha : a ≠ 8 ∧ a ≠ 264 ∧ a ≠ 584 ∧ a ≠ 712) : c ≠ a := by
  unfold mrc at h
  omega
theorem MR.p8 (h : MR s A) {k : Nat} {v : Int32} (hk : k ≠ 7 ∧ k ≠ 9 ∧ k ≠ 11 ∧ k ≠ 13 ∧ k ≠ 14) : MR (pI s 8 k v) A := h.kp fun _ _ q => gI_2 (mrc_8 q hk)
theorem MR.po (h : MR s A) {a k : Nat} {v : Int32} (ha : a ≠ 8 ∧ a ≠ 264 ∧ a ≠ 584 ∧ a ≠ 712) : MR (pI s a k v) A := h.kp fun _ _ q => gI_o (mrc_o q ha)
theorem MK.p8 (h : MK s A) {k : Nat} {v : Int32} (hk : k ≠ 7 ∧ k ≠ 9 ∧ k ≠ 11 ∧ k ≠ 13 ∧ k ≠ 14) (h5 : k ≠ 5) (h6 : k ≠ 6) : MK (pI s 8 k v) A := by
  obtain ⟨h1, ⟨f, hf, h2⟩, h3⟩ := h
  exact ⟨h1.kp (fun _ => gI_o (by decide)), ⟨f, hf, h2.kp (gI_k h5.symm) (gI_k h6.symm) (fun _ => gI_o (by decide))⟩, h3.p8 hk⟩
/-- a refusal -/
theorem r_fails {α : Type} {L : List Nat} {c : Nat} {v : Int32} {F : Int32 → Mem → Res α} (h : MK s A) (hv : v = nI (L.getD c 0)) (hF : ∀ u, ∃ w, F 0 u = some (.inl w, u)) : okR (bindR (m_X8_fails v s) F) (ml L (.inl c) A) := by
  unfold m_X8_fails
  rw [vl_i, bR_l]
  obtain ⟨w, e⟩ := hF (pI s 8 0 v)
  rw [e, okR_some]
  exact ⟨h.p8 (by decide) (by decide) (by decide), by show gI _ 8 0 = _; rw [gI_s, hv], w, rfl⟩
theorem r_copies (h : RF 136 0 s T) (w : Sz T) : okR (m_X8_copies s) (fun o s' => o = .inl () ∧ RF 328 0 s' T ∧ ∀ c, c ≠ 328 → ∀ j, gI s' c j = gI s c j) := by
  refine lp_i (fun k a => a.1 = nI k ∧ (∀ j, j < k → gI a.2 328 j = gI s 136 j) ∧ ∀ c, c ≠ 328 → ∀ j, gI a.2 c j = gI s c j) 135 ⟨rfl, fun j hj => absurd hj (Nat.not_lt_zero _), fun _ _ _ => rfl⟩ (by omega) fun k a kf hk hI hkf => ?_
  obtain ⟨w1, s1⟩ := a
  obtain ⟨e1, h1, h2⟩ := hI
  dsimp only at e1 h1 h2
  subst e1
  unfold m_X8_copies_b2
  dsimp only
  by_cases q : k < 135
  · rw [if_neg (show ¬ (135 : Int32) ≤ nI k by rw [show (135 : Int32) = nI 135 from rfl, nLe (by omega) (by omega)]; omega), if_pos (show ib (nI k) 135 by rw [nIb (by omega)]; omega), if_pos (show ib (nI k) 135 by rw [nIb (by omega)]; omega), okR_vl, okR_vl, nI_1, nN (by omega)]
    refine hkf _ q ⟨rfl, fun j hj => ?_, fun c hc j => (gI_o hc).trans (h2 c hc j)⟩
    dsimp only
    by_cases z : j = k
    · subst z; rw [gI_s, h2 136 (by decide)]
    · rw [gI_k z]; exact h1 j (by omega)
  · have e : k = 135 := by omega
    subst e
    rw [if_pos (show (135 : Int32) ≤ nI 135 by decide), okR_some]
    exact ⟨rfl, h.cp w (fun j hj => by rw [Nat.zero_add]; exact h1 j hj), h2⟩
theorem r_goesBack (h : RF 328 0 s T) (w : Sz T) : okR (m_X8_goesBack s) (fun o s' => o = .inl () ∧ RF 136 0 s' T ∧ ∀ c, c ≠ 136 → ∀ j, gI s' c j = gI s c j) := by
  refine lp_i (fun k a => a.1 = nI k ∧ (∀ j, j < k → gI a.2 136 j = gI s 328 j) ∧ ∀ c, c ≠ 136 → ∀ j, gI a.2 c j = gI s c j) 135 ⟨rfl, fun j hj => absurd hj (Nat.not_lt_zero _), fun _ _ _ => rfl⟩ (by omega) fun k a kf hk hI hkf => ?_
  obtain ⟨w1, s1⟩ := a
  obtain ⟨e1, h1, h2⟩ := hI
  dsimp only at e1 h1 h2
  subst e1
  unfold m_X8_goesBack_b2
  dsimp only
  by_cases q : k < 135
  · rw [if_neg (show ¬ (135 : Int32) ≤ nI k by rw [show (135 : Int32) = nI 135 from rfl, nLe (by omega) (by omega)]; omega), if_pos (show ib (nI k) 135 by rw [nIb (by omega)]; omega), if_pos (show ib (nI k) 135 by rw [nIb (by omega)]; omega), okR_vl, okR_vl, nI_1, nN (by omega)]
    refine hkf _ q ⟨rfl, fun j hj => ?_, fun c hc j => (gI_o hc).trans (h2 c hc j)⟩
    dsimp only
    by_cases z : j = k
    · subst z; rw [gI_s, h2 328 (by decide)]
    · rw [gI_k z]; exact h1 j (by omega)
  · have e : k = 135 := by omega
    subst e
    rw [if_pos (show (135 : Int32) ≤ nI 135 by decide), okR_some]
    exact ⟨rfl, h.cp w (fun j hj => by rw [Nat.zero_add]; exact h1 j hj), h2⟩
/-- only the undo cells change -/
def F2 (s s' : Mem) : Prop := ∀ c j, c ≠ 200 → (c ≠ 8 ∨ (j ≠ 5 ∧ j ≠ 6)) → gI s' c j = gI s c j
theorem r_keeps32 {u t : Nat} (h : RF 328 0 s T) (w : Sz T) (h5 : gI s 8 5 = nI u) (h6 : gI s 8 6 = nI f) (hu : u < 8) (hf : f < 8) (ht : t = (f + u) % 8) : okR (m_X8_keeps_j32 s) (fun o s' => o = .inl () ∧ RF 200 (135 * t) s' T ∧ gI s' 8 5 = nI (u + 1) ∧ gI s' 8 6 = nI f ∧ F2 s s' ∧ ∀ q, (q < 135 * t ∨ 135 * t + 135 ≤ q) → gI s' 200 q = gI s 200 q) := by
  have ht8 : t < 8 := by omega
  unfold m_X8_keeps_j32
  rw [okR_vl, h5, h6, nI_add, show (8 : Int32) = nI 8 from rfl, pk_rem (by omega) (by omega) (by omega), ← ht]
  refine lp_i (fun k a => a.1 = nI k ∧ (∀ j, j < k → gI a.2 200 (135 * t + j) = gI s 328 j) ∧ (∀ c, c ≠ 200 → ∀ j, gI a.2 c j = gI s c j) ∧ ∀ q, (q < 135 * t ∨ 135 * t + 135 ≤ q) → gI a.2 200 q = gI s 200 q) 135 ⟨rfl, fun j hj => absurd hj (Nat.not_lt_zero _), fun _ _ _ => rfl, fun _ _ => rfl⟩ (by omega) fun k a kf hk hI hkf => ?_
  obtain ⟨w1, s1⟩ := a
  obtain ⟨e1, h1, h2, h3⟩ := hI
  dsimp only at e1 h1 h2 h3
  subst e1
  unfold m_X8_keeps_b47
  dsimp only
  by_cases q : k < 135
  · rw [if_neg (show ¬ (135 : Int32) ≤ nI k by rw [show (135 : Int32) = nI 135 from rfl, nLe (by omega) (by omega)]; omega), if_pos (show ib (nI k) 135 by rw [nIb (by omega)]; omega), show (135 : Int32) = nI 135 from rfl, nM, nI_add, if_pos (show ib (nI (135 * t + k)) 1080 by rw [nIb (by omega)]; omega), okR_vl, okR_vl, nI_1, nN (by omega), nN (by omega)]
    refine hkf _ q ⟨rfl, fun j hj => ?_, fun c hc j => (gI_o hc).trans (h2 c hc j), fun i hi => (gI_k (by omega)).trans (h3 i hi)⟩
    dsimp only
    by_cases z : j = k
    · subst z; rw [gI_s, h2 328 (by decide)]
    · rw [gI_k (by omega)]; exact h1 j (by omega)
  · have e : k = 135 := by omega
    subst e
    rw [if_pos (show (135 : Int32) ≤ nI 135 by decide), okR_vl, okR_some, h2 8 (by decide), h5, nI_1]
    refine ⟨rfl, ?_, gI_s, ?_, fun c j hc hj => ?_, fun i hi => ?_⟩
    · exact h.cp w (fun j hj => by rw [gI_o (by decide), Nat.zero_add]; exact h1 j hj)
    · rw [gI_k (by decide), h2 8 (by decide)]; exact h6
    · rw [gI_2 (by omega), h2 c hc]
    · rw [gI_o (by decide)]; exact h3 i hi
theorem r_keeps (h : RF 328 0 s (aT A)) (w : Sz (aT A)) (hH : MH f s A) (hf : f < 8) (hu : aU A ≤ 8) (hw : ∀ j, j < aU A → Sz (aH A j)) (T' : Th) : okR (m_X8_keeps s) (fun o s' => o = .inl () ∧ (∃ f', f' < 8 ∧ MH f' s' (pushA A T')) ∧ F2 s s') := by
  obtain ⟨h5, h6, h7⟩ := hH
  unfold m_X8_keeps
  by_cases q : aU A = 8
  · rw [h5, if_neg (show ¬ ¬ nI (aU A) = 8 from fun z => z (by rw [q]; rfl)), okR_vl, okR_vl, h6, nI_1, show (8 : Int32) = nI 8 from rfl, pk_rem (by omega) (by omega) (by omega), gI_k (by decide), h5, show (1 : Int32) = nI 1 from rfl, nS' (by omega)]
    have f' : (f + 1) % 8 < 8 := by omega
    have hB : RF 328 0 (pI (pI s 8 6 (nI ((f + 1) % 8))) 8 5 (nI (aU A - 1))) (aT A) := h.kp (fun j => by rw [gI_o (by decide), gI_o (by decide)])
    refine okR_mono (r_keeps32 (u := aU A - 1) (f := (f + 1) % 8) (t := ((f + 1) % 8 + (aU A - 1)) % 8) hB w gI_s (by rw [gI_k (by decide), gI_s]) (by omega) f' rfl) fun o s' z => ?_
    obtain ⟨rfl, z1, z2, z3, z4, z5⟩ := z
    refine ⟨rfl, ⟨(f + 1) % 8, f', ?_, z3, fun j hj => ?_⟩, fun c j hc hj => ?_⟩
    · rw [z2]; show _ = nI (min (aU A + 1) 8); rw [show min (aU A + 1) 8 = aU A - 1 + 1 by omega]
    · have hj : j < min (aU A + 1) 8 := hj
      show RF 200 (135 * (((f + 1) % 8 + min (aU A + 1) 8 - 1 - j) % 8)) s' (if j = 0 then aT A else aH A (j - 1))
      by_cases y : j = 0
      · subst y
        rw [if_pos rfl, show ((f + 1) % 8 + min (aU A + 1) 8 - 1 - 0) % 8 = ((f + 1) % 8 + (aU A - 1)) % 8 by omega]
        exact z1
      · rw [if_neg y, show ((f + 1) % 8 + min (aU A + 1) 8 - 1 - j) % 8 = (f + aU A - 1 - (j - 1)) % 8 by omega]
        have := h7 (j - 1) (by omega)
        obtain ⟨b, eb⟩ : ∃ b, b = (f + aU A - 1 - (j - 1)) % 8 := ⟨_, rfl⟩
        rw [← eb] at this ⊢
        have hne : b ≠ ((f + 1) % 8 + (aU A - 1)) % 8 := by omega
        have hT : Sz (aH A (j - 1)) := hw (j - 1) (by omega)
        exact this.cp hT (fun i hi => by rw [z5 _ (by omega), gI_o (by decide), gI_o (by decide)])
    · rw [z4 c j hc hj, gI_2 (by omega), gI_2 (by omega)]
  · rw [h5, if_pos (show ¬ nI (aU A) = 8 from fun z => q (by rw [show (8 : Int32) = nI 8 from rfl, nE (by omega) (by decide)] at z; exact z))]
    refine okR_mono (r_keeps32 (u := aU A) (t := (f + aU A) % 8) h w h5 h6 (by omega) hf rfl) fun o s' z => ?_
    obtain ⟨rfl, z1, z2, z3, z4, z5⟩ := z
    refine ⟨rfl, ⟨f, hf, ?_, z3, fun j hj => ?_⟩, z4⟩
    · rw [z2]; show _ = nI (min (aU A + 1) 8); rw [show min (aU A + 1) 8 = aU A + 1 by omega]
    · have hj : j < min (aU A + 1) 8 := hj
      show RF 200 (135 * ((f + min (aU A + 1) 8 - 1 - j) % 8)) s' (if j = 0 then aT A else aH A (j - 1))
      by_cases y : j = 0
      · subst y
        rw [if_pos rfl, show (f + min (aU A + 1) 8 - 1 - 0) % 8 = (f + aU A) % 8 by omega]
        exact z1
      · rw [if_neg y, show (f + min (aU A + 1) 8 - 1 - j) % 8 = (f + aU A - 1 - (j - 1)) % 8 by omega]
        have := h7 (j - 1) (by omega)
        obtain ⟨b, eb⟩ : ∃ b, b = (f + aU A - 1 - (j - 1)) % 8 := ⟨_, rfl⟩
        rw [← eb] at this ⊢
        have hne : b ≠ (f + aU A) % 8 := by omega
        have hT : Sz (aH A (j - 1)) := hw (j - 1) (by omega)
        exact this.cp hT (fun i hi => by rw [z5 _ (by omega)])
end
