/-! ===== the class: running a program ===== -/
def endA (A : Ab) (e f : Option Nat) : Ab := (A.1, A.2.1, A.2.2.1, aL A, tx0, e, f)
def runA (A : Ab) : (Nat ⊕ Int32) × Ab := match prs (aI A) 61 0 0 g0 with
  | .inr e => (.inl 3, endA A (some e) (aF A))
  | .inl (n, g) => match exg (aT A) g n with
    | .inl i => (.inl 4, endA A (aE A) (some i))
    | .inr T' => (.inr (nI n), pushA (setI A tx0) T')
/-- what carrying out comes to -/
def EQ (t : Nat) (r : Nat ⊕ Th) (o : Int32 ⊕ String) (s' : Mem) : Prop := match r with
  | .inl i => o = .inl (nI i)
  | .inr T' => o = .inl m1 ∧ RC t s' T'
section
variable {s s1 s2 : Mem} {x : Tx} {i j n m k : Nat} {g : Pg} {T : Th} {A : Ab} {t : Nat}
theorem c_carryOut (h : RC t s T) (W : WT m T) (ht : isTh t) (hS : PSn s n g) (ho : PgOk n g) (hn : n ≤ 10) (hm : m + 10 < 10000) : okR (m_X4_carryOut t s) (fun o s' => EQ t (exg T g n) o s' ∧ Ow t s s') := by
  have ht1 := ht.1
  have ht2 := ht.2
  refine lp_i (fun k a => a.1 = nI k ∧ (∃ T', exg T g k = .inr T' ∧ RC t a.2 T') ∧ Ow t s a.2) n ⟨rfl, ⟨T, rfl, h⟩, Ow.refl⟩ (by omega) fun k a kf hk hI hkf => ?_
  obtain ⟨w2, s1⟩ := a
  obtain ⟨e1, ⟨T', e2, h1⟩, h2⟩ := hI
  dsimp only at e1 h1 h2
  subst e1
  have hS1 := hS.ow h2 (by omega)
  unfold m_X4_carryOut_b2
  dsimp only
  rw [hS1.1]
  by_cases q : k < n
  · have W1 := exg_w W (k := k) (fun j hj => ho j (by omega)) e2
    have hib : ib (nI k) 10 := by rw [nIb (by omega)]; omega
    have hkd := (ho k q).1
    rw [if_neg (show ¬ nI n ≤ nI k by rw [nLe (by omega) (by omega)]; omega), if_pos hib, okR_vl, if_pos hib, okR_vl, if_pos hib, okR_vl, nN (show k < 2 ^ 31 by omega), (hS1.2 k q).1, (hS1.2 k q).2.1, (hS1.2 k q).2.2, c_rs h1 W1 (by omega) hkd, bP_some]
    have ee : exg T g (k + 1) = match rs T' (g k).1 (nI (g k).2.1) (nI (g k).2.2) with | .inl _ => .inl k | .inr (a, b) => .inr (opN T' (g k).1 a b).2 := by
      rw [exg, e2]; rfl
    cases e : rs T' (g k).1 (nI (g k).2.1) (nI (g k).2.2) with
    | inl c =>
      rw [e] at ee
      have hc := rs_cd e
      rw [if_neg (show ¬ nI (rcd (.inl c)) = 0 from fun z => by rw [show nI (rcd (.inl c : Nat ⊕ Nat × Nat)) = nI c from rfl, show (0 : Int32) = nI 0 from rfl, nE (by omega) (by decide)] at z; omega), okR_some]
      have := exg_up ee (n - (k + 1))
      rw [show k + 1 + (n - (k + 1)) = n by omega] at this
      refine ⟨?_, h2⟩
      rw [this]
      rfl
    | inr ab =>
      obtain ⟨a, b⟩ := ab
      rw [e] at ee
      rw [if_pos (show nI (rcd (.inr (a, b))) = 0 from rfl), okR_bindR]
      refine okR_mono (c_carry h1 W1 (by omega) ht hkd e) fun o s2 e3 => ?_
      obtain ⟨rfl, r2, k2⟩ := e3
      rw [thn_l, okR_vl, nI_1]
      exact hkf _ q ⟨rfl, ⟨_, ee, r2⟩, h2.trans k2⟩
  · have e : k = n := by omega
    subst e
    rw [if_pos (show nI k ≤ nI k by rw [nLe (by omega) (by omega)]; exact Nat.le_refl _), okR_some, e2]
    exact ⟨⟨rfl, h1⟩, h2⟩
theorem CK.e8 (h : CK s A) {e : Nat} : CK (pI s 0 8 (nI e)) (A.1, A.2.1, A.2.2.1, aL A, aI A, some e, aF A) := by
  obtain ⟨⟨n, hn, h1⟩, b1, b2, b3, b4, b5, b6⟩ := h
  have o : Ow 0 s (pI s 0 8 (nI e)) := Ow.refl.pI (by decide)
  exact ⟨⟨n, hn, (o.gI (by decide) 1).trans h1.1, (o.gI (by decide) 2).trans h1.2.1, h1.2.2.1.ow o (by omega), fun j hj => (h1.2.2.2 j hj).ow o (by omega)⟩, (gI_k (by decide)).trans b1, fun T e => (b2 T e).ow o (by decide), gI_s, (gI_k (by decide)).trans b4, b5.kp o.gB, b6.kp o.gB⟩
theorem CK.e9 (h : CK s A) {e : Nat} : CK (pI s 0 9 (nI e)) (A.1, A.2.1, A.2.2.1, aL A, aI A, aE A, some e) := by
  obtain ⟨⟨n, hn, h1⟩, b1, b2, b3, b4, b5, b6⟩ := h
  have o : Ow 0 s (pI s 0 9 (nI e)) := Ow.refl.pI (by decide)
  exact ⟨⟨n, hn, (o.gI (by decide) 1).trans h1.1, (o.gI (by decide) 2).trans h1.2.1, h1.2.2.1.ow o (by omega), fun j hj => (h1.2.2.2 j hj).ow o (by omega)⟩, (gI_k (by decide)).trans b1, fun T e => (b2 T e).ow o (by decide), (gI_k (by decide)).trans b3, gI_s, b5.kp o.gB, b6.kp o.gB⟩
theorem inok {A : Ab} (W : WA m A) : InOk (aI A) := ⟨W.2.2.2.2.1, W.2.2.2.2.2.2.2.2.1⟩
theorem k_run (h : CK s A) (W : WA m A) (hm : m + 10 < 10000) : okR (m_X7_run s) (cl s (runA A).1 (runA A).2) := by
  have hx := inok W
  have hx1 := hx.1
  unfold m_X7_run
  rw [okR_bindR]
  refine okR_mono (c_parse h.2.2.2.2.2.2 hx) fun o s1 q => ?_
  obtain ⟨q1, q2⟩ := q
  obtain ⟨b2, l2⟩ := ln_z (s := s1) (o := 6) (Or.inl rfl)
  have hC : CK (sbZ s1 6) (setI A tx0) := (h.kp (Kp.ow q1 (by decide))).ln6 l2 b2
  have kk : Ku 0 s (sbZ s1 6) := (Ku.ow q1 (by decide)).trans l2.2.2
  unfold runA
  cases e : prs (aI A) 61 0 0 g0 with
  | inr e' =>
    rw [e] at q2
    have q2 : o = .inl (nI e') := q2
    subst q2
    have he := prs_er 61 0 0 g0 e (Nat.zero_le _)
    rw [thn_l, okR_vl, if_neg (show ¬ nI e' = -1 from fun z => by rw [show (-1 : Int32) = m1 from rfl, m1_eq (by omega)] at z; exact z), okR_vl, okR_some]
    have o3 : Ow 0 (sbZ s1 6) (pI (sbZ s1 6) 0 8 (nI e')) := Ow.refl.pI (by decide)
    exact cl_throw (c := 3) hC.e8 (kk.trans (Ku.ow o3 (by decide)))
  | inl ng =>
    obtain ⟨n, g⟩ := ng
    rw [e] at q2
    obtain ⟨rfl, q2⟩ : o = .inl m1 ∧ PSn s1 n g := q2
    obtain ⟨n10, hgo⟩ := prs_in hx 61 0 0 g0 e (Nat.zero_le _) (by decide) (fun j hj => absurd hj (Nat.not_lt_zero _))
    obtain ⟨⟨p, hp, hH⟩, hR⟩ := hC
    have w := W.1.sz (show m ≤ 10000 by omega)
    rw [thn_l, okR_vl, if_pos (show m1 = -1 from rfl), okR_bindR]
    refine okR_mono (c_draft hH hp w) fun o s3 q3 => ?_
    obtain ⟨rfl, r3, k3⟩ := q3
    rw [thn_l, if_pos (th12 (by omega)), okR_bindR]
    have hS3 : PSn s3 n g := (q2.ln l2).ow k3 (by omega)
    refine okR_mono (c_carryOut r3 W.1 (th12 (by omega)) hS3 hgo (by omega) hm) fun o s4 q4 => ?_
    obtain ⟨q4, k4⟩ := q4
    have k34 := k3.trans k4
    have kk4 := kk.trans (Ku.ow k34 (by omega))
    have hS4 : PSn s4 n g := hS3.ow k4 (by omega)
    change EQ (12 + (p + 1) % 10) (exg (aT A) g n) o s4 at q4
    dsimp only
    cases e4 : exg (aT A) g n with
    | inl i =>
      rw [e4] at q4
      have q4 : o = .inl (nI i) := q4
      subst q4
      have hi := exg_lt e4
      rw [thn_l, if_neg (show ¬ nI i = -1 from fun z => by rw [show (-1 : Int32) = m1 from rfl, m1_eq (by omega)] at z; exact z), okR_vl, okR_some]
      have hC4 : CK s4 (setI A tx0) := ⟨⟨p, hp, hH.drop hp W.2.1 k34⟩, hR.ow k34 (by omega) (by omega)⟩
      have o3 : Ow 0 s4 (pI s4 0 9 (nI i)) := Ow.refl.pI (by decide)
      exact cl_throw (c := 4) hC4.e9 (kk4.trans (Ku.ow o3 (by decide)))
    | inr T' =>
      rw [e4] at q4
      obtain ⟨rfl, q4⟩ : o = .inl m1 ∧ RC (12 + (p + 1) % 10) s4 T' := q4
      have o1 : Ow 1 s4 (pI (pI s4 1 1 (nI ((p + 1) % 10))) 1 2 (nI (min (aU A + 1) 8))) := (Ow.refl.pI (by decide)).pI (by decide)
      rw [thn_l, if_pos (show m1 = -1 from rfl), c_keepDraft ((k34.gI (by omega) 1).trans hH.1) ((k34.gI (by omega) 2).trans hH.2.1) hp W.2.1, bR_l, okR_some]
      have hn : gI (pI (pI s4 1 1 (nI ((p + 1) % 10))) 1 2 (nI (min (aU A + 1) 8))) 5 3 = nI n := (hS4.ow o1 (by decide)).1
      refine ⟨congrArg Sum.inl hn, ⟨⟨(p + 1) % 10, by omega, hH.push hp W.2.1 k34 q4⟩, (hR.ow k34 (by omega) (by omega)).ow o1 (by decide) (by decide)⟩, (kk4.trans (Ku.ow o1 (by decide))).up (by decide)⟩
end
