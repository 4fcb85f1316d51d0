/-! ===== the class: parsing ===== -/
/-- only the place has changed -/
def At (i : Nat) (s s' : Mem) : Prop := gI s' 5 4 = nI i ∧ (∀ c j, (c ≠ 5 ∨ j ≠ 4) → gI s' c j = gI s c j) ∧ s'.2 = s.2
/-- n commands are stored -/
def PSn (s : Mem) (n : Nat) (g : Pg) : Prop := gI s 5 3 = nI n ∧ ∀ j, j < n → gI s 69 j = nI (g j).1 ∧ gI s 133 j = nI (g j).2.1 ∧ gI s 197 j = nI (g j).2.2
def ST (s : Mem) (n : Nat) (g : Pg) (a b c : Int32) : Prop := PSn s n g ∧ gI s 69 n = a ∧ gI s 133 n = b ∧ gI s 197 n = c
section
variable {s s1 s2 : Mem} {x : Tx} {i j n m k : Nat} {g : Pg}
theorem gI_2 {a p c q : Nat} {v : Int32} (h : c ≠ a ∨ q ≠ p) : gI (pI s a p v) c q = gI s c q := by
  by_cases e : c = a
  · subst e
    rcases h with h | h
    · exact absurd rfl h
    · exact gI_k h
  · exact gI_o e
theorem At.refl (h : gI s 5 4 = nI i) : At i s s := ⟨h, fun _ _ _ => rfl, rfl⟩
theorem At.w (h : At i s s1) : At j s (pI s1 5 4 (nI j)) := ⟨gI_s, fun c q hc => (gI_2 hc).trans (h.2.1 c q hc), h.2.2⟩
theorem At.trans (h1 : At i s s1) (h2 : At j s1 s2) : At j s s2 := ⟨h2.1, fun c q hc => (h2.2.1 c q hc).trans (h1.2.1 c q hc), h2.2.2.trans h1.2.2⟩
theorem At.ow (h : At i s s1) : Ow 5 s s1 := ⟨fun c hc => ⟨fun q => h.2.1 c q (Or.inl fun e => by subst e; exact hc rfl), fun q => by unfold gJ; rw [h.2.2]⟩, by rw [h.2.2]⟩
theorem At.gB (h : At i s s1) : gB s1 = gB s := h.ow.gB
theorem PSn.at (h : PSn s n g) (k : At i s s1) : PSn s1 n g :=
  ⟨(k.2.1 5 3 (Or.inr (by decide))).trans h.1, fun j hj => ⟨(k.2.1 69 j (Or.inl (by decide))).trans (h.2 j hj).1, (k.2.1 133 j (Or.inl (by decide))).trans (h.2 j hj).2.1, (k.2.1 197 j (Or.inl (by decide))).trans (h.2 j hj).2.2⟩⟩
theorem ST.at {a b c : Int32} (h : ST s n g a b c) (k : At i s s1) : ST s1 n g a b c :=
  ⟨h.1.at k, (k.2.1 69 n (Or.inl (by decide))).trans h.2.1, (k.2.1 133 n (Or.inl (by decide))).trans h.2.2.1, (k.2.1 197 n (Or.inl (by decide))).trans h.2.2.2⟩
theorem ST.kk {a b c v : Int32} (h : ST s n g a b c) : ST (pI s 69 n v) n g v b c :=
  ⟨⟨(gI_o (by decide)).trans h.1.1, fun j hj => ⟨(gI_k (by omega)).trans (h.1.2 j hj).1, (gI_o (by decide)).trans (h.1.2 j hj).2.1, (gI_o (by decide)).trans (h.1.2 j hj).2.2⟩⟩, gI_s, (gI_o (by decide)).trans h.2.2.1, (gI_o (by decide)).trans h.2.2.2⟩
theorem ST.a {a b c v : Int32} (h : ST s n g a b c) : ST (pI s 133 n v) n g a v c :=
  ⟨⟨(gI_o (by decide)).trans h.1.1, fun j hj => ⟨(gI_o (by decide)).trans (h.1.2 j hj).1, (gI_k (by omega)).trans (h.1.2 j hj).2.1, (gI_o (by decide)).trans (h.1.2 j hj).2.2⟩⟩, (gI_o (by decide)).trans h.2.1, gI_s, (gI_o (by decide)).trans h.2.2.2⟩
theorem ST.b {a b c v : Int32} (h : ST s n g a b c) : ST (pI s 197 n v) n g a b v :=
  ⟨⟨(gI_o (by decide)).trans h.1.1, fun j hj => ⟨(gI_o (by decide)).trans (h.1.2 j hj).1, (gI_o (by decide)).trans (h.1.2 j hj).2.1, (gI_k (by omega)).trans (h.1.2 j hj).2.2⟩⟩, (gI_o (by decide)).trans h.2.1, (gI_o (by decide)).trans h.2.2.1, gI_s⟩
theorem ST.fin {k a b : Nat} (h : ST s n g (nI k) (nI a) (nI b)) : PSn (pI s 5 3 (nI (n + 1))) (n + 1) (uf g n (k, a, b)) := by
  refine ⟨gI_s, fun j hj => ?_⟩
  rw [gI_o (by decide), gI_o (by decide), gI_o (by decide)]
  by_cases q : j = n
  · subst q
    rw [uf_s]
    exact h.2
  · rw [uf_k q]
    exact h.1.2 j (by omega)
theorem c_matched (h : gI s 5 4 = nI i) (hb : BT s 6 x) (hx : InOk x) (hi : i ≤ 60) (hk : k < 12) : m_X4_matchedLetters (3021 + k) s = some (nI (lcp x i (kwd k))) := by
  obtain ⟨e1, e2⟩ := str_kw k hk
  have hl := kwd_len k hk
  have hx1 := hx.1
  refine lpO_d (fun j => nI j) (fun j => ∀ t, t < j → cx x (i + t) = (kwd k).getD t 0) (kwd k).length rfl (fun t ht => absurd ht (Nat.not_lt_zero _)) (by omega) fun j hj hI kf => ?_
  unfold m_X4_matchedLetters_b2
  rw [e1, hb.1, h]
  by_cases q : j < (kwd k).length
  · simp (disch := omega) only [nLe, nIb, nN, nI_add, if_neg]
    obtain ⟨w1, w2⟩ := kwd_le k hk j q
    by_cases y : x.1 ≤ i + j
    · left
      simp only [y, if_true]
      rw [lcp_eq x (kwd k) i j hI hj (Or.inr (by rw [cx_no y]; omega))]
    · simp (disch := omega) only [y, if_false, if_pos]
      rw [hb.2 (i + j) (by omega), e2 j q, ← cx_in (x := x) (i := i + j) (by omega)]
      have w3 := cx_le hx (i + j)
      by_cases z : cx x (i + j) = (kwd k).getD j 0
      · right
        refine ⟨q, fun t ht => ?_, ?_⟩
        · by_cases u : t = j
          · subst u; exact z
          · exact hI t (by omega)
        · rw [z, if_neg (fun u => u rfl), vl_i, nI_1]
      · left
        rw [if_pos (fun u => z (by rw [nE (by omega) (by omega)] at u; exact u)), lcp_eq x (kwd k) i j hI hj (Or.inr z)]
  · have e : j = (kwd k).length := by omega
    left
    rw [if_pos (show nI (kwd k).length ≤ nI j by rw [e, nLe (by omega) (by omega)]; exact Nat.le_refl _), lcp_eq x (kwd k) i j hI hj (Or.inl e)]
theorem c_keyword (hk : k < 12) : m_X4_keyword (nI k) s = some (3021 + k) := by
  unfold m_X4_keyword
  rcases (show k = 0 ∨ k = 1 ∨ k = 2 ∨ k = 3 ∨ k = 4 ∨ k = 5 ∨ k = 6 ∨ k = 7 ∨ k = 8 ∨ k = 9 ∨ k = 10 ∨ k = 11 by omega) with rfl | rfl | rfl | rfl | rfl | rfl | rfl | rfl | rfl | rfl | rfl | rfl <;> rfl
theorem c_forms (hk : k < 12) : m_X4_argumentForms (nI k) s = some (fmo k) := by
  unfold m_X4_argumentForms
  rcases (show k = 0 ∨ k = 1 ∨ k = 2 ∨ k = 3 ∨ k = 4 ∨ k = 5 ∨ k = 6 ∨ k = 7 ∨ k = 8 ∨ k = 9 ∨ k = 10 ∨ k = 11 by omega) with rfl | rfl | rfl | rfl | rfl | rfl | rfl | rfl | rfl | rfl | rfl | rfl <;> rfl
theorem c_readKeyword (h : gI s 5 4 = nI i) (hb : BT s 6 x) (hx : InOk x) (hi : i ≤ x.1) : okR (m_X4_readKeyword s) (fun o s' => match kwk x i with
    | none => o = .inl m1 ∧ At (i + mxl x i 12) s s'
    | some k => o = .inl (nI k) ∧ At (i + (kwd k).length) s s') := by
  have hx1 := hx.1
  refine lp_i (fun j a => a = (nI (mxl x i j), nI j) ∧ ∀ t, t < j → lcp x i (kwd t) ≠ (kwd t).length) 12 ⟨rfl, fun t ht => absurd ht (Nat.not_lt_zero _)⟩ (by decide) fun j a kf hj hI hkf => ?_
  obtain ⟨rfl, hI⟩ := hI
  by_cases q : j < 12
  · have hm := mxl_le (x := x) hi j (by omega)
    have hl := kwd_len j q
    have hp := lcp_le x (kwd j) i
    obtain ⟨e1, e2⟩ := str_kw j q
    simp (disch := omega) only [m_X4_readKeyword_b4, ltI, nLe, if_neg]
    rw [c_keyword q, bP_some, if_pos (show isStr (3021 + j) from ⟨by omega, by omega⟩), c_matched h hb hx (by omega) q, bP_some, e1]
    by_cases z : lcp x i (kwd j) = (kwd j).length
    · rw [z, if_neg (fun u => u rfl), okR_vl, okR_some]
      have e : kwk x i = some j := fnd_some q (by simpa using z) (fun t ht => by simpa using hI t ht)
      rw [e, h, nI_add]
      exact ⟨rfl, (At.refl h).w⟩
    · rw [if_pos (show ¬ nI (lcp x i (kwd j)) = nI (kwd j).length from fun u => z (by rw [nE (by omega) (by omega)] at u; exact u)), okR_vl, okR_vl, nI_add]
      refine hkf _ q ⟨?_, fun t ht => ?_⟩
      · rw [mxl]
        simp (disch := omega) only [nL]
        by_cases u : mxl x i j < lcp x i (kwd j)
        · rw [if_pos u, Nat.max_eq_right (by omega)]
        · rw [if_neg u, Nat.max_eq_left (by omega)]
      · by_cases u : t = j
        · subst u; exact z
        · exact hI t (by omega)
  · have e : j = 12 := by omega
    subst e
    have e : kwk x i = none := fnd_none fun t ht => by simpa using hI t ht
    simp (disch := omega) only [m_X4_readKeyword_b4, ltI, nLe, Nat.le_refl, if_true, ltm, h, nI_add]
    rw [okR_vl, okR_some, e]
    exact ⟨rfl, (At.refl h).w⟩
theorem c_readSign (h : gI s 5 4 = nI i) (hb : BT s 6 x) (hx : InOk x) (hi : i ≤ 60) {c : Nat} (hc : c < 1000) (hc0 : c ≠ 0) : okR (m_X4_readSign (nI c) s) (fun o s' => (cx x i = c ∧ o = .inl (nI 1) ∧ At (i + 1) s s') ∨ (cx x i ≠ c ∧ o = .inl (nI 0) ∧ s' = s)) := by
  have hx1 := hx.1
  unfold m_X4_readSign
  rw [hb.1, h]
  simp (disch := omega) only [nLe, nIb, nN]
  by_cases q : x.1 ≤ i
  · rw [if_pos q, okR_some]
    exact Or.inr ⟨by rw [cx_no q]; exact fun e => hc0 e.symm, rfl, rfl⟩
  · have w3 := cx_le hx i
    rw [if_neg q, if_pos (show i < x.1 by omega), hb.2 i (by omega), ← cx_in (show i < x.1 by omega)]
    simp (disch := omega) only [nE]
    by_cases z : cx x i = c
    · rw [if_pos z, okR_vl, okR_some, nI_1]
      exact Or.inl ⟨z, rfl, (At.refl h).w⟩
    · rw [if_neg z, okR_some]
      exact Or.inr ⟨z, rfl, rfl⟩
theorem c_isDigit {c : Nat} (hc : c < 1000) : m_X4_isDigit (nI c) s = some (if 48 ≤ c ∧ c ≤ 57 then nI 1 else nI 0) := by
  unfold m_X4_isDigit
  rw [show (48 : Int32) = nI 48 from rfl, show (57 : Int32) = nI 57 from rfl]
  simp (disch := omega) only [nL]
  by_cases a : c < 48
  · rw [if_pos a, if_neg (by omega)]; rfl
  · rw [if_neg a]
    by_cases b : 57 < c
    · rw [if_pos b, if_neg (by omega)]; rfl
    · rw [if_neg b, if_pos (by omega)]; rfl
theorem rn_step (h : gI s 5 4 = nI i) (hb : BT s 6 x) (hx : InOk x) (hi : i ≤ 60) {v d : Nat} (hv : v ≤ 999) (hd : d ≤ 3) (hm : m ≤ 3) {kf : (Int32 × Int32 × Mem) → Res Int32} : m_X4_readNumber_b5 (nI m) s kf (nI v) (nI d) = if d < m ∧ dgt x i = true then kf (nI (10 * v + (cx x i - 48)), nI (d + 1), pI s 5 4 (nI (i + 1))) else some (.inl (if d = 0 then m1 else nI v), s) := by
  have hx1 := hx.1
  have hR : (if ¬ nI d = 0 then (some (.inl (nI v), s) : Res Int32) else some (.inl (-1), s)) = some (.inl (if d = 0 then m1 else nI v), s) := by
    by_cases z : d = 0
    · subst z; rfl
    · rw [if_neg z, if_pos (show ¬ nI d = 0 from fun u => z (by rw [show (0 : Int32) = nI 0 from rfl, nE (by omega) (by decide)] at u; exact u))]
  unfold m_X4_readNumber_b5
  rw [hR, hb.1, h]
  by_cases q : d < m
  · rw [if_neg (show ¬ nI m ≤ nI d by rw [nLe (by omega) (by omega)]; omega)]
    by_cases y : x.1 ≤ i
    · rw [if_pos (show nI x.1 ≤ nI i by rw [nLe (by omega) (by omega)]; exact y), if_neg (show ¬ (d < m ∧ dgt x i = true) from fun u => by have := (dgt_lt u.2).1; omega)]
    · have w3 := cx_le hx i
      rw [if_neg (show ¬ nI x.1 ≤ nI i by rw [nLe (by omega) (by omega)]; exact y), if_pos (show ib (nI i) x.1 by rw [nIb (by omega)]; omega)]
      have hc : (gB s 6).2.2 (nI i).toNatClampNeg = cx x i := by rw [nN (by omega), hb.2 i (by omega), cx_in (by omega)]
      rw [hc, c_isDigit (by omega), bP_some]
      by_cases z : dgt x i = true
      · have z' := (dgt_lt z).2
        rw [if_pos (show d < m ∧ dgt x i = true from ⟨q, z⟩), if_pos (show 48 ≤ cx x i ∧ cx x i ≤ 57 from z'), if_neg (show ¬ nI 1 = 0 by decide), if_pos (show ib (nI i) x.1 by rw [nIb (by omega)]; omega)]
        simp only [vl_i]
        rw [nI_1, nI_1, ltI, ltI, nM, nI_add, nS' (by omega)]
        congr 2
        congr 1
        omega
      · have z' : ¬ (48 ≤ cx x i ∧ cx x i ≤ 57) := fun u => z (by simpa [dgt] using u)
        rw [if_neg (show ¬ (d < m ∧ dgt x i = true) from fun u => z u.2), if_neg z']
        rfl
  · rw [if_pos (show nI m ≤ nI d by rw [nLe (by omega) (by omega)]; omega), if_neg (show ¬ (d < m ∧ dgt x i = true) from fun u => q u.1)]
theorem BT.at (h : BT s 6 x) (k : At i s s1) : BT s1 6 x := h.kp k.gB
def rnK (m : Int32) (j : Nat) : (Int32 × Int32 × Mem) → Res Int32 := lp (fun kf5 a => m_X4_readNumber_b5 m a.2.2 kf5 a.1 a.2.1) j
theorem rn_0 {m : Int32} : m_X4_readNumber m s = rnK m (4090 + 6) (nI 0, nI 0, s) := rfl
theorem rn_K (h : gI s 5 4 = nI i) (hb : BT s 6 x) (hx : InOk x) (hi : i ≤ 60) {v d : Nat} (hv : v ≤ 999) (hd : d ≤ 3) (hm : m ≤ 3) : rnK (nI m) (j + 1) (nI v, nI d, s) = if d < m ∧ dgt x i = true then rnK (nI m) j (nI (10 * v + (cx x i - 48)), nI (d + 1), pI s 5 4 (nI (i + 1))) else some (.inl (if d = 0 then m1 else nI v), s) :=
  rn_step h hb hx hi hv hd hm
theorem c_num1 (h : gI s 5 4 = nI i) (hb : BT s 6 x) (hx : InOk x) (hi : i ≤ 60) : okR (m_X4_readNumber 1 s) (fun o s' => match num1 x i with
    | none => o = .inl m1 ∧ s' = s
    | some (a, j) => o = .inl (nI a) ∧ At j s s') := by
  unfold num1
  rw [rn_0, show (1 : Int32) = nI 1 from rfl, rn_K h hb hx hi (by decide) (by decide) (by decide)]
  by_cases z : dgt x i = true
  · have z1 := dgt_lt z
    have hx1 := hx.1
    have a1 : At (i + 1) s (pI s 5 4 (nI (i + 1))) := (At.refl h).w
    rw [if_pos (show 0 < 1 ∧ dgt x i = true from ⟨by decide, z⟩), if_pos z, rn_K a1.1 (hb.at a1) hx (by omega) (by omega) (by decide) (by decide), if_neg (show ¬ (0 + 1 < 1 ∧ dgt x (i + 1) = true) from fun u => Nat.lt_irrefl _ u.1), okR_some]
    refine ⟨?_, a1⟩
    rw [if_neg (by decide), show 10 * 0 + (cx x i - 48) = cx x i - 48 by omega]
  · rw [if_neg (show ¬ (0 < 1 ∧ dgt x i = true) from fun u => z u.2), if_neg z, okR_some]
    exact ⟨rfl, rfl⟩
theorem c_num3 (h : gI s 5 4 = nI i) (hb : BT s 6 x) (hx : InOk x) (hi : i ≤ 60) : okR (m_X4_readNumber 3 s) (fun o s' => match num3 x i with
    | none => o = .inl m1 ∧ s' = s
    | some (a, j) => o = .inl (nI a) ∧ At j s s') := by
  unfold num3
  rw [rn_0, show (3 : Int32) = nI 3 from rfl, rn_K h hb hx hi (by decide) (by decide) (by decide)]
  have hx1 := hx.1
  by_cases z : dgt x i = true
  · have z1 := dgt_lt z
    have a1 : At (i + 1) s (pI s 5 4 (nI (i + 1))) := (At.refl h).w
    rw [if_pos (show 0 < 3 ∧ dgt x i = true from ⟨by decide, z⟩), if_pos z, rn_K a1.1 (hb.at a1) hx (by omega) (by omega) (by decide) (by decide)]
    by_cases y : dgt x (i + 1) = true
    · have y1 := dgt_lt y
      have a2 : At (i + 1 + 1) s (pI (pI s 5 4 (nI (i + 1))) 5 4 (nI (i + 1 + 1))) := a1.w
      rw [if_pos (show 0 + 1 < 3 ∧ dgt x (i + 1) = true from ⟨by decide, y⟩), if_pos y, rn_K a2.1 (hb.at a2) hx (by omega) (by omega) (by decide) (by decide)]
      by_cases t : dgt x (i + 2) = true
      · have t1 := dgt_lt t
        have a3 : At (i + 1 + 1 + 1) s (pI (pI (pI s 5 4 (nI (i + 1))) 5 4 (nI (i + 1 + 1))) 5 4 (nI (i + 1 + 1 + 1))) := a2.w
        rw [if_pos (show 0 + 1 + 1 < 3 ∧ dgt x (i + 1 + 1) = true from ⟨by decide, t⟩), if_pos t, rn_K a3.1 (hb.at a3) hx (by omega) (by have := t1.2.2; show 10 * (10 * (10 * 0 + (cx x i - 48)) + (cx x (i + 1) - 48)) + (cx x (i + 2) - 48) ≤ 999; omega) (by decide) (by decide), if_neg (show ¬ (0 + 1 + 1 + 1 < 3 ∧ dgt x (i + 1 + 1 + 1) = true) from fun u => Nat.lt_irrefl _ u.1), okR_some]
        refine ⟨?_, a3⟩
        rw [if_neg (by decide), show 10 * 0 + (cx x i - 48) = cx x i - 48 by omega]
      · rw [if_neg (show ¬ (0 + 1 + 1 < 3 ∧ dgt x (i + 1 + 1) = true) from fun u => t u.2), if_neg t, okR_some]
        refine ⟨?_, a2⟩
        rw [if_neg (by decide), show 10 * 0 + (cx x i - 48) = cx x i - 48 by omega]
    · rw [if_neg (show ¬ (0 + 1 < 3 ∧ dgt x (i + 1) = true) from fun u => y u.2), if_neg y, okR_some]
      refine ⟨?_, a1⟩
      rw [if_neg (by decide), show 10 * 0 + (cx x i - 48) = cx x i - 48 by omega]
  · rw [if_neg (show ¬ (0 < 3 ∧ dgt x i = true) from fun u => z u.2), if_neg z, okR_some]
    exact ⟨rfl, rfl⟩
theorem c_boxn (h : gI s 5 4 = nI i) (hb : BT s 6 x) (hx : InOk x) (hi : i ≤ 60) : okR (m_X4_readBoxName s) (fun o s' => match boxn x i with
    | none => o = .inl m1 ∧ s' = s
    | some (a, j) => o = .inl (nI a) ∧ At j s s') := by
  have hx1 := hx.1
  unfold m_X4_readBoxName boxn
  rw [hb.1, h]
  by_cases q : x.1 ≤ i
  · rw [if_pos (show nI x.1 ≤ nI i by rw [nLe (by omega) (by omega)]; exact q), cx_no q, if_neg (by decide), okR_some]
    exact ⟨rfl, rfl⟩
  · have w3 := cx_le hx i
    have hc : (gB s 6).2.2 (nI i).toNatClampNeg = cx x i := by rw [nN (by omega), hb.2 i (by omega), cx_in (by omega)]
    have hib : ib (nI i) x.1 := by rw [nIb (by omega)]; omega
    rw [if_neg (show ¬ nI x.1 ≤ nI i by rw [nLe (by omega) (by omega)]; exact q), if_pos hib, hc, c_isBoxName, bP_some]
    by_cases z : 97 ≤ cx x i ∧ cx x i ≤ 104
    · have e : bxp (nI (cx x i)) = some (cx x i - 97) := by
        have := bxp_of (b := cx x i - 97) (by omega)
        rw [show 97 + (cx x i - 97) = cx x i by omega] at this
        exact this
      rw [e, if_pos z, show (if (some (cx x i - 97)).isSome = true then nI 1 else nI 0) = nI 1 from rfl, if_pos (show ¬ nI 1 = 0 by decide), if_pos hib, okR_vl, okR_vl, okR_some, nI_1]
      exact ⟨rfl, (At.refl h).w⟩
    · have e : bxp (nI (cx x i)) = none := by
        cases e2 : bxp (nI (cx x i)) with
        | none => rfl
        | some b =>
          obtain ⟨b1, b2⟩ := bxp_lt e2
          rw [nE (by omega) (by omega)] at b2
          omega
      rw [e, if_neg z, show (if (none : Option Nat).isSome = true then nI 1 else nI 0) = nI 0 from rfl, if_neg (show ¬ ¬ nI 0 = 0 by decide), okR_some]
      exact ⟨rfl, rfl⟩
theorem c_arg (h : gI s 5 4 = nI i) (hb : BT s 6 x) (hx : InOk x) (hi : i ≤ 60) {f : Nat} (hf : f = 66 ∨ f = 68 ∨ f = 78) : okR (m_X4_readArgument (nI f) s) (fun o s' => match arg x i f with
    | none => o = .inl m1 ∧ s' = s
    | some (a, j) => o = .inl (nI a) ∧ At j s s') := by
  unfold m_X4_readArgument arg
  simp only [bR_id]
  rcases hf with rfl | rfl | rfl
  · rw [if_neg (show ¬ nI 66 = 68 by decide), if_neg (show ¬ nI 66 = 78 by decide), if_neg (by decide), if_neg (by decide)]
    exact c_boxn h hb hx hi
  · rw [if_pos (show nI 68 = 68 from rfl), if_pos rfl]
    exact c_num1 h hb hx hi
  · rw [if_neg (show ¬ nI 78 = 68 by decide), if_pos (show nI 78 = 78 from rfl), if_neg (by decide), if_pos rfl]
    exact c_num3 h hb hx hi
end
