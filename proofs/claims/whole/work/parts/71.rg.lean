/-! ===== the reference: reading a command ===== -/
/-- the input of the reference -/
def HX (s : Mem) (x : Tx) : Prop := gI s 8 11 = nI x.1 ∧ ∀ k, k < x.1 → gI s 712 k = nI (x.2 k)
/-- behind s0: the place, the sort, the two numbers -/
def RI (s0 s : Mem) (i : Nat) (st a b : Int32) : Prop := gI s 8 12 = nI i ∧ gI s 8 16 = st ∧ gI s 1032 0 = a ∧ gI s 1032 1 = b ∧ ∀ c j, c ≠ 1032 → (c ≠ 8 ∨ (j ≠ 12 ∧ j ≠ 16)) → gI s c j = gI s0 c j
def srt (k : Nat) : Nat := [114, 112, 100, 101, 109, 120, 104, 111, 108, 117, 98, 115].getD k 0
/-- what reading a command comes to -/
def CQ (s0 : Mem) (R : ((Nat × Nat × Nat) × Nat) ⊕ Nat) (o : Int32 ⊕ String) (s' : Mem) : Prop := match R with
  | .inr e => o = .inl (nI 0) ∧ ∃ st a b, RI s0 s' e st a b
  | .inl ((k, va, vb), j) => o = .inl (nI 1) ∧ ∃ b, RI s0 s' j (nI (srt k)) (nI va) b ∧ ((fms k).length = 2 → b = nI vb)
section
variable {s0 s s1 : Mem} {x : Tx} {i j n k : Nat} {st a b : Int32} {Q : Int32 ⊕ String → Mem → Prop}
theorem RI.hx (h : RI s0 s i st a b) (hx : HX s0 x) : HX s x :=
  ⟨(h.2.2.2.2 8 11 (by decide) (Or.inr (by decide))).trans hx.1, fun k hk => (h.2.2.2.2 712 k (by decide) (Or.inl (by decide))).trans (hx.2 k hk)⟩
theorem RI.mi (h : RI s0 s i st a b) : RI s0 (pI s 8 12 (nI j)) j st a b :=
  ⟨gI_s, (gI_k (by decide)).trans h.2.1, (gI_o (by decide)).trans h.2.2.1, (gI_o (by decide)).trans h.2.2.2.1, fun c q h1 h2 => (gI_2 (by omega)).trans (h.2.2.2.2 c q h1 h2)⟩
theorem RI.ms (h : RI s0 s i st a b) {v : Int32} : RI s0 (pI s 8 16 v) i v a b :=
  ⟨(gI_k (by decide)).trans h.1, gI_s, (gI_o (by decide)).trans h.2.2.1, (gI_o (by decide)).trans h.2.2.2.1, fun c q h1 h2 => (gI_2 (by omega)).trans (h.2.2.2.2 c q h1 h2)⟩
theorem RI.ma (h : RI s0 s i st a b) {v : Int32} : RI s0 (pI s 1032 0 v) i st v b :=
  ⟨(gI_o (by decide)).trans h.1, (gI_o (by decide)).trans h.2.1, gI_s, (gI_k (by decide)).trans h.2.2.2.1, fun c q h1 h2 => (gI_o h1).trans (h.2.2.2.2 c q h1 h2)⟩
theorem RI.mb (h : RI s0 s i st a b) {v : Int32} : RI s0 (pI s 1032 1 v) i st a v :=
  ⟨(gI_o (by decide)).trans h.1, (gI_o (by decide)).trans h.2.1, (gI_k (by decide)).trans h.2.2.1, gI_s, fun c q h1 h2 => (gI_o h1).trans (h.2.2.2.2 c q h1 h2)⟩
/-- the next letter, or none -/
def nc (x : Tx) (i : Nat) : Int32 := if i < x.1 then nI (cx x i) else m1
theorem r_nextChar (hx : HX s x) (ho : InOk x) (hi : i ≤ 60) (h : gI s 8 12 = nI i) : m_X8_nextChar s = some (nc x i) := by
  have h1 := ho.1
  unfold m_X8_nextChar nc
  rw [hx.1, h]
  by_cases q : i < x.1
  · rw [if_neg (show ¬ nI x.1 ≤ nI i by rw [nLe (by omega) (by omega)]; omega), if_pos (show ib (nI i) 60 by rw [nIb (by omega)]; omega), nN (by omega), hx.2 i q, if_pos q, cx_in q]
  · rw [if_pos (show nI x.1 ≤ nI i by rw [nLe (by omega) (by omega)]; omega), if_neg q]
    rfl
theorem nc_eq (ho : InOk x) {c : Nat} (hc : c < 1000) (h0 : c ≠ 0) : (nc x i = nI c) ↔ cx x i = c := by
  unfold nc
  have := cx_le ho i
  by_cases q : i < x.1
  · rw [if_pos q, nE (by omega) (by omega)]
  · rw [if_neg q, eq_m1 (by omega), cx_no (by omega)]
    exact ⟨False.elim, fun e => h0 e.symm⟩
theorem r_reads (hx : HX s x) (ho : InOk x) (hi : i ≤ 60) (h : gI s 8 12 = nI i) {c : Nat} (hc : c < 1000) (h0 : c ≠ 0) : m_X8_reads (nI c) s = if cx x i = c then some (.inl (nI 1), pI s 8 12 (nI (i + 1))) else some (.inl (nI 0), s) := by
  unfold m_X8_reads
  rw [r_nextChar hx ho hi h, bP_some]
  by_cases z : cx x i = c
  · rw [if_pos z, if_pos ((nc_eq ho hc h0).mpr z), vl_i, h, nI_1]; rfl
  · rw [if_neg z, if_neg (fun y => z ((nc_eq ho hc h0).mp y))]; rfl
theorem r_between2 {c : Nat} (hc : c < 1000) {lo hi : Nat} (h1 : lo < 1000) (h2 : hi < 1000) : m_X8_isBetween (nI c) (nI lo) (nI hi) s = some (bI (decide (lo ≤ c ∧ c ≤ hi))) := by
  rw [r_between]
  congr 2
  rw [Bool.eq_iff_iff]
  simp only [Bool.and_eq_true, decide_eq_true_eq]
  rw [nL (by omega) (by omega), nL (by omega) (by omega)]
  omega
theorem r_nb (ho : InOk x) {lo hi : Nat} (h0 : 1 ≤ lo) (h1 : lo < 1000) (h2 : hi < 1000) : m_X8_isBetween (nc x i) (nI lo) (nI hi) s = some (bI (decide (lo ≤ cx x i ∧ cx x i ≤ hi))) := by
  have := cx_le ho i
  unfold nc
  by_cases q : i < x.1
  · rw [if_pos q]; exact r_between2 (by omega) h1 h2
  · rw [if_neg q, cx_no (by omega), r_between]
    have e1 : m1 < nI lo := Int32.lt_of_lt_of_le (show m1 < nI 0 by decide) (by rw [nLe (by omega) (by omega)]; omega)
    have e2 : decide (lo ≤ 0 ∧ 0 ≤ hi) = false := by simp; omega
    rw [e2]
    simp [e1]
theorem r_isDigit (hx : HX s x) (ho : InOk x) (hi : i ≤ 60) (h : gI s 8 12 = nI i) : m_X8_isDigitNext s = some (bI (dgt x i)) := by
  unfold m_X8_isDigitNext
  rw [r_nextChar hx ho hi h, bO_some, show m_X8_isBetween (nc x i) 48 57 s = m_X8_isBetween (nc x i) (nI 48) (nI 57) s from rfl, r_nb ho (by decide) (by decide) (by decide), bO_some, if_pos (nar_bI _)]
  rfl
/-- a number put at its place -/
def RK (s0 s : Mem) (i : Nat) (st : Int32) (k : Nat) (v a b : Int32) : Prop := RI s0 s i st (if k = 0 then v else a) (if k = 0 then b else v)
theorem RI.put (h : RI s0 s i st a b) (hk : k < 2) {v : Int32} : RI s0 (pI s 1032 k v) i st (if k = 0 then v else a) (if k = 0 then b else v) := by
  rcases (show k = 0 ∨ k = 1 by omega) with rfl | rfl
  · exact h.ma
  · exact h.mb
theorem r_digit (hx : HX s0 x) (ho : InOk x) (hi : i ≤ 60) (h : RI s0 s i st a b) (hk : k < 2) : okR (m_X8_readsDigit (nI k) s) (fun o s' => match num1 x i with
    | none => o = .inl (nI 0) ∧ s' = s
    | some (v, j) => o = .inl (nI 1) ∧ RK s0 s' j st k (nI v) a b) := by
  unfold m_X8_readsDigit num1
  rw [r_isDigit (h.hx hx) ho hi h.1, bP_some]
  by_cases z : dgt x i = true
  · have z1 := dgt_lt z
    rw [z, if_pos (show ¬ bI true = 0 by decide), if_pos rfl, r_nextChar (h.hx hx) ho hi h.1, bP_some, if_pos (show ib (nI k) 2 by rw [nIb (by omega)]; exact hk), okR_vl, okR_vl, okR_some, nN (by omega), gI_o (by decide), h.1, nI_1]
    have e : nc x i - 48 = nI (cx x i - 48) := by
      unfold nc
      rw [if_pos z1.1, show (48 : Int32) = nI 48 from rfl, nS' (by omega)]
    rw [e]
    exact ⟨rfl, (h.put hk).mi⟩
  · have z' : dgt x i = false := by simpa using z
    rw [z', if_neg (show ¬ ¬ bI false = 0 by decide), if_neg (by decide), okR_some]
    exact ⟨rfl, rfl⟩
def rnB (q : Int32) (j : Nat) : (Int32 × Mem) → Res Int32 := lp (fun kf12 a => m_X8_readsNumber_b12 q a.2 kf12 a.1) j
theorem rnB_0 {q : Int32} : lp (fun kf12 (a : Int32 × Mem) => m_X8_readsNumber_b12 q a.2 kf12 a.1) FUEL (0, s) = rnB q (4090 + 6) (nI 0, s) := rfl
theorem rnB_s (hx : HX s0 x) (ho : InOk x) (hi : i ≤ 60) (hk : k < 2) {v d : Nat} (hv : v ≤ 99) (hd : d ≤ 2) (h : RI s0 s i st (if k = 0 then nI v else a) (if k = 0 then b else nI v)) : rnB (nI k) (j + 1) (nI d, s) = if d < 2 ∧ dgt x i = true then rnB (nI k) j (nI (d + 1), pI (pI s 1032 k (nI (10 * v + (cx x i - 48)))) 8 12 (nI (i + 1))) else some (.inl (nI 1), s) := by
  show m_X8_readsNumber_b12 (nI k) s (rnB (nI k) j) (nI d) = _
  unfold m_X8_readsNumber_b12
  by_cases q : d < 2
  · rw [if_neg (show ¬ (2 : Int32) ≤ nI d by rw [show (2 : Int32) = nI 2 from rfl, nLe (by omega) (by omega)]; omega), r_isDigit (h.hx hx) ho hi h.1, bP_some]
    by_cases z : dgt x i = true
    · have z1 := dgt_lt z
      have e : nc x i = nI (cx x i) := if_pos z1.1
      have g : gI s 1032 (nI k).toNatClampNeg = nI v := by
        rw [nN (by omega)]
        rcases (show k = 0 ∨ k = 1 by omega) with rfl | rfl
        · exact h.2.2.1
        · exact h.2.2.2.1
      rw [z, if_neg (show ¬ bI true = 0 by decide), if_pos (show ib (nI k) 2 by rw [nIb (by omega)]; exact hk), r_nextChar (h.hx hx) ho hi h.1, bP_some, if_pos (show ib (nI k) 2 by rw [nIb (by omega)]; exact hk), vl_i, vl_i, vl_i, g, e, nN (by omega), gI_o (by decide), h.1, nI_1, nI_1, show (10 : Int32) = nI 10 from rfl, nM, nI_add, show (48 : Int32) = nI 48 from rfl, nS' (by omega), if_pos ⟨q, rfl⟩, show 10 * v + cx x i - 48 = 10 * v + (cx x i - 48) by omega]
    · have z' : dgt x i = false := by simpa using z
      rw [z', if_pos (show bI false = 0 from rfl), if_neg (fun y => by cases y.2)]
      rfl
  · rw [if_pos (show (2 : Int32) ≤ nI d by rw [show (2 : Int32) = nI 2 from rfl, nLe (by omega) (by omega)]; omega), if_neg (fun y => q y.1)]
    rfl
theorem r_number (hx : HX s0 x) (ho : InOk x) (hi : i ≤ 60) (h : RI s0 s i st a b) (hk : k < 2) : okR (m_X8_readsNumber (nI k) s) (fun o s' => match num3 x i with
    | none => o = .inl (nI 0) ∧ s' = s
    | some (v, j) => o = .inl (nI 1) ∧ RK s0 s' j st k (nI v) a b) := by
  have hx1 := ho.1
  unfold m_X8_readsNumber num3
  rw [okR_bindR]
  refine okR_mono (r_digit hx ho hi h hk) fun o s1 q => ?_
  unfold num1 at q
  by_cases z : dgt x i = true
  · have z1 := dgt_lt z
    rw [if_pos z] at q
    rw [if_pos z]
    obtain ⟨rfl, q⟩ := q
    rw [thn_l, if_pos (show ¬ nI 1 = 0 by decide), rnB_0, rnB_s hx ho (by omega) hk (by omega) (by decide) q]
    have put : ∀ {s2 : Mem} {i2 v2 w : Nat}, RI s0 s2 i2 st (if k = 0 then nI v2 else a) (if k = 0 then b else nI v2) → RI s0 (pI (pI s2 1032 k (nI w)) 8 12 (nI (i2 + 1))) (i2 + 1) st (if k = 0 then nI w else a) (if k = 0 then b else nI w) := by
      intro s2 i2 v2 w h2
      have := (h2.put hk (v := nI w)).mi (j := i2 + 1)
      rcases (show k = 0 ∨ k = 1 by omega) with rfl | rfl
      · exact this
      · exact this
    by_cases y : dgt x (i + 1) = true
    · have y1 := dgt_lt y
      rw [if_pos ⟨by decide, y⟩, if_pos y, rnB_s hx ho (by omega) hk (by omega) (by decide) (put q)]
      by_cases t : dgt x (i + 2) = true
      · have t1 := dgt_lt t
        rw [if_pos ⟨by decide, t⟩, if_pos t]
        have h3 := put (w := 10 * (10 * (cx x i - 48) + (cx x (i + 1) - 48)) + (cx x (i + 1 + 1) - 48)) (put (w := 10 * (cx x i - 48) + (cx x (i + 1) - 48)) q)
        show okR (m_X8_readsNumber_b12 (nI k) _ (rnB (nI k) (4090 + 3)) (nI (0 + 1 + 1))) _
        unfold m_X8_readsNumber_b12
        rw [if_pos (show (2 : Int32) ≤ nI (0 + 1 + 1) by decide), okR_some]
        exact ⟨rfl, h3⟩
      · rw [if_neg (show ¬ (0 + 1 < 2 ∧ dgt x (i + 1 + 1) = true) from fun u => t u.2), if_neg t, okR_some]
        exact ⟨rfl, put q⟩
    · rw [if_neg (show ¬ (0 < 2 ∧ dgt x (i + 1) = true) from fun u => y u.2), if_neg y, okR_some]
      exact ⟨rfl, q⟩
  · rw [if_neg z] at q
    rw [if_neg z]
    obtain ⟨rfl, rfl⟩ := q
    rw [thn_l, if_neg (show ¬ ¬ nI 0 = 0 by decide), okR_some]
    exact ⟨rfl, rfl⟩
/-! words -/
def rdW (k : Mem → Res Int32) : List Nat → Mem → Res Int32
  | [], s => k s
  | c :: w, s => bindR (m_X8_reads (nI c) s) (fun v s' => if v = 0 then some (.inl 0, s') else rdW k w s')
theorem r_rdW (hx : HX s0 x) (ho : InOk x) {K : Mem → Res Int32} : ∀ (w : List Nat) {i : Nat} {s : Mem}, (∀ c ∈ w, c < 1000 ∧ c ≠ 0) → i ≤ x.1 → RI s0 s i st a b → (lcp x i w = w.length → ∀ s', RI s0 s' (i + w.length) st a b → okR (K s') Q) → (lcp x i w ≠ w.length → ∀ s', RI s0 s' (i + lcp x i w) st a b → Q (.inl (nI 0)) s') → okR (rdW K w s) Q
  | [], i, s, _, _, h, H1, _ => H1 rfl s h
  | c :: w, i, s, hw, hi, h, H1, H2 => by
    have hx1 := ho.1
    obtain ⟨c1, c2⟩ := hw c (List.mem_cons_self ..)
    rw [rdW, r_reads (h.hx hx) ho (by omega) h.1 c1 c2]
    by_cases z : cx x i = c
    · have zi := cx_lt (x := x) (i := i) (by omega)
      have e : lcp x i (c :: w) = lcp x (i + 1) w + 1 := by rw [lcp, if_pos z]
      rw [e, List.length_cons] at H1 H2
      rw [if_pos z, bR_l, if_neg (show ¬ nI 1 = 0 by decide)]
      refine r_rdW hx ho w (i := i + 1) (fun c hc => hw c (List.mem_cons_of_mem _ hc)) zi h.mi (fun q s' h' => H1 (by omega) s' ?_) (fun q s' h' => H2 (by omega) s' ?_)
      · rw [show i + (w.length + 1) = i + 1 + w.length by omega]; exact h'
      · rw [show i + (lcp x (i + 1) w + 1) = i + 1 + lcp x (i + 1) w by omega]; exact h'
    · have e : lcp x i (c :: w) = 0 := by rw [lcp, if_neg z]
      rw [e, List.length_cons] at H2
      rw [if_neg z, bR_l, if_pos (show nI 0 = 0 from rfl)]
      exact okR_some.mpr (H2 (by omega) s h)
/-! arguments -/
def rA (f : Nat) (k : Nat) (s : Mem) : Res Int32 := if f = 68 then m_X8_readsDigit (nI k) s else m_X8_readsNumber (nI k) s
def t1 (f : Nat) (s : Mem) : Res Int32 := bindR (rA f 0 s) (fun v s' => if v = 0 then some (.inl 0, s') else some (.inl 1, s'))
def t2 (f g : Nat) (s : Mem) : Res Int32 := bindR (rA f 0 s) (fun v s' => if v = 0 then some (.inl 0, s') else bindR (m_X8_reads 32 s') (fun v s' => if v = 0 then some (.inl 0, s') else bindR (rA g 1 s') (fun v s' => if v = 0 then some (.inl 0, s') else some (.inl 1, s'))))
theorem r_A (hx : HX s0 x) (ho : InOk x) (hi : i ≤ 60) (h : RI s0 s i st a b) (hk : k < 2) {f : Nat} (hf : f = 68 ∨ f = 78) : okR (rA f k s) (fun o s' => match arg x i f with
    | none => o = .inl (nI 0) ∧ s' = s
    | some (v, j) => o = .inl (nI 1) ∧ RK s0 s' j st k (nI v) a b) := by
  unfold rA arg
  rcases hf with rfl | rfl
  · rw [if_pos rfl, if_pos rfl]; exact r_digit hx ho hi h hk
  · rw [if_neg (by decide), if_neg (by decide), if_pos rfl]; exact r_number hx ho hi h hk
theorem r_t1 (hx : HX s0 x) (ho : InOk x) (hi : i ≤ 60) (h : RI s0 s i (nI (srt n)) a b) {f : Nat} (hf : f = 68 ∨ f = 78) (e : fms n = [f]) : okR (t1 f s) (CQ s0 (fin x n i)) := by
  unfold t1 fin
  rw [e, args, okR_bindR]
  refine okR_mono (r_A hx ho hi h (k := 0) (by decide) hf) fun o s1 q => ?_
  cases ea : arg x i f with
  | none =>
    rw [ea] at q
    obtain ⟨rfl, rfl⟩ := q
    rw [thn_l, if_pos (show nI 0 = 0 from rfl), okR_some]
    exact ⟨rfl, _, _, _, h⟩
  | some vj =>
    obtain ⟨v, j⟩ := vj
    rw [ea] at q
    obtain ⟨rfl, q⟩ := q
    rw [thn_l, if_neg (show ¬ nI 1 = 0 by decide), okR_some]
    exact ⟨rfl, b, q, fun z => by rw [e] at z; cases z⟩
theorem r_t2 (hx : HX s0 x) (ho : InOk x) (hi : i ≤ 60) (h : RI s0 s i (nI (srt n)) a b) {f g : Nat} (hf : f = 68 ∨ f = 78) (hg : g = 68 ∨ g = 78) (e : fms n = [f, g]) : okR (t2 f g s) (CQ s0 (fin x n i)) := by
  have hx1 := ho.1
  unfold t2 fin
  rw [e, args, okR_bindR]
  refine okR_mono (r_A hx ho hi h (k := 0) (by decide) hf) fun o s1 q => ?_
  cases ea : arg x i f with
  | none =>
    rw [ea] at q
    obtain ⟨rfl, rfl⟩ := q
    rw [thn_l, if_pos (show nI 0 = 0 from rfl), okR_some]
    exact ⟨rfl, _, _, _, h⟩
  | some vj =>
    obtain ⟨v, j⟩ := vj
    rw [ea] at q
    obtain ⟨rfl, q⟩ := q
    have q : RI s0 s1 j (nI (srt n)) (nI v) b := q
    have hj := arg_lt ea
    rw [thn_l, if_neg (show ¬ nI 1 = 0 by decide), show m_X8_reads 32 s1 = m_X8_reads (nI 32) s1 from rfl, r_reads (q.hx hx) ho (by omega) q.1 (by decide) (by decide)]
    dsimp only
    by_cases z : cx x j = 32
    · have zj := cx_lt (x := x) (i := j) (by omega)
      rw [if_pos z, if_pos z, bR_l, if_neg (show ¬ nI 1 = 0 by decide), okR_bindR]
      refine okR_mono (r_A hx ho (by omega) (q.mi (j := j + 1)) (k := 1) (by decide) hg) fun o s2 q2 => ?_
      cases eb : arg x (j + 1) g with
      | none =>
        rw [eb] at q2
        obtain ⟨rfl, rfl⟩ := q2
        rw [thn_l, if_pos (show nI 0 = 0 from rfl), okR_some]
        exact ⟨rfl, _, _, _, q.mi⟩
      | some wj =>
        obtain ⟨w, j2⟩ := wj
        rw [eb] at q2
        obtain ⟨rfl, q2⟩ := q2
        rw [thn_l, if_neg (show ¬ nI 1 = 0 by decide), okR_some]
        exact ⟨rfl, nI w, q2, fun _ => rfl⟩
    · rw [if_neg z, if_neg z, bR_l, if_pos (show nI 0 = 0 from rfl), okR_some]
      exact ⟨rfl, _, _, _, q⟩
end
