/-! ===== the class: a command read; the whole text; running ===== -/
def g0 : Pg := fun _ => (0, 0, 0)
/-- what parsing comes to -/
def PQ (R : (Nat × Pg) ⊕ Nat) (o : Int32 ⊕ String) (s' : Mem) : Prop := match R with
  | .inr e => o = .inl (nI e)
  | .inl (n, g) => o = .inl m1 ∧ PSn s' n g
def PgOk (n : Nat) (g : Pg) : Prop := ∀ j, j < n → (g j).1 < 12 ∧ (g j).2.1 ≤ 999 ∧ (g j).2.2 ≤ 999
/-- commands carried out: the first that is refused, or the theatre behind them -/
def exg (T : Th) (g : Pg) : Nat → Nat ⊕ Th
  | 0 => .inr T
  | k + 1 => match exg T g k with
    | .inl i => .inl i
    | .inr T' => match rs T' (g k).1 (nI (g k).2.1) (nI (g k).2.2) with
      | .inl _ => .inl k
      | .inr (a, b) => .inr (opN T' (g k).1 a b).2
theorem exg_up {T : Th} {g : Pg} {k i : Nat} (h : exg T g k = .inl i) : ∀ m, exg T g (k + m) = .inl i
  | 0 => h
  | m + 1 => by
    rw [show k + (m + 1) = (k + m) + 1 from rfl, exg, exg_up h m]
theorem exg_lt {T : Th} {g : Pg} : ∀ {k i : Nat}, exg T g k = .inl i → i < k
  | 0, _, h => by cases h
  | k + 1, i, h => by
    rw [exg] at h
    cases e : exg T g k with
    | inl i' => rw [e] at h; have := exg_lt e; cases h; omega
    | inr T' =>
      rw [e] at h
      dsimp only at h
      cases e2 : rs T' (g k).1 (nI (g k).2.1) (nI (g k).2.2) with
      | inl c => rw [e2] at h; cases h; omega
      | inr ab => obtain ⟨a, b⟩ := ab; rw [e2] at h; cases h
theorem exg_w {T : Th} {g : Pg} {m : Nat} (W : WT m T) : ∀ {k : Nat} {T' : Th}, PgOk k g → exg T g k = .inr T' → WT (m + k) T'
  | 0, _, _, h => by cases h; exact W
  | k + 1, T', ho, h => by
    rw [exg] at h
    cases e : exg T g k with
    | inl i' => rw [e] at h; cases h
    | inr T1 =>
      rw [e] at h
      dsimp only at h
      have h1 := exg_w W (k := k) (fun j hj => ho j (by omega)) e
      have h2 := (ho k (by omega)).1
      cases e2 : rs T1 (g k).1 (nI (g k).2.1) (nI (g k).2.2) with
      | inl c => rw [e2] at h; cases h
      | inr ab =>
        obtain ⟨a, b⟩ := ab
        rw [e2] at h
        cases h
        exact h1.kN h2 (rs_ok h2 e2)
section
variable {s s1 s2 : Mem} {x : Tx} {i j n m k : Nat} {g : Pg} {T : Th} {A : Ab} {t : Nat}
theorem prs_in (hx : InOk x) : ∀ (f i n : Nat) (g : Pg) {N : Nat} {G : Pg}, prs x f i n g = .inl (N, G) → i ≤ x.1 → 6 * n ≤ i → PgOk n g → 6 * N ≤ x.1 + 1 ∧ PgOk N G
  | 0, _, _, _, _, _, h, _, _, _ => by cases h
  | f + 1, i, n, g, N, G, h, hi, hn, hg => by
    rw [prs_s] at h
    cases e : cmd x i with
    | inr e' => rw [e] at h; cases h
    | inl cj =>
      obtain ⟨⟨k, a, b⟩, j⟩ := cj
      rw [e] at h
      dsimp only at h
      obtain ⟨c1, c2, c3, c4, c5⟩ := cmd_in hi e
      have hg' : PgOk (n + 1) (uf g n (k, a, b)) := fun q hq => by
        by_cases z : q = n
        · subst z; rw [uf_s]; exact ⟨c1, c2, c3⟩
        · rw [uf_k z]; exact hg q (by omega)
      unfold cont at h
      by_cases y : x.1 ≤ j
      · rw [if_pos y] at h
        cases h
        exact ⟨by omega, hg'⟩
      · rw [if_neg y] at h
        by_cases z : cx x j = 59
        · rw [if_pos z] at h
          exact prs_in hx f (j + 1) (n + 1) _ h (by omega) (by omega) hg'
        · rw [if_neg z] at h; cases h
theorem prs_er : ∀ (f i n : Nat) (g : Pg) {e : Nat}, prs x f i n g = .inr e → i ≤ x.1 → e ≤ x.1
  | 0, _, _, _, _, h, hi => by cases h; exact hi
  | f + 1, i, n, g, e, h, hi => by
    rw [prs_s] at h
    cases e1 : cmd x i with
    | inr e' => rw [e1] at h; cases h; exact cmd_er hi e1
    | inl cj =>
      obtain ⟨⟨k, a, b⟩, j⟩ := cj
      rw [e1] at h
      dsimp only at h
      obtain ⟨c1, c2, c3, c4, c5⟩ := cmd_in hi e1
      unfold cont at h
      by_cases y : x.1 ≤ j
      · rw [if_pos y] at h; cases h
      · rw [if_neg y] at h
        by_cases z : cx x j = 59
        · rw [if_pos z] at h
          exact prs_er f (j + 1) (n + 1) _ h (by omega)
        · rw [if_neg z] at h; cases h; exact c5
theorem fms_f : ∀ k, k < 12 → ∀ j, j < (fms k).length → ((fms k).getD j 0 = 66 ∨ (fms k).getD j 0 = 68 ∨ (fms k).getD j 0 = 78) := by decide
theorem fmo_str : ∀ k, k < 12 → isStr (fmo k) := by decide
theorem c_j76 {o : Nat} (hk : k < 12) (hn : n < 10) (h3 : gI s 5 3 = nI n) (h : gI s 5 4 = nI i) (hb : BT s 6 x) (hx : InOk x) (hi : i ≤ 60) {y : Nat} (hy : y < (fms k).length) (ho : (y = 0 ∧ o = 133) ∨ (y = 1 ∧ o = 197)) {kf : (Int32 × Mem) → Res Int32} {Q : Int32 ⊕ String → Mem → Prop}
    (H1 : arg x i ((fms k).getD y 0) = none → Q (.inl (nI 0)) s) (H2 : ∀ a j s', arg x i ((fms k).getD y 0) = some (a, j) → At j s s' → okR (kf (nI (y + 1), pI s' o n (nI a))) Q) : okR (m_X4_readCommand_j76 (fmo k) (nI y) s kf) Q := by
  obtain ⟨e1, e2⟩ := str_fm k hk
  have hl : y < 2 := by rcases ho with ⟨h, _⟩ | ⟨h, _⟩ <;> omega
  unfold m_X4_readCommand_j76
  rw [e1, if_pos (show ib (nI y) (fms k).length by rw [nIb (by omega)]; exact hy), nN (show y < 2 ^ 31 by omega), e2 y hy, okR_bindR]
  refine okR_mono (c_arg h hb hx hi (fms_f k hk y hy)) fun o' s' q => ?_
  cases e : arg x i ((fms k).getD y 0) with
  | none =>
    rw [e] at q
    obtain ⟨rfl, rfl⟩ := q
    rw [thn_l, if_neg (show ¬ ¬ m1 = -1 from fun z => z rfl), okR_some]
    exact H1 e
  | some aj =>
    obtain ⟨a, j⟩ := aj
    rw [e] at q
    obtain ⟨rfl, q⟩ := q
    have ha := (arg_lt e).1
    have h3' : gI s' 5 3 = nI n := (q.2.1 5 3 (Or.inr (by decide))).trans h3
    rw [thn_l, if_pos (show ¬ nI a = -1 from fun z => by rw [show (-1 : Int32) = m1 from rfl, m1_eq (by omega)] at z; exact z)]
    rcases ho with ⟨rfl, rfl⟩ | ⟨rfl, rfl⟩
    · rw [if_neg (show ¬ ¬ nI 0 = 0 from fun z => z rfl), h3', if_pos (show ib (nI n) 10 by rw [nIb (by omega)]; exact hn), nN (show n < 2 ^ 31 by omega), okR_vl, okR_vl]
      exact H2 a j s' e q
    · rw [if_pos (show ¬ nI 1 = 0 by decide), h3', if_pos (show ib (nI n) 10 by rw [nIb (by omega)]; exact hn), nN (show n < 2 ^ 31 by omega), okR_vl, okR_vl]
      exact H2 a j s' e q
def rcK (q : Nat) (j : Nat) : (Int32 × Mem) → Res Int32 := lp (fun kf50 a => m_X4_readCommand_b50 q a.2 kf50 a.1) j
theorem rc_0 {q : Nat} : lp (fun kf50 (a : Int32 × Mem) => m_X4_readCommand_b50 q a.2 kf50 a.1) FUEL (0, s) = rcK q (4090 + 6) (nI 0, s) := rfl
theorem rc_s {q : Nat} {w : Int32} : rcK q (j + 1) (w, s) = m_X4_readCommand_b50 q s (rcK q j) w := rfl
theorem c_readCommand (h : gI s 5 4 = nI i) (hS : PSn s n g) (hb : BT s 6 x) (hx : InOk x) (hi : i ≤ x.1) (hn : 6 * n ≤ i) : okR (m_X4_readCommand s) (fun o s' => Ow 5 s s' ∧ match cmd x i with
    | .inr e => o = .inl (nI 0) ∧ gI s' 5 4 = nI e
    | .inl (c, j) => o = .inl (nI 1) ∧ gI s' 5 4 = nI j ∧ PSn s' (n + 1) (uf g n c)) := by
  have hx1 := hx.1
  unfold m_X4_readCommand
  rw [okR_bindR]
  refine okR_mono (c_readKeyword h hb hx hi) fun o s1 q => ?_
  cases e : kwk x i with
  | none =>
    rw [e] at q
    obtain ⟨rfl, q⟩ := q
    have ec : cmd x i = .inr (i + mxl x i 12) := by unfold cmd; rw [e]
    rw [thn_l, if_pos (show m1 = -1 from rfl), okR_some, ec]
    exact ⟨q.ow, rfl, q.1⟩
  | some k =>
    rw [e] at q
    obtain ⟨rfl, q⟩ := q
    obtain ⟨hk, hlc, _⟩ := kwk_lt e
    have hi' : i < x.1 := by
      by_cases z : i < x.1
      · exact z
      · rw [kwk_no (by omega)] at e; cases e
    have hn' : n < 10 := by omega
    have hP : i + (kwd k).length ≤ x.1 := by
      have := lcp_rng x (kwd k) i (kwd_nz k hk) hi
      omega
    obtain ⟨P, eP⟩ : ∃ P, P = i + (kwd k).length := ⟨_, rfl⟩
    rw [← eP] at q hP
    have ec : cmd x i = match args x P (fms k) with | .inr e => .inr e | .inl (a, b, j) => .inl ((k, a, b), j) := by unfold cmd; rw [e, eP]; rfl
    have hS1 := hS.at q
    rw [thn_l, if_neg (show ¬ nI k = -1 from fun z => by rw [show (-1 : Int32) = m1 from rfl, m1_eq (by omega)] at z; exact z), hS1.1, if_pos (show nI n < 10 by rw [show (10 : Int32) = nI 10 from rfl, nL (by omega) (by decide)]; exact hn'), c_forms hk, bP_some, if_pos (fmo_str k hk)]
    have hib : ib (nI n) 10 := by rw [nIb (by omega)]; exact hn'
    rw [if_pos hib, nN (show n < 2 ^ 31 by omega), okR_vl, gI_o (show 5 ≠ 69 by decide), hS1.1, if_pos hib, nN (show n < 2 ^ 31 by omega), okR_vl]
    obtain ⟨u, eu⟩ : ∃ u, u = pI (pI s1 69 n (nI k)) 197 n 0 := ⟨_, rfl⟩
    rw [← eu]
    have hu : ST u n g (nI k) (gI s1 133 n) (nI 0) := by
      rw [eu]
      exact (ST.kk (v := nI k) ⟨hS1, rfl, rfl, rfl⟩).b
    have hu4 : gI u 5 4 = nI P := by rw [eu, gI_o (by decide), gI_o (by decide)]; exact q.1
    have huo : Ow 5 s u := by rw [eu]; exact (q.ow.pI (by decide)).pI (by decide)
    have hub : BT u 6 x := hb.kp huo.gB
    obtain ⟨e1, e2⟩ := str_fm k hk
    rw [rc_0, rc_s]
    unfold m_X4_readCommand_b50
    rcases fms_2 k hk with ⟨f, ef⟩ | ⟨f, f2, ef⟩
    · have el : (fms k).length = 1 := by rw [ef]; rfl
      have eg : (fms k).getD 0 0 = f := by rw [ef]; rfl
      rw [e1, el, if_neg (show ¬ nI 1 ≤ nI 0 by decide), if_pos (show nI 0 ≤ 0 by decide)]
      refine c_j76 hk hn' hu.1.1 hu4 hub hx (by omega) (by rw [el]; decide) (Or.inl ⟨rfl, rfl⟩) (fun ea => ?_) (fun a j s2 ea q2 => ?_)
      · rw [eg] at ea
        rw [ec, ef, args, ea]
        exact ⟨huo, rfl, hu4⟩
      · rw [eg] at ea
        rw [rc_s, ec, ef, args, ea]
        unfold m_X4_readCommand_b50
        have h2 := (hu.at q2).a (v := nI a)
        rw [e1, el, if_pos (show nI 1 ≤ nI 1 by decide), okR_vl, okR_some, h2.1.1, nI_1]
        refine ⟨((huo.trans q2.ow).pI (by decide)).pI (by decide), rfl, ?_, h2.fin⟩
        rw [gI_2 (Or.inr (by decide)), gI_o (by decide)]
        exact q2.1
    · have el : (fms k).length = 2 := by rw [ef]; rfl
      have eg : (fms k).getD 0 0 = f := by rw [ef]; rfl
      have eg2 : (fms k).getD 1 0 = f2 := by rw [ef]; rfl
      rw [e1, el, if_neg (show ¬ nI 2 ≤ nI 0 by decide), if_pos (show nI 0 ≤ 0 by decide)]
      refine c_j76 hk hn' hu.1.1 hu4 hub hx (by omega) (by rw [el]; decide) (Or.inl ⟨rfl, rfl⟩) (fun ea => ?_) (fun a j s2 ea q2 => ?_)
      · rw [eg] at ea
        rw [ec, ef, args, ea]
        exact ⟨huo, rfl, hu4⟩
      · rw [eg] at ea
        have hj := arg_lt ea
        have h2 := (hu.at q2).a (v := nI a)
        rw [rc_s]
        unfold m_X4_readCommand_b50
        obtain ⟨u2, eu2⟩ : ∃ u, u = pI s2 133 n (nI a) := ⟨_, rfl⟩
        rw [← eu2] at h2 ⊢
        have hu2 : gI u2 5 4 = nI j := by rw [eu2, gI_o (by decide)]; exact q2.1
        have huo2 : Ow 5 s u2 := by rw [eu2]; exact (huo.trans q2.ow).pI (by decide)
        rw [e1, el, if_neg (show ¬ nI 2 ≤ nI 1 by decide), if_neg (show ¬ nI 1 ≤ 0 by decide), okR_bindR]
        refine okR_mono (c_readSign hu2 (hb.kp huo2.gB) hx (by omega) (c := 32) (by decide) (by decide)) fun o s3 q3 => ?_
        rcases q3 with ⟨z, rfl, q3⟩ | ⟨z, rfl, rfl⟩
        · have hz := cx_lt (x := x) (i := j) (by rw [z]; decide)
          have h3 := h2.at q3
          have huo3 := huo2.trans q3.ow
          rw [thn_l, if_pos (show ¬ nI 1 = 0 by decide)]
          refine c_j76 hk hn' h3.1.1 q3.1 (hb.kp huo3.gB) hx (by omega) (by rw [el]; decide) (Or.inr ⟨rfl, rfl⟩) (fun ea2 => ?_) (fun b j2 s4 ea2 q4 => ?_)
          · rw [eg2] at ea2
            rw [ec, ef, args, ea]
            dsimp only
            rw [if_pos z, ea2]
            exact ⟨huo3, rfl, q3.1⟩
          · rw [eg2] at ea2
            rw [ec, ef, args, ea]
            dsimp only
            rw [if_pos z, ea2, rc_s]
            unfold m_X4_readCommand_b50
            have h4 := (h3.at q4).b (v := nI b)
            rw [e1, el, if_pos (show nI 2 ≤ nI 2 by decide), okR_vl, okR_some, h4.1.1, nI_1]
            refine ⟨((huo3.trans q4.ow).pI (by decide)).pI (by decide), rfl, ?_, h4.fin⟩
            rw [gI_2 (Or.inr (by decide)), gI_o (by decide)]
            exact q4.1
        · rw [thn_l, if_neg (show ¬ ¬ nI 0 = 0 by decide), okR_some, ec, ef, args, ea]
          dsimp only
          rw [if_neg z]
          exact ⟨huo2, rfl, hu2⟩
theorem PSn.ow {o : Nat} (h : PSn s n g) (k : Ow o s s1) (ho : o ≠ 5) : PSn s1 n g :=
  ⟨(k.gI (by omega) 3).trans h.1, fun j hj => ⟨(k.gI (by omega) j).trans (h.2 j hj).1, (k.gI (by omega) j).trans (h.2 j hj).2.1, (k.gI (by omega) j).trans (h.2 j hj).2.2⟩⟩
theorem PSn.ln {o : Nat} (h : PSn s n g) (k : Ln o s s1) : PSn s1 n g :=
  ⟨(k.gI 5 3).trans h.1, fun j hj => ⟨(k.gI 69 j).trans (h.2 j hj).1, (k.gI 133 j).trans (h.2 j hj).2.1, (k.gI 197 j).trans (h.2 j hj).2.2⟩⟩
theorem c_parse (hb : BT s 6 x) (hx : InOk x) : okR (m_X4_parse s) (fun o s' => Ow 5 s s' ∧ PQ (prs x 61 0 0 g0) o s') := by
  have hx1 := hx.1
  unfold m_X4_parse
  rw [okR_vl, okR_vl]
  obtain ⟨u, eu⟩ : ∃ u, u = pI (pI s 5 3 0) 5 4 0 := ⟨_, rfl⟩
  rw [← eu]
  have hu : PSn u 0 g0 := ⟨by rw [eu, gI_k (by decide), gI_s]; rfl, fun j hj => absurd hj (Nat.not_lt_zero _)⟩
  have hu4 : gI u 5 4 = nI 0 := by rw [eu, gI_s]; rfl
  have huo : Ow 5 s u := by rw [eu]; exact (Ow.refl.pI (by decide)).pI (by decide)
  obtain ⟨R, eR⟩ : ∃ R, R = prs x 61 0 0 g0 := ⟨_, rfl⟩
  rw [← eR]
  rw [okR_bindR]
  refine okR_mono (c_readCommand hu4 hu (hb.kp huo.gB) hx (Nat.zero_le _) (by decide)) fun o s1 q => ?_
  obtain ⟨q1, q2⟩ := q
  have key : ∀ (w : Int32) (s1 : Mem), Ow 5 s s1 → ((w = nI 0 ∧ ∃ e, R = .inr e ∧ gI s1 5 4 = nI e) ∨ (w = nI 1 ∧ ∃ j n g, gI s1 5 4 = nI j ∧ PSn s1 n g ∧ j ≤ x.1 ∧ 6 * n ≤ j + 1 ∧ n = 1 ∧ R = cont x 60 j n g)) → okR (lp (fun kf18 a => m_X4_parse_b18 a.2.2 kf18 a.1 a.2.1) FUEL (w, 0, s1)) (fun o s' => Ow 5 s s' ∧ PQ R o s') := by
    intro w s1 ho hc
    refine lp_i (fun r a => a.2.1 = nI r ∧ Ow 5 s a.2.2 ∧ ((a.1 = nI 0 ∧ ∃ e, R = .inr e ∧ gI a.2.2 5 4 = nI e) ∨ (a.1 = nI 1 ∧ ∃ j n g, gI a.2.2 5 4 = nI j ∧ PSn a.2.2 n g ∧ j ≤ x.1 ∧ 6 * n ≤ j + 1 ∧ n = r + 1 ∧ R = cont x (60 - r) j n g))) 60 ⟨rfl, ho, hc⟩ (by decide) fun r a kf hr hI hkf => ?_
    obtain ⟨w, w3, s2⟩ := a
    obtain ⟨i1, i2, i3⟩ := hI
    dsimp only at i1 i2 i3
    subst i1
    have j0 : ∀ e, R = .inr e → gI s2 5 4 = nI e → okR (m_X4_parse_j69 (nI 0) s2) (fun o s' => Ow 5 s s' ∧ PQ R o s') := by
      intro e e1 e2
      unfold m_X4_parse_j69
      rw [if_pos (show nI 0 = 0 from rfl), okR_some, e1]
      exact ⟨i2, by show _ = _; rw [e2]⟩
    unfold m_X4_parse_b18
    dsimp only
    rcases i3 with ⟨rfl, e, e1, e2⟩ | ⟨rfl, j, n, g, e1, e2, e3, e4, rfl, e5⟩
    · by_cases z : 60 ≤ r
      · rw [if_pos (show (60 : Int32) ≤ nI r by rw [show (60 : Int32) = nI 60 from rfl, nLe (by decide) (by omega)]; exact z)]
        exact j0 e e1 e2
      · rw [if_neg (show ¬ (60 : Int32) ≤ nI r by rw [show (60 : Int32) = nI 60 from rfl, nLe (by decide) (by omega)]; exact z), if_pos (show nI 0 = 0 from rfl)]
        exact j0 e e1 e2
    · rw [if_neg (show ¬ (60 : Int32) ≤ nI r by rw [show (60 : Int32) = nI 60 from rfl, nLe (by decide) (by omega)]; omega), if_neg (show ¬ nI 1 = 0 by decide)]
      have hb2 : BT s2 6 x := hb.kp i2.gB
      rw [hb2.1, e1]
      unfold cont at e5
      by_cases z : x.1 ≤ j
      · rw [if_pos (show nI x.1 ≤ nI j by rw [nLe (by omega) (by omega)]; exact z)]
        unfold m_X4_parse_j69
        rw [if_pos z] at e5
        rw [if_neg (show ¬ nI 1 = 0 by decide), okR_some, e5]
        exact ⟨i2, rfl, e2⟩
      · rw [if_neg (show ¬ nI x.1 ≤ nI j by rw [nLe (by omega) (by omega)]; exact z), okR_bindR]
        rw [if_neg z] at e5
        refine okR_mono (c_readSign e1 hb2 hx (by omega) (c := 59) (by decide) (by decide)) fun o s3 q3 => ?_
        rcases q3 with ⟨y, rfl, q3⟩ | ⟨y, rfl, rfl⟩
        · rw [if_pos y] at e5
          rw [thn_l, if_neg (show ¬ nI 1 = 0 by decide), okR_bindR]
          have i3 := i2.trans q3.ow
          refine okR_mono (c_readCommand q3.1 (e2.at q3) (hb.kp i3.gB) hx (by omega) (by omega)) fun o s4 q4 => ?_
          obtain ⟨q4, q5⟩ := q4
          have i4 := i3.trans q4
          rw [show 60 - r = (59 - r) + 1 by omega, prs_s] at e5
          cases e6 : cmd x (j + 1) with
          | inr e =>
            rw [e6] at q5 e5
            obtain ⟨rfl, q5⟩ := q5
            rw [thn_l, if_pos (show nI 0 = 0 from rfl), okR_vl, nI_1]
            exact hkf _ (by omega) ⟨rfl, i4, Or.inl ⟨rfl, e, e5, q5⟩⟩
          | inl cj =>
            obtain ⟨⟨k, a, b⟩, j2⟩ := cj
            rw [e6] at q5 e5
            obtain ⟨rfl, q5, q6⟩ := q5
            have q7 := cmd_in (by omega) e6
            rw [thn_l, if_neg (show ¬ nI 1 = 0 by decide), okR_vl, nI_1]
            exact hkf _ (by omega) ⟨rfl, i4, Or.inr ⟨rfl, j2, _, _, q5, q6, by omega, by omega, rfl, by rw [show 60 - (r + 1) = 59 - r by omega]; exact e5⟩⟩
        · rw [if_neg y] at e5
          rw [thn_l, if_pos (show nI 0 = 0 from rfl), okR_vl, nI_1]
          exact hkf _ (by omega) ⟨rfl, i2, Or.inl ⟨rfl, j, e5, e1⟩⟩
  rw [show (61 : Nat) = 60 + 1 from rfl, prs_s] at eR
  cases e6 : cmd x 0 with
  | inr e =>
    rw [e6] at q2 eR
    obtain ⟨rfl, q2⟩ := q2
    rw [thn_l]
    exact key _ _ (huo.trans q1) (Or.inl ⟨rfl, e, eR, q2⟩)
  | inl cj =>
    obtain ⟨⟨k, a, b⟩, j⟩ := cj
    rw [e6] at q2 eR
    obtain ⟨rfl, q2, q3⟩ := q2
    have q7 := cmd_in (Nat.zero_le _) e6
    rw [thn_l]
    exact key _ _ (huo.trans q1) (Or.inr ⟨rfl, j, _, _, q2, q3, by omega, by omega, rfl, eR⟩)
end
