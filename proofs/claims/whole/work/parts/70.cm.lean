/-! ===== a command by its letters ===== -/
def khd (k : Nat) : Nat := (kwd k).headD 0
def ktl (k : Nat) : List Nat := (kwd k).tail
theorem kwd_c : ∀ k, k < 12 → kwd k = khd k :: ktl k := by decide
/-- what stands behind a keyword -/
def fin (x : Tx) (k P : Nat) : ((Nat × Nat × Nat) × Nat) ⊕ Nat := match args x P (fms k) with
  | .inr e => .inr e
  | .inl (a, b, j) => .inl ((k, a, b), j)
section
variable {x : Tx} {i k l : Nat}
theorem lcp_h (hk : k < 12) : lcp x i (kwd k) = if cx x i = khd k then lcp x (i + 1) (ktl k) + 1 else 0 := by rw [kwd_c k hk, lcp]
theorem len_h (hk : k < 12) : (kwd k).length = (ktl k).length + 1 := by rw [kwd_c k hk, List.length_cons]
theorem cmd_full (h : kwk x i = some k) : cmd x i = fin x k (i + (kwd k).length) := by
  unfold cmd fin
  rw [h]
  rfl
theorem cmd_none (h : kwk x i = none) : cmd x i = .inr (i + mxl x i 12) := by
  unfold cmd
  rw [h]
theorem mx2 (h : ∀ j, j < 12 → j ≠ k → j ≠ l → lcp x i (kwd j) = 0) : ∀ n, n ≤ 12 → mxl x i n = max (if k < n then lcp x i (kwd k) else 0) (if l < n then lcp x i (kwd l) else 0)
  | 0, _ => rfl
  | n + 1, hn => by
    rw [mxl, mx2 h n (by omega)]
    by_cases a : n = k
    · subst a
      rw [if_neg (Nat.lt_irrefl _), if_pos (Nat.lt_succ_self _)]
      by_cases b : n = l
      · subst b
        rw [if_neg (Nat.lt_irrefl _), if_pos (Nat.lt_succ_self _)]
        omega
      · by_cases c : l < n
        · rw [if_pos c, if_pos (by omega)]; omega
        · rw [if_neg c, if_neg (by omega)]; omega
    · by_cases b : n = l
      · subst b
        rw [if_neg (Nat.lt_irrefl _), if_pos (Nat.lt_succ_self _)]
        by_cases c : k < n
        · rw [if_pos c, if_pos (by omega)]; omega
        · rw [if_neg c, if_neg (by omega)]; omega
      · rw [h n (by omega) a b]
        by_cases c : k < n
        · rw [if_pos c, if_pos (show k < n + 1 by omega)]
          by_cases d : l < n
          · rw [if_pos d, if_pos (by omega)]; omega
          · rw [if_neg d, if_neg (by omega)]; omega
        · rw [if_neg c, if_neg (show ¬ k < n + 1 by omega)]
          by_cases d : l < n
          · rw [if_pos d, if_pos (by omega)]; omega
          · rw [if_neg d, if_neg (by omega)]; omega
theorem cmd2 (hk : k < 12) (hl : l < 12) (h : ∀ j, j < 12 → j ≠ k → j ≠ l → lcp x i (kwd j) = 0) (h2 : lcp x i (kwd l) ≠ (kwd l).length) : cmd x i = if lcp x i (kwd k) = (kwd k).length then fin x k (i + (kwd k).length) else .inr (i + max (lcp x i (kwd k)) (lcp x i (kwd l))) := by
  by_cases q : lcp x i (kwd k) = (kwd k).length
  · rw [if_pos q]
    refine cmd_full (fnd_some hk (by simpa using q) fun j hj => ?_)
    simp only [decide_eq_false_iff_not]
    by_cases e : j = l
    · subst e; exact h2
    · rw [h j (by omega) (by omega) e]
      have := (kwd_len j (by omega)).1
      omega
  · rw [if_neg q]
    have e : kwk x i = none := fnd_none fun j hj => by
      simp only [decide_eq_false_iff_not]
      by_cases a : j = k
      · subst a; exact q
      · by_cases b : j = l
        · subst b; exact h2
        · rw [h j hj a b]
          have := (kwd_len j hj).1
          omega
    rw [cmd_none e, mx2 h 12 (Nat.le_refl _), if_pos hk, if_pos hl]
theorem cmd1 (hk : k < 12) (hd : ∀ j, j < 12 → j ≠ k → khd j ≠ khd k) (h : cx x i = khd k) : cmd x i = if lcp x (i + 1) (ktl k) = (ktl k).length then fin x k (i + 1 + (ktl k).length) else .inr (i + 1 + lcp x (i + 1) (ktl k)) := by
  have h0 : ∀ j, j < 12 → j ≠ k → lcp x i (kwd j) = 0 := fun j hj hjk => by rw [lcp_h hj, if_neg (fun e => hd j hj hjk (e.symm.trans h))]
  obtain ⟨l, hl, hlk⟩ : ∃ l, l < 12 ∧ l ≠ k := by
    by_cases e : k = 0
    · exact ⟨1, by decide, by omega⟩
    · exact ⟨0, by decide, fun z => e z.symm⟩
  have hl0 := h0 l hl hlk
  have := (kwd_len l hl).1
  rw [cmd2 hk hl (fun j hj a _ => h0 j hj a) (by omega), hl0, lcp_h hk, if_pos h, len_h hk]
  by_cases q : lcp x (i + 1) (ktl k) = (ktl k).length
  · rw [if_pos q, if_pos (by omega), show i + ((ktl k).length + 1) = i + 1 + (ktl k).length by omega]
  · rw [if_neg q, if_neg (by omega), show i + max (lcp x (i + 1) (ktl k) + 1) 0 = i + 1 + lcp x (i + 1) (ktl k) by omega]
theorem cmd_r (h : cx x i = 114) : cmd x i = if cx x (i + 1) = 111 then (if lcp x (i + 2) [119, 32] = 2 then fin x 0 (i + 4) else .inr (i + 2 + lcp x (i + 2) [119, 32])) else (if lcp x (i + 1) [101, 109, 111, 118, 101, 32] = 6 then fin x 5 (i + 7) else .inr (i + 1 + lcp x (i + 1) [101, 109, 111, 118, 101, 32])) := by
  have h0 : ∀ j, j < 12 → j ≠ 0 → j ≠ 5 → lcp x i (kwd j) = 0 := fun j hj a b => by
    rw [lcp_h hj, if_neg (fun e => ?_)]
    rw [h] at e
    exact absurd e.symm ((by decide : ∀ j, j < 12 → j ≠ 0 → j ≠ 5 → khd j ≠ 114) j hj a b)
  have e0 : lcp x i (kwd 0) = lcp x (i + 1) (111 :: [119, 32]) + 1 := by rw [lcp_h (by decide), if_pos (show cx x i = khd 0 from h)]; rfl
  have e5 : lcp x i (kwd 5) = lcp x (i + 1) [101, 109, 111, 118, 101, 32] + 1 := by rw [lcp_h (by decide), if_pos (show cx x i = khd 5 from h)]; rfl
  by_cases q : cx x (i + 1) = 111
  · rw [if_pos q]
    have e0' : lcp x (i + 1) (111 :: [119, 32]) = lcp x (i + 2) [119, 32] + 1 := by rw [lcp, if_pos q]
    have e5' : lcp x (i + 1) [101, 109, 111, 118, 101, 32] = 0 := by rw [lcp, if_neg (by rw [q]; decide)]
    rw [cmd2 (k := 0) (l := 5) (by decide) (by decide) h0 (by rw [e5, e5']; decide), e0, e5, e0', e5', show (kwd 0).length = 4 from rfl]
    by_cases y : lcp x (i + 2) [119, 32] = 2
    · rw [if_pos y, if_pos (by omega)]
    · rw [if_neg y, if_neg (by omega), show i + max (lcp x (i + 2) [119, 32] + 1 + 1) (0 + 1) = i + 2 + lcp x (i + 2) [119, 32] by omega]
  · rw [if_neg q]
    have e0' : lcp x (i + 1) (111 :: [119, 32]) = 0 := by rw [lcp, if_neg q]
    rw [cmd2 (k := 5) (l := 0) (by decide) (by decide) (fun j hj a b => h0 j hj b a) (by rw [e0, e0']; decide), e0, e5, e0', show (kwd 5).length = 7 from rfl]
    by_cases y : lcp x (i + 1) [101, 109, 111, 118, 101, 32] = 6
    · rw [if_pos y, if_pos (by omega)]
    · rw [if_neg y, if_neg (by omega), show i + max (lcp x (i + 1) [101, 109, 111, 118, 101, 32] + 1) (0 + 1) = i + 1 + lcp x (i + 1) [101, 109, 111, 118, 101, 32] by omega]
theorem cmd_d (h : cx x i = 100) : cmd x i = if cx x (i + 1) = 105 then (if cx x (i + 2) = 115 then (if cx x (i + 3) = 109 then (if lcp x (i + 4) [105, 115, 115, 32] = 4 then fin x 2 (i + 8) else .inr (i + 4 + lcp x (i + 4) [105, 115, 115, 32])) else (if lcp x (i + 3) [111, 119, 110, 32] = 4 then fin x 7 (i + 7) else .inr (i + 3 + lcp x (i + 3) [111, 119, 110, 32]))) else .inr (i + 2)) else .inr (i + 1) := by
  have h0 : ∀ j, j < 12 → j ≠ 2 → j ≠ 7 → lcp x i (kwd j) = 0 := fun j hj a b => by
    rw [lcp_h hj, if_neg (fun e => ?_)]
    rw [h] at e
    exact absurd e.symm ((by decide : ∀ j, j < 12 → j ≠ 2 → j ≠ 7 → khd j ≠ 100) j hj a b)
  have e2 : lcp x i (kwd 2) = lcp x (i + 1) (105 :: 115 :: 109 :: [105, 115, 115, 32]) + 1 := by rw [lcp_h (by decide), if_pos (show cx x i = khd 2 from h)]; rfl
  have e7 : lcp x i (kwd 7) = lcp x (i + 1) (105 :: 115 :: [111, 119, 110, 32]) + 1 := by rw [lcp_h (by decide), if_pos (show cx x i = khd 7 from h)]; rfl
  by_cases q : cx x (i + 1) = 105
  · rw [if_pos q]
    rw [lcp, if_pos q] at e2 e7
    by_cases r : cx x (i + 2) = 115
    · rw [if_pos r]
      rw [lcp, if_pos (show cx x (i + 1 + 1) = 115 from r)] at e2 e7
      by_cases t : cx x (i + 3) = 109
      · rw [if_pos t]
        rw [lcp, if_pos (show cx x (i + 1 + 1 + 1) = 109 from t)] at e2
        rw [lcp, if_neg (show ¬ cx x (i + 1 + 1 + 1) = 111 by rw [show i + 1 + 1 + 1 = i + 3 from rfl, t]; decide)] at e7
        rw [cmd2 (k := 2) (l := 7) (by decide) (by decide) h0 (by rw [e7]; decide), e2, e7, show (kwd 2).length = 8 from rfl, show i + 1 + 1 + 1 + 1 = i + 4 from rfl]
        by_cases y : lcp x (i + 4) [105, 115, 115, 32] = 4
        · rw [if_pos y, if_pos (by omega)]
        · rw [if_neg y, if_neg (by omega), show i + max (lcp x (i + 4) [105, 115, 115, 32] + 1 + 1 + 1 + 1) (0 + 1 + 1 + 1) = i + 4 + lcp x (i + 4) [105, 115, 115, 32] by omega]
      · rw [if_neg t]
        rw [lcp, if_neg (show ¬ cx x (i + 1 + 1 + 1) = 109 from t)] at e2
        rw [cmd2 (k := 7) (l := 2) (by decide) (by decide) (fun j hj a b => h0 j hj b a) (by rw [e2]; decide), e2, e7, show (kwd 7).length = 7 from rfl, show i + 1 + 1 + 1 = i + 3 from rfl]
        by_cases y : lcp x (i + 3) [111, 119, 110, 32] = 4
        · rw [if_pos y, if_pos (by omega)]
        · rw [if_neg y, if_neg (by omega), show i + max (lcp x (i + 3) [111, 119, 110, 32] + 1 + 1 + 1) (0 + 1 + 1 + 1) = i + 3 + lcp x (i + 3) [111, 119, 110, 32] by omega]
    · rw [if_neg r]
      rw [lcp, if_neg (show ¬ cx x (i + 1 + 1) = 115 from r)] at e2 e7
      rw [cmd2 (k := 2) (l := 7) (by decide) (by decide) h0 (by rw [e7]; decide), e2, e7, if_neg (show ¬ 0 + 1 + 1 = (kwd 2).length by decide), show i + max (0 + 1 + 1) (0 + 1 + 1) = i + 2 by omega]
  · rw [if_neg q]
    rw [lcp, if_neg q] at e2 e7
    rw [cmd2 (k := 2) (l := 7) (by decide) (by decide) h0 (by rw [e7]; decide), e2, e7, if_neg (show ¬ 0 + 1 = (kwd 2).length by decide), show i + max (0 + 1) (0 + 1) = i + 1 by omega]
theorem cmd_n (h : ∀ j, j < 12 → cx x i ≠ khd j) : cmd x i = .inr i := by
  have h0 : ∀ j, j < 12 → lcp x i (kwd j) = 0 := fun j hj => by rw [lcp_h hj, if_neg (h j hj)]
  rw [cmd2 (k := 0) (l := 1) (by decide) (by decide) (fun j hj _ _ => h0 j hj) (by rw [h0 1 (by decide)]; decide), h0 0 (by decide), h0 1 (by decide), if_neg (show ¬ 0 = (kwd 0).length by decide)]
  rfl
end
