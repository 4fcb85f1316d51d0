/-! ===== programs: words, commands, as numbers ===== -/
/-- the letter at a place of a text; 0 behind its end -/
def cx (x : Tx) (i : Nat) : Nat := if i < x.1 then x.2 i else 0
/-- how many letters of a word stand at a place -/
def lcp (x : Tx) (i : Nat) : List Nat → Nat
  | [] => 0
  | c :: w => if cx x i = c then lcp x (i + 1) w + 1 else 0
/-- the keywords, each with its blank -/
def kwd (k : Nat) : List Nat := [[114, 111, 119, 32], [112, 104, 97, 110, 116, 111, 109, 115, 32], [100, 105, 115, 109, 105, 115, 115, 32], [101, 99, 104, 111, 32], [109, 111, 118, 101, 32], [114, 101, 109, 111, 118, 101, 32], [104, 101, 105, 114, 32], [100, 105, 115, 111, 119, 110, 32], [108, 111, 99, 107, 32], [117, 110, 108, 111, 99, 107, 32], [98, 111, 120, 32], [115, 112, 114, 101, 97, 100, 32]].getD k []
/-- the forms of the arguments -/
def fmo (k : Nat) : Nat := [3033, 3034, 3034, 3035, 3036, 3033, 3037, 3033, 3039, 3039, 3038, 3039].getD k 0
def fms (k : Nat) : List Nat := [[78], [68, 68], [68, 68], [68, 78], [78, 68], [78], [78, 78], [78], [68], [68], [66, 68], [68]].getD k []
def mxl (x : Tx) (i : Nat) : Nat → Nat
  | 0 => 0
  | k + 1 => max (mxl x i k) (lcp x i (kwd k))
def kwk (x : Tx) (i : Nat) : Option Nat := fnd (fun k => decide (lcp x i (kwd k) = (kwd k).length)) 12
/-- a digit -/
def dgt (x : Tx) (i : Nat) : Bool := decide (48 ≤ cx x i ∧ cx x i ≤ 57)
def num1 (x : Tx) (i : Nat) : Option (Nat × Nat) := if dgt x i = true then some (cx x i - 48, i + 1) else none
def num3 (x : Tx) (i : Nat) : Option (Nat × Nat) :=
  if dgt x i = true then
    (if dgt x (i + 1) = true then
      (if dgt x (i + 2) = true then some (10 * (10 * (cx x i - 48) + (cx x (i + 1) - 48)) + (cx x (i + 2) - 48), i + 3)
       else some (10 * (cx x i - 48) + (cx x (i + 1) - 48), i + 2))
     else some (cx x i - 48, i + 1))
  else none
def boxn (x : Tx) (i : Nat) : Option (Nat × Nat) := if 97 ≤ cx x i ∧ cx x i ≤ 104 then some (cx x i, i + 1) else none
def arg (x : Tx) (i : Nat) (f : Nat) : Option (Nat × Nat) := if f = 68 then num1 x i else if f = 78 then num3 x i else boxn x i
/-- the arguments: what they are and where they end, or where the error is -/
def args (x : Tx) (i : Nat) : List Nat → (Nat × Nat × Nat) ⊕ Nat
  | [] => .inl (0, 0, i)
  | [f] => match arg x i f with
    | none => .inr i
    | some (a, j) => .inl (a, 0, j)
  | f :: g :: _ => match arg x i f with
    | none => .inr i
    | some (a, j) => if cx x j = 32 then (match arg x (j + 1) g with
      | none => .inr (j + 1)
      | some (b, k) => .inl (a, b, k)) else .inr j
/-- a command: its kind, its arguments, and where it ends; or where the error is -/
def cmd (x : Tx) (i : Nat) : ((Nat × Nat × Nat) × Nat) ⊕ Nat := match kwk x i with
  | none => .inr (i + mxl x i 12)
  | some k => match args x (i + (kwd k).length) (fms k) with
    | .inr e => .inr e
    | .inl (a, b, j) => .inl ((k, a, b), j)
/-- commands by their places in the program -/
abbrev Pg : Type := Nat → Nat × Nat × Nat
/-- the whole text from a place on, behind n commands -/
def prs (x : Tx) : Nat → Nat → Nat → Pg → (Nat × Pg) ⊕ Nat
  | 0, i, _, _ => .inr i
  | f + 1, i, n, g => match cmd x i with
    | .inr e => .inr e
    | .inl (c, j) => if x.1 ≤ j then .inl (n + 1, uf g n c) else if cx x j = 59 then prs x f (j + 1) (n + 1) (uf g n c) else .inr j
/-- behind a command -/
def cont (x : Tx) (f j n : Nat) (g : Pg) : (Nat × Pg) ⊕ Nat := if x.1 ≤ j then .inl (n, g) else if cx x j = 59 then prs x f (j + 1) n g else .inr j
theorem prs_s {x : Tx} {f i n : Nat} {g : Pg} : prs x (f + 1) i n g = (match cmd x i with | .inr e => .inr e | .inl (c, j) => cont x f j (n + 1) (uf g n c)) := rfl
/-- the letters of an input -/
def InOk (x : Tx) : Prop := x.1 ≤ 60 ∧ ∀ k, k < x.1 → 32 ≤ x.2 k ∧ x.2 k ≤ 126
section
variable {x : Tx} {i j n : Nat}
theorem cx_in (h : i < x.1) : cx x i = x.2 i := if_pos h
theorem cx_no (h : x.1 ≤ i) : cx x i = 0 := if_neg (by omega)
theorem cx_lt (h : cx x i ≠ 0) : i < x.1 := by
  by_cases q : i < x.1
  · exact q
  · exact absurd (cx_no (by omega)) h
theorem cx_le (h : InOk x) (i : Nat) : cx x i ≤ 126 := by
  unfold cx
  by_cases q : i < x.1
  · rw [if_pos q]; exact (h.2 i q).2
  · rw [if_neg q]; omega
theorem lcp_le (x : Tx) : ∀ (w : List Nat) (i : Nat), lcp x i w ≤ w.length
  | [], _ => Nat.le_refl _
  | c :: w, i => by
    rw [lcp, List.length_cons]
    have := lcp_le x w (i + 1)
    by_cases q : cx x i = c
    · rw [if_pos q]; omega
    · rw [if_neg q]; omega
theorem lcp_eq (x : Tx) : ∀ (w : List Nat) (i j : Nat), (∀ t, t < j → cx x (i + t) = w.getD t 0) → j ≤ w.length → (j = w.length ∨ cx x (i + j) ≠ w.getD j 0) → lcp x i w = j
  | [], i, j, _, h2, _ => by
    have : j = 0 := Nat.le_zero.mp h2
    subst this; rfl
  | c :: w, i, 0, _, _, h3 => by
    rcases h3 with h3 | h3
    · exact absurd h3 (by rw [List.length_cons]; omega)
    · rw [lcp, if_neg]; exact h3
  | c :: w, i, j + 1, h1, h2, h3 => by
    rw [lcp, if_pos (show cx x i = c from h1 0 (by omega))]
    rw [lcp_eq x w (i + 1) j (fun t ht => by rw [show i + 1 + t = i + (t + 1) by omega]; exact h1 (t + 1) (by omega)) (by rw [List.length_cons] at h2; omega) (by
      rcases h3 with h3 | h3
      · left; rw [List.length_cons] at h3; omega
      · right; rw [show i + 1 + j = i + (j + 1) by omega]; exact h3)]
theorem lcp_rng (x : Tx) : ∀ (w : List Nat) (i : Nat), (∀ c ∈ w, c ≠ 0) → i ≤ x.1 → i + lcp x i w ≤ x.1
  | [], i, _, h => h
  | c :: w, i, hw, h => by
    rw [lcp]
    by_cases q : cx x i = c
    · rw [if_pos q]
      have h1 := cx_lt (x := x) (i := i) (by rw [q]; exact hw c (List.mem_cons_self ..))
      have := lcp_rng x w (i + 1) (fun c hc => hw c (List.mem_cons_of_mem _ hc)) h1
      omega
    · rw [if_neg q]; exact h
theorem kwd_nz : ∀ k, k < 12 → ∀ c ∈ kwd k, c ≠ 0 := by decide
theorem kwd_len : ∀ k, k < 12 → 4 ≤ (kwd k).length ∧ (kwd k).length ≤ 9 := by decide
theorem mxl_le (hi : i ≤ x.1) : ∀ k, k ≤ 12 → i + mxl x i k ≤ x.1
  | 0, _ => hi
  | k + 1, hk => by
    have h1 := mxl_le hi k (by omega)
    have h2 := lcp_rng x (kwd k) i (kwd_nz k (by omega)) hi
    rw [mxl]
    omega
theorem kwk_lt {k : Nat} (h : kwk x i = some k) : k < 12 ∧ lcp x i (kwd k) = (kwd k).length ∧ ∀ j, j < k → lcp x i (kwd j) ≠ (kwd j).length := by
  obtain ⟨h1, h2, h3⟩ := fnd_spec h
  exact ⟨h1, by simpa using h2, fun j hj => by simpa using h3 j hj⟩
theorem kwk_no (h : x.1 ≤ i) : kwk x i = none := by
  refine fnd_none fun k hk => ?_
  simp only [decide_eq_false_iff_not]
  intro e
  have h1 := (kwd_len k hk).1
  cases hw : kwd k with
  | nil => rw [hw] at h1; exact absurd h1 (by decide)
  | cons c w =>
    rw [hw, lcp, cx_no h, if_neg (fun z => kwd_nz k hk c (by rw [hw]; exact List.mem_cons_self ..) z.symm), List.length_cons] at e
    omega
theorem dgt_lt (h : dgt x i = true) : i < x.1 ∧ 48 ≤ cx x i ∧ cx x i ≤ 57 := by
  have h1 : 48 ≤ cx x i ∧ cx x i ≤ 57 := by simpa [dgt] using h
  exact ⟨cx_lt (by omega), h1⟩
theorem num1_lt {a : Nat} (h : num1 x i = some (a, j)) : a ≤ 9 ∧ i < j ∧ j ≤ x.1 := by
  unfold num1 at h
  by_cases q : dgt x i = true
  · rw [if_pos q] at h
    cases h
    have := dgt_lt q
    omega
  · rw [if_neg q] at h; cases h
theorem num3_lt {a : Nat} (h : num3 x i = some (a, j)) : a ≤ 999 ∧ i < j ∧ j ≤ x.1 := by
  unfold num3 at h
  by_cases q : dgt x i = true
  · rw [if_pos q] at h
    have q' := dgt_lt q
    by_cases r : dgt x (i + 1) = true
    · rw [if_pos r] at h
      have r' := dgt_lt r
      by_cases t : dgt x (i + 2) = true
      · rw [if_pos t] at h
        cases h
        have t' := dgt_lt t
        omega
      · rw [if_neg t] at h
        cases h
        omega
    · rw [if_neg r] at h
      cases h
      omega
  · rw [if_neg q] at h; cases h
theorem boxn_lt {a : Nat} (h : boxn x i = some (a, j)) : a ≤ 999 ∧ i < j ∧ j ≤ x.1 := by
  unfold boxn at h
  by_cases q : 97 ≤ cx x i ∧ cx x i ≤ 104
  · rw [if_pos q] at h
    cases h
    have := cx_lt (x := x) (i := i) (by omega)
    omega
  · rw [if_neg q] at h; cases h
theorem arg_lt {a f : Nat} (h : arg x i f = some (a, j)) : a ≤ 999 ∧ i < j ∧ j ≤ x.1 := by
  unfold arg at h
  by_cases q : f = 68
  · rw [if_pos q] at h
    have := num1_lt h
    omega
  · rw [if_neg q] at h
    by_cases r : f = 78
    · rw [if_pos r] at h; exact num3_lt h
    · rw [if_neg r] at h; exact boxn_lt h
theorem fms_2 : ∀ k, k < 12 → (∃ f, fms k = [f]) ∨ ∃ f g, fms k = [f, g] := by
  intro k hk
  rcases (show k = 0 ∨ k = 1 ∨ k = 2 ∨ k = 3 ∨ k = 4 ∨ k = 5 ∨ k = 6 ∨ k = 7 ∨ k = 8 ∨ k = 9 ∨ k = 10 ∨ k = 11 by omega) with rfl | rfl | rfl | rfl | rfl | rfl | rfl | rfl | rfl | rfl | rfl | rfl
  all_goals first | exact Or.inl ⟨_, rfl⟩ | exact Or.inr ⟨_, _, rfl⟩
theorem cmd_in {k a b : Nat} (hi : i ≤ x.1) (h : cmd x i = .inl ((k, a, b), j)) : k < 12 ∧ a ≤ 999 ∧ b ≤ 999 ∧ i + 5 ≤ j ∧ j ≤ x.1 := by
  unfold cmd at h
  cases e : kwk x i with
  | none => rw [e] at h; cases h
  | some k' =>
    rw [e] at h
    dsimp only at h
    have h1 := (kwk_lt e).1
    have h2 := (kwd_len k' h1).1
    rcases fms_2 k' h1 with ⟨f, ef⟩ | ⟨f, g, ef⟩
    · rw [ef, args] at h
      cases e1 : arg x (i + (kwd k').length) f with
      | none => rw [e1] at h; cases h
      | some p =>
        obtain ⟨a', j'⟩ := p
        rw [e1] at h
        cases h
        have := arg_lt e1
        omega
    · rw [ef, args] at h
      cases e1 : arg x (i + (kwd k').length) f with
      | none => rw [e1] at h; cases h
      | some p =>
        obtain ⟨a', j'⟩ := p
        rw [e1] at h
        dsimp only at h
        have := arg_lt e1
        by_cases q : cx x j' = 32
        · rw [if_pos q] at h
          cases e2 : arg x (j' + 1) g with
          | none => rw [e2] at h; cases h
          | some p2 =>
            obtain ⟨b', j2⟩ := p2
            rw [e2] at h
            cases h
            have := arg_lt e2
            omega
        · rw [if_neg q] at h; cases h
theorem cmd_er {e : Nat} (hi : i ≤ x.1) (h : cmd x i = .inr e) : e ≤ x.1 := by
  unfold cmd at h
  cases e0 : kwk x i with
  | none =>
    rw [e0] at h
    rw [← Sum.inr.inj h]
    exact mxl_le hi 12 (Nat.le_refl _)
  | some k' =>
    rw [e0] at h
    dsimp only at h
    obtain ⟨h1, h3, _⟩ := kwk_lt e0
    have h2 := lcp_rng x (kwd k') i (kwd_nz k' h1) hi
    rcases fms_2 k' h1 with ⟨f, ef⟩ | ⟨f, g, ef⟩
    · rw [ef, args] at h
      cases e1 : arg x (i + (kwd k').length) f with
      | none => rw [e1] at h; cases h; omega
      | some p => rw [e1] at h; cases h
    · rw [ef, args] at h
      cases e1 : arg x (i + (kwd k').length) f with
      | none => rw [e1] at h; cases h; omega
      | some p =>
        obtain ⟨a', j'⟩ := p
        rw [e1] at h
        dsimp only at h
        have := arg_lt e1
        by_cases q : cx x j' = 32
        · rw [if_pos q] at h
          have := cx_lt (x := x) (i := j') (by omega)
          cases e2 : arg x (j' + 1) g with
          | none => rw [e2] at h; cases h; omega
          | some p2 => rw [e2] at h; cases h
        · rw [if_neg q] at h; cases h; omega
theorem cmd_no (h : x.1 ≤ i) : ∃ e, cmd x i = .inr e := by
  unfold cmd
  rw [kwk_no h]
  exact ⟨_, rfl⟩
end
/-! the constants -/
theorem str_kw : ∀ k, k < 12 → strN (3021 + k) = (kwd k).length ∧ ∀ j, j < (kwd k).length → strC (3021 + k) j = (kwd k).getD j 0 := by decide +kernel
theorem str_fm : ∀ k, k < 12 → strN (fmo k) = (fms k).length ∧ ∀ j, j < (fms k).length → strC (fmo k) j = (fms k).getD j 0 := by decide +kernel
theorem kwd_le : ∀ k, k < 12 → ∀ j, j < (kwd k).length → (kwd k).getD j 0 ≤ 126 ∧ 1 ≤ (kwd k).getD j 0 := by decide
