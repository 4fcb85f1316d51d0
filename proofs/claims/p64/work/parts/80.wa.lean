/-! ===== what always holds, call after call ===== -/
theorem WA.up {n m : Nat} {A : Ab} (h : WA n A) (hm : n ≤ m) : WA m A := by
  obtain ⟨a1, a2, a3, a4, a5⟩ := h
  exact ⟨a1.up hm, a2, fun j hj => (a3 j hj).up hm, fun T e => (a4 T e).up hm, a5⟩
theorem WA.push {n : Nat} {A : Ab} (h : WA n A) {T' : Th} (hT : WT (n + 1) T') : WA (n + 1) (pushA A T') := by
  obtain ⟨a1, a2, a3, a4, a5⟩ := h
  refine ⟨hT, Nat.min_le_right _ _, fun j hj => ?_, fun T e => (a4 T e).up (Nat.le_succ _), a5⟩
  have hj : j < min (aU A + 1) 8 := hj
  show WT (n + 1) (if j = 0 then aT A else aH A (j - 1))
  by_cases q : j = 0
  · rw [if_pos q]; exact a1.up (Nat.le_succ _)
  · rw [if_neg q]; exact (a3 (j - 1) (by omega)).up (Nat.le_succ _)
theorem WA.push10 {n : Nat} {A : Ab} (h : WA n A) {T' : Th} (hT : WT (n + 10) T') : WA (n + 10) (pushA A T') := by
  have := (h.up (show n ≤ n + 9 by omega)).push (T' := T') hT
  exact this
theorem WA.chA {n : Nat} {A : Ab} (h : WA n A) {kind : Nat} (hk : kind < 12) {p q : Int32} : WA (n + 1) (chA A kind p q).2 := by
  unfold Jvm.Pilot.CEchoCensusLaw_law_r2636_45b157.chA
  cases e : rs (aT A) kind p q with
  | inl c => exact h.up (Nat.le_succ _)
  | inr ab =>
    obtain ⟨a, b⟩ := ab
    exact h.push (h.1.kN hk (rs_ok hk e))
theorem WA.und {n : Nat} {A : Ab} (h : WA n A) : WA n (undA A).2 := by
  unfold undA
  by_cases q : aU A = 0
  · rw [if_pos q]; exact h
  · rw [if_neg q]
    obtain ⟨a1, a2, a3, a4, a5⟩ := h
    exact ⟨a3 0 (by omega), by show aU A - 1 ≤ 8; omega, fun j hj => a3 (j + 1) (by have hj : j < aU A - 1 := hj; omega), a4, a5⟩
theorem WA.sav {n : Nat} {A : Ab} (h : WA n A) : WA n (savA A) := by
  obtain ⟨a1, a2, a3, a4, a5⟩ := h
  exact ⟨a1, a2, a3, fun T e => by cases e; exact a1, a5⟩
theorem WA.rst {n : Nat} {A : Ab} (h : WA n A) : WA n (rstA A).2 := by
  unfold rstA
  cases e : aS A with
  | none => exact h
  | some T =>
    obtain ⟨a1, a2, a3, a4, a5⟩ := h
    exact ⟨a4 T e, Nat.zero_le _, fun j hj => absurd hj (Nat.not_lt_zero _), a4, a5⟩
theorem WA.setL {n : Nat} {A : Ab} (h : WA n A) {x : Tx} (h1 : x.1 ≤ 360) (h2 : TxOk x) : WA n (setL A x) := by
  obtain ⟨a1, a2, a3, a4, a5, a6, a7, a8, a9, a10⟩ := h
  exact ⟨a1, a2, a3, a4, a5, h1, a7, a8, a9, h2⟩
theorem WA.fr {n : Nat} {A : Ab} (h : WA n A) (w : Sz (aT A)) {p : Int32} : WA n (frA A p).2 := by
  unfold frA
  cases e : rwp (aT A) p with
  | none => exact h
  | some r => exact h.setL (rwTx_le w (rwp_lt e).1) rwTx_ok
theorem WA.fe {n : Nat} {A : Ab} (h : WA n A) (w : Sz (aT A)) {p : Int32} : WA n (feA A p).2 := by
  unfold feA
  cases e : sltp (aT A) p with
  | none => exact h
  | some k => exact h.setL (Nat.le_trans (ehTx_le w (sltp_lt e).1) (by decide)) ehTx_ok
theorem WA.ap {n : Nat} {A : Ab} (h : WA n A) {p : Int32} : WA n (apA A p).2 := by
  unfold apA
  cases e : fnd (fun c => decide (32 ≤ c ∧ nI c = p)) 127 with
  | none => exact h
  | some c =>
    dsimp only
    by_cases q : (aI A).1 < 60
    · rw [if_pos q]
      obtain ⟨h1, h2, _⟩ := fnd_spec e
      have h3 : 32 ≤ c ∧ nI c = p := by simpa using h2
      obtain ⟨a1, a2, a3, a4, a5, a6, a7, a8, a9, a10⟩ := h
      refine ⟨a1, a2, a3, a4, q, a6, a7, a8, fun k hk => ?_, a10⟩
      have hk : k < (aI A).1 + 1 := hk
      show 32 ≤ sb_cat (aI A).2 (aI A).1 (fun _ => c) k ∧ sb_cat (aI A).2 (aI A).1 (fun _ => c) k ≤ 126
      unfold sb_cat
      by_cases y : k < (aI A).1
      · rw [if_pos y]; exact a9 k y
      · rw [if_neg y]; exact ⟨h3.1, Nat.le_of_lt_succ h1⟩
    · rw [if_neg q]; exact h
theorem WA.run {n : Nat} {A : Ab} (h : WA n A) : WA (n + 10) (runA A).2 := by
  have ho := inok h
  have hx1 := ho.1
  unfold runA
  cases e : prs (aI A) 61 0 0 g0 with
  | inr e' =>
    have he := prs_er 61 0 0 g0 e (Nat.zero_le _)
    obtain ⟨a1, a2, a3, a4, a5, a6, a7, a8, a9, a10⟩ := h.up (show n ≤ n + 10 by omega)
    exact ⟨a1, a2, a3, a4, Nat.zero_le _, a6, fun k hk => by cases hk; omega, a8, fun k hk => absurd hk (Nat.not_lt_zero _), a10⟩
  | inl NG =>
    obtain ⟨N, G⟩ := NG
    obtain ⟨n10, hgo⟩ := prs_in ho 61 0 0 g0 e (Nat.zero_le _) (by decide) (fun j hj => absurd hj (Nat.not_lt_zero _))
    dsimp only
    cases e4 : exg (aT A) G N with
    | inl i =>
      have hi := exg_lt e4
      obtain ⟨a1, a2, a3, a4, a5, a6, a7, a8, a9, a10⟩ := h.up (show n ≤ n + 10 by omega)
      exact ⟨a1, a2, a3, a4, Nat.zero_le _, a6, a7, fun k hk => by cases hk; omega, fun k hk => absurd hk (Nat.not_lt_zero _), a10⟩
    | inr T' =>
      have hT := (exg_w h.1 hgo e4).up (show n + N ≤ n + 10 by omega)
      have h2 : WA n (setI A tx0) := by
        obtain ⟨a1, a2, a3, a4, a5, a6, a7, a8, a9, a10⟩ := h
        exact ⟨a1, a2, a3, a4, Nat.zero_le _, a6, a7, a8, fun k hk => absurd hk (Nat.not_lt_zero _), a10⟩
      exact h2.push10 hT
