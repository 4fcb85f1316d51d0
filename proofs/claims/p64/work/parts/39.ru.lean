/-! ===== what a change is refused for: as numbers; the class's rules ===== -/
/-- a row, a box, a number from 1 to m, told by a number from outside -/
def rwp (T : Th) (p : Int32) : Option Nat := fnd (fun r => decide (nI r = p)) (tR T)
def bxp (p : Int32) : Option Nat := fnd (fun b => decide (nI (97 + b) = p)) 8
def nbp (m : Nat) (p : Int32) : Option Nat := fnd (fun a => decide (1 ≤ a ∧ nI a = p)) (m + 1)
def pasb (T : Th) (k x : Nat) : Bool := (fnd (fun m => decide (it T m k = x)) 24).isSome
theorem pasb_y {T : Th} {k x : Nat} (h : pas T k x) : pasb T k x = true := by
  obtain ⟨m, hm, e⟩ := h
  unfold pasb
  cases f : fnd (fun m => decide (it T m k = x)) 24 with
  | some _ => rfl
  | none =>
    have := fnd_no f m hm
    simp [e] at this
theorem pasb_n {T : Th} {k x : Nat} (h : ¬ pas T k x) : pasb T k x = false := by
  unfold pasb
  cases f : fnd (fun m => decide (it T m k = x)) 24 with
  | none => rfl
  | some m =>
    obtain ⟨h1, h2, _⟩ := fnd_spec f
    exact absurd ⟨m, h1, of_decide_eq_true h2⟩ h
theorem rwp_lt {T : Th} {p : Int32} {r : Nat} (h : rwp T p = some r) : r < tR T ∧ p = nI r := by
  obtain ⟨h1, h2, _⟩ := fnd_spec h
  exact ⟨h1, (of_decide_eq_true h2).symm⟩
theorem rwp_of {T : Th} (w : Sz T) {r : Nat} (hr : r < tR T) : rwp T (nI r) = some r := by
  have hR := w.1
  exact fnd_some hr (by simp) fun j hj => by
    simp (disch := omega) only [nE, decide_eq_false_iff_not]
    omega
theorem rwp_no {T : Th} (w : Sz T) {p : Int32} (h : rwp T p = none) : p < 0 ∨ nI (tR T) ≤ p := by
  have hR := w.1
  rcases pk_ix p (show tR T < 2 ^ 31 by omega) with q | q | ⟨j, hj, rfl⟩
  · exact Or.inl q
  · exact Or.inr q
  · rw [rwp_of w hj] at h; cases h
theorem bxp_lt {p : Int32} {b : Nat} (h : bxp p = some b) : b < 8 ∧ p = nI (97 + b) := by
  obtain ⟨h1, h2, _⟩ := fnd_spec h
  exact ⟨h1, (of_decide_eq_true h2).symm⟩
theorem bxp_of {b : Nat} (hb : b < 8) : bxp (nI (97 + b)) = some b :=
  fnd_some hb (by simp) fun j hj => by
    simp (disch := omega) only [nE, decide_eq_false_iff_not]
    omega
theorem bxp_no {p : Int32} (h : bxp p = none) : p < nI 97 ∨ nI 105 ≤ p := by
  rcases pk_ix p (show 105 < 2 ^ 31 by omega) with q | q | ⟨j, hj, rfl⟩
  · left
    rw [Int32.lt_iff_toInt_lt] at q ⊢
    rw [show (0 : Int32).toInt = 0 from rfl] at q
    rw [show (nI 97).toInt = 97 from rfl]
    omega
  · exact Or.inr q
  · by_cases z : j < 97
    · left; rw [nL (by omega) (by omega)]; exact z
    · have e := bxp_of (b := j - 97) (by omega)
      rw [show 97 + (j - 97) = j by omega] at e
      rw [e] at h; cases h
theorem nbp_lt {m : Nat} {p : Int32} {a : Nat} (h : nbp m p = some a) : 1 ≤ a ∧ a ≤ m ∧ p = nI a := by
  obtain ⟨h1, h2, _⟩ := fnd_spec h
  have h3 := of_decide_eq_true h2
  exact ⟨h3.1, by omega, h3.2.symm⟩
theorem nbp_of {m a : Nat} (hm : m < 10000) (h1 : 1 ≤ a) (h2 : a ≤ m) : nbp m (nI a) = some a :=
  fnd_some (by omega) (by simp; omega) fun j hj => by
    simp (disch := omega) only [nE, decide_eq_false_iff_not]
    omega
theorem nbp_no {m : Nat} (hm : m < 10000) {p : Int32} (h : nbp m p = none) : p < nI 1 ∨ nI m < p := by
  rcases pk_ix p (show m + 1 < 2 ^ 31 by omega) with q | q | ⟨j, hj, rfl⟩
  · left
    rw [Int32.lt_iff_toInt_lt] at q ⊢
    rw [show (0 : Int32).toInt = 0 from rfl] at q
    rw [show (nI 1).toInt = 1 from rfl]
    omega
  · right
    rw [Int32.le_iff_toInt_le, nI_toInt (by omega)] at q
    rw [Int32.lt_iff_toInt_lt, nI_toInt (by omega)]
    omega
  · by_cases z : j < 1
    · left; rw [nL (by omega) (by omega)]; exact z
    · rw [nbp_of hm (by omega) (by omega)] at h; cases h
/-- refused, and for what, or accepted, and with what numbers -/
def rs0 (T : Th) (p : Int32) : Nat ⊕ Nat × Nat := match nbp 12 p with
  | none => .inl 3
  | some c => if tR T < 8 then .inr (c, 0) else .inl 4
def rs1 (T : Th) (p q : Int32) : Nat ⊕ Nat × Nat := match rwp T p with
  | none => .inl 2
  | some r => match nbp 6 q with
    | none => .inl 3
    | some n => if tK T r = false ∧ tP T r + n ≤ 6 then .inr (r, n) else .inl 4
def rs2 (T : Th) (p q : Int32) : Nat ⊕ Nat × Nat := match rwp T p with
  | none => .inl 2
  | some r => match nbp 6 q with
    | none => .inl 3
    | some n => if tK T r = false ∧ n ≤ tP T r ∧ cnt T r + n ≤ tC T r + tP T r then .inr (r, n) else .inl 4
def rs3 (T : Th) (p q : Int32) : Nat ⊕ Nat × Nat := match rwp T p with
  | none => .inl 2
  | some r => match nbp 999 q with
    | none => .inl 3
    | some n => if tK T r = false ∧ cnt T r < tC T r + tP T r ∧ tN T < 24 then .inr (r, n) else .inl 4
def rs4 (T : Th) (p q : Int32) : Nat ⊕ Nat × Nat := match sltp T p with
  | none => .inl 1
  | some k => match rwp T q with
    | none => .inl 2
    | some r => if tW T k ≠ r ∧ tK T (tW T k) = false ∧ tK T r = false ∧ cnt T r < tC T r + tP T r then .inr (k, r) else .inl 4
def rs5 (T : Th) (p : Int32) : Nat ⊕ Nat × Nat := match sltp T p with
  | none => .inl 1
  | some k => if tK T (tW T k) = false then .inr (k, 0) else .inl 4
def rs6 (T : Th) (p q : Int32) : Nat ⊕ Nat × Nat := match sltp T p with
  | none => .inl 1
  | some k => match sltp T q with
    | none => .inl 1
    | some j => if k = j then .inl 3 else if pasb T j k = true then .inl 4 else .inr (k, j)
def rs7 (T : Th) (p : Int32) : Nat ⊕ Nat × Nat := match sltp T p with
  | none => .inl 1
  | some k => if tH T k = none then .inl 4 else .inr (k, 0)
def rs8 (b : Bool) (T : Th) (p : Int32) : Nat ⊕ Nat × Nat := match rwp T p with
  | none => .inl 2
  | some r => if tK T r = b then .inl 4 else .inr (r, 0)
def rs10 (T : Th) (p q : Int32) : Nat ⊕ Nat × Nat := match bxp p with
  | none => .inl 3
  | some b => match rwp T q with
    | none => .inl 2
    | some r => .inr (b, r)
def rs (T : Th) (kind : Nat) (p q : Int32) : Nat ⊕ Nat × Nat :=
  if kind = 0 then rs0 T p else if kind = 1 then rs1 T p q else if kind = 2 then rs2 T p q else if kind = 3 then rs3 T p q else if kind = 4 then rs4 T p q else if kind = 5 then rs5 T p else if kind = 6 then rs6 T p q else if kind = 7 then rs7 T p else if kind = 8 then rs8 true T p else if kind = 9 then rs8 false T p else if kind = 10 then rs10 T p q else rs8 true T p
def rcd : Nat ⊕ Nat × Nat → Nat
  | .inl c => c
  | .inr _ => 0
theorem WT.full {n : Nat} {T : Th} (h : WT n T) {r : Nat} (hr : r < tR T) : cnt T r ≤ tC T r + tP T r := (h.2.2.2.2.2.2.1 r hr).2
section
variable {t : Nat} {s : Mem} {T : Th} {n : Nat}
theorem acc0 : m_X5_acceptedIf (nI 0) s = some (nI 4) := rfl
theorem acc1 : m_X5_acceptedIf (nI 1) s = some (nI 0) := rfl
theorem c_hasRow (h : RC t s T) (w : Sz T) (p : Int32) : m_X6_hasRow t p s = some (if (rwp T p).isSome then nI 1 else nI 0) := by
  cases e : rwp T p with
  | none => exact c_hasRow_n h (rwp_no w e)
  | some r =>
    obtain ⟨h1, rfl⟩ := rwp_lt e
    exact c_hasRow_y h w h1
theorem c_within {m : Nat} (hm : m < 10000) (p : Int32) : m_X5_within p (nI m) s = some (if (nbp m p).isSome then nI 1 else nI 0) := by
  cases e : nbp m p with
  | none =>
    unfold m_X5_within
    rcases nbp_no hm e with q | q
    · rw [if_pos (show p < 1 from q)]; rfl
    · by_cases z : p < 1
      · rw [if_pos z]; rfl
      · rw [if_neg z, if_pos q]; rfl
  | some a =>
    obtain ⟨h1, h2, rfl⟩ := nbp_lt e
    simp (disch := omega) only [m_X5_within, ltI, nL, if_neg]
    rfl
theorem c_isBoxName (p : Int32) : m_X6_isBoxName p s = some (if (bxp p).isSome then nI 1 else nI 0) := by
  cases e : bxp p with
  | none =>
    unfold m_X6_isBoxName
    rcases bxp_no e with q | q
    · rw [if_pos (show p < 97 from q)]; rfl
    · by_cases z : p < 97
      · rw [if_pos z]; rfl
      · rw [if_neg z, if_pos (show (105 : Int32) ≤ p from q)]; rfl
  | some b =>
    obtain ⟨h1, rfl⟩ := bxp_lt e
    simp (disch := omega) only [m_X6_isBoxName, ltI, nL, nLe, if_neg]
    rfl
theorem n10 : (nI 1 = nI 0) = False := by simp (disch := omega) only [nE]; simp
theorem c_rs0 (h : RC t s T) (w : Sz T) (p : Int32) : m_X5_refusalOfRow t p s = some (nI (rcd (rs0 T p))) := by
  have hR := w.1
  unfold m_X5_refusalOfRow rs0
  rw [ltI, c_within (by omega), bO_some]
  cases nbp 12 p with
  | none => rfl
  | some c =>
    simp (disch := omega) only [Option.isSome_some, if_true, ltI, n10, not_false_eq_true, h.hR, nLe, acc0, acc1, bO_some]
    by_cases z : tR T < 8
    · rw [if_neg (by omega), if_pos z]; rfl
    · rw [if_pos (by omega), if_neg z]; rfl
theorem c_rs1 (h : RC t s T) (w : Sz T) (p q : Int32) : m_X5_refusalOfPhantoms t p q s = some (nI (rcd (rs1 T p q))) := by
  have hR := w.1
  unfold m_X5_refusalOfPhantoms rs1
  rw [c_hasRow h w, bO_some]
  cases e : rwp T p with
  | none => rfl
  | some r =>
    obtain ⟨h1, rfl⟩ := rwp_lt e
    rw [show (6 : Int32) = nI 6 from rfl, c_within (by omega), bO_some]
    cases e2 : nbp 6 q with
    | none => rfl
    | some a =>
      obtain ⟨h2, h3, rfl⟩ := nbp_lt e2
      have h4 := (w.2.2.2.2 r).2.1
      simp (disch := omega) only [Option.isSome_some, if_true, ltI, n10, not_false_eq_true, nIb, nN, h.hK (show r < 8 by omega), h.hP (show r < 8 by omega), nI_add, nL, acc0, acc1, bO_some, if_pos, bI0]
      cases tK T r with
      | true => rfl
      | false =>
        by_cases z : tP T r + a ≤ 6
        · rw [if_neg (fun v => v rfl), if_neg (by omega), if_pos ⟨rfl, z⟩]; rfl
        · rw [if_neg (fun v => v rfl), if_pos (by omega), if_neg (fun v => z v.2)]; rfl
theorem c_rs2 (h : RC t s T) (W : WT n T) (hn : n ≤ 10000) (p q : Int32) : m_X5_refusalOfDismissal t p q s = some (nI (rcd (rs2 T p q))) := by
  have w := W.sz hn
  have hR := w.1
  unfold m_X5_refusalOfDismissal rs2
  rw [c_hasRow h w, bO_some]
  cases e : rwp T p with
  | none => rfl
  | some r =>
    obtain ⟨h1, rfl⟩ := rwp_lt e
    rw [show (6 : Int32) = nI 6 from rfl, c_within (by omega), bO_some]
    cases e2 : nbp 6 q with
    | none => rfl
    | some a =>
      obtain ⟨h2, h3, rfl⟩ := nbp_lt e2
      have h4 := (w.2.2.2.2 r).2.1
      have h5 := (w.2.2.2.2 r).1
      have h6 := W.full h1
      simp (disch := omega) only [Option.isSome_some, if_true, ltI, n10, not_false_eq_true, nIb, nN, h.hK (show r < 8 by omega), h.hP (show r < 8 by omega), c_emptySeatsIn h w (show r < 8 by omega) h6, nI_add, nL, acc0, acc1, bO_some, if_pos, bI0]
      cases tK T r with
      | true => rfl
      | false =>
        rw [if_neg (fun v => v rfl)]
        by_cases z : tP T r < a
        · rw [if_pos z, if_neg (by omega)]; rfl
        · rw [if_neg z]
          by_cases y : cnt T r + a ≤ tC T r + tP T r
          · rw [if_neg (by omega), if_pos ⟨rfl, by omega, y⟩]; rfl
          · rw [if_pos (by omega), if_neg (by omega)]; rfl
theorem c_rs3 (h : RC t s T) (W : WT n T) (hn : n ≤ 10000) (p q : Int32) : m_X5_refusalOfEcho t p q s = some (nI (rcd (rs3 T p q))) := by
  have w := W.sz hn
  have hR := w.1
  have hN := w.2.1
  unfold m_X5_refusalOfEcho rs3
  rw [c_hasRow h w, bO_some]
  cases e : rwp T p with
  | none => rfl
  | some r =>
    obtain ⟨h1, rfl⟩ := rwp_lt e
    rw [show (999 : Int32) = nI 999 from rfl, c_within (by omega), bO_some]
    cases e2 : nbp 999 q with
    | none => rfl
    | some a =>
      obtain ⟨h2, h3, rfl⟩ := nbp_lt e2
      have h4 := (w.2.2.2.2 r).2.1
      have h5 := (w.2.2.2.2 r).1
      have h6 := W.full h1
      simp (disch := omega) only [Option.isSome_some, if_true, ltI, n10, not_false_eq_true, nIb, nN, h.hK (show r < 8 by omega), h.hN, c_emptySeatsIn h w (show r < 8 by omega) h6, nI_add, nLe, acc0, acc1, bO_some, if_pos, bI0]
      cases tK T r with
      | true => rfl
      | false =>
        rw [if_neg (fun v => v rfl)]
        by_cases z : cnt T r < tC T r + tP T r
        · rw [if_neg (by omega)]
          by_cases y : tN T < 24
          · rw [if_neg (by omega), if_pos ⟨rfl, z, y⟩]; rfl
          · rw [if_pos (by omega), if_neg (by omega)]; rfl
        · rw [if_pos (by omega), if_neg (by omega)]; rfl
theorem c_rs4 (h : RC t s T) (W : WT n T) (hn : n ≤ 10000) (p q : Int32) : m_X5_refusalOfMove t p q s = some (nI (rcd (rs4 T p q))) := by
  have w := W.sz hn
  have hR := w.1
  have hN := w.2.1
  unfold m_X5_refusalOfMove rs4
  rw [c_slotOf h w, bO_some, ltI 1, ltm]
  cases e : sltp T p with
  | none => rfl
  | some k =>
    obtain ⟨h1, rfl⟩ := sltp_lt e
    rw [c_hasRow h w, bO_some]
    cases e2 : rwp T q with
    | none =>
      simp (disch := omega) only [eo, m1_eq, not_false_eq_true, if_true]
      rfl
    | some r =>
      obtain ⟨h2, rfl⟩ := rwp_lt e2
      have h3 := (w.2.2.2.1 k h1).2.1
      have h4 := (w.2.2.2.2 r).2.1
      have h5 := (w.2.2.2.2 r).1
      have h6 := W.full h2
      simp (disch := omega) only [eo, m1_eq, Option.isSome_some, if_true, ltI, n10, not_false_eq_true, nIb, nN, nE, h.hK (show r < 8 by omega), h.hK (show tW T k < 8 by omega), h.hW h1, c_emptySeatsIn h w (show r < 8 by omega) h6, nI_add, nLe, acc0, acc1, bO_some, if_pos, bI0, ↓vl_i]
      by_cases z : tW T k = r
      · rw [if_pos z, if_neg (fun v => v.1 z)]; rfl
      · rw [if_neg z]
        cases tK T (tW T k) with
        | true => rw [if_pos (fun v => Bool.noConfusion v), if_neg (fun v => Bool.noConfusion v.2.1)]; rfl
        | false =>
          rw [if_neg (fun v => v rfl)]
          cases tK T r with
          | true => rw [if_pos (fun v => Bool.noConfusion v), if_neg (fun v => Bool.noConfusion v.2.2.1)]; rfl
          | false =>
            rw [if_neg (fun v => v rfl)]
            by_cases y : cnt T r < tC T r + tP T r
            · rw [if_neg (by omega), if_pos ⟨z, rfl, rfl, y⟩]; rfl
            · rw [if_pos (by omega), if_neg (fun v => y v.2.2.2)]; rfl
theorem c_rs5 (h : RC t s T) (w : Sz T) (p : Int32) : m_X5_refusalOfRemoval t p s = some (nI (rcd (rs5 T p))) := by
  have hR := w.1
  have hN := w.2.1
  unfold m_X5_refusalOfRemoval rs5
  rw [c_slotOf h w, bO_some, ltI 1, ltm]
  cases e : sltp T p with
  | none => rfl
  | some k =>
    obtain ⟨h1, rfl⟩ := sltp_lt e
    have h3 := (w.2.2.2.1 k h1).2.1
    simp (disch := omega) only [eo, m1_eq, if_true, ltI, not_false_eq_true, nIb, nN, h.hK (show tW T k < 8 by omega), h.hW h1, acc0, acc1, bO_some, if_pos, bI0]
    cases tK T (tW T k) <;> rfl
theorem c_rs6 (h : RC t s T) (w : Sz T) (p q : Int32) : m_X5_refusalOfHeir t p q s = some (nI (rcd (rs6 T p q))) := by
  have hN := w.2.1
  unfold m_X5_refusalOfHeir rs6
  rw [c_slotOf h w, bO_some, c_slotOf h w, bO_some, ltI 1, ltm]
  cases e : sltp T p with
  | none => rfl
  | some k =>
    obtain ⟨h1, rfl⟩ := sltp_lt e
    cases e2 : sltp T q with
    | none =>
      simp (disch := omega) only [eo, m1_eq, not_true_eq_false, if_false]
      rfl
    | some j =>
      obtain ⟨h2, rfl⟩ := sltp_lt e2
      simp (disch := omega) only [eo, m1_eq, not_false_eq_true, if_true, if_false, nE]
      by_cases z : k = j
      · simp only [z, not_true_eq_false, if_false, if_true]; rfl
      · simp only [z, not_false_eq_true, if_false, if_true]
        by_cases y : pas T j k
        · rw [(c_chainPasses h w h2 h1).1 y, bO_some, if_pos (pasb_y y)]; rfl
        · rw [(c_chainPasses h w h2 h1).2 y, bO_some, pasb_n y]; rfl
theorem c_rs7 (h : RC t s T) (w : Sz T) (p : Int32) : m_X5_refusalOfDisowning t p s = some (nI (rcd (rs7 T p))) := by
  have hN := w.2.1
  unfold m_X5_refusalOfDisowning rs7
  rw [c_slotOf h w, bO_some, ltI 1, ltm]
  cases e : sltp T p with
  | none => rfl
  | some k =>
    obtain ⟨h1, rfl⟩ := sltp_lt e
    have h3 := (w.2.2.2.1 k h1).2.2.2.2
    have hX := w.2.2.1.1
    simp (disch := omega) only [eo, m1_eq, if_true, ltI, not_false_eq_true, nIb, nN, h.hH h1, acc0, acc1, bO_some, if_pos]
    cases e3 : tH T k with
    | none => rfl
    | some d =>
      have := h3 d e3
      simp (disch := omega) only [eo, m1_eq, if_false]
      rfl
theorem c_rs8 (h : RC t s T) (w : Sz T) (b : Bool) (p : Int32) : m_X5_refusalUnlessLockIs t p (bI (!b)) s = some (nI (rcd (rs8 b T p))) := by
  have hR := w.1
  unfold m_X5_refusalUnlessLockIs rs8
  rw [c_hasRow h w, bO_some]
  cases e : rwp T p with
  | none => rfl
  | some r =>
    obtain ⟨h1, rfl⟩ := rwp_lt e
    simp (disch := omega) only [Option.isSome_some, if_true, ltI, n10, not_false_eq_true, nIb, nN, h.hK (show r < 8 by omega), acc0, acc1, bO_some, if_pos]
    cases tK T r <;> cases b <;> rfl
theorem c_rs10 (h : RC t s T) (w : Sz T) (p q : Int32) : m_X5_refusalOfNaming t p q s = some (nI (rcd (rs10 T p q))) := by
  unfold m_X5_refusalOfNaming rs10
  rw [c_isBoxName, bO_some]
  cases e : bxp p with
  | none => rfl
  | some b =>
    rw [c_hasRow h w, bO_some]
    cases e : rwp T q with
    | none => rfl
    | some r => rfl
theorem c_rs (h : RC t s T) (W : WT n T) (hn : n ≤ 10000) {kind : Nat} (hk : kind < 12) (p q : Int32) : m_X5_refusal t (nI kind) p q s = some (nI (rcd (rs T kind p q))) := by
  have w := W.sz hn
  unfold m_X5_refusal
  rcases (show kind = 0 ∨ kind = 1 ∨ kind = 2 ∨ kind = 3 ∨ kind = 4 ∨ kind = 5 ∨ kind = 6 ∨ kind = 7 ∨ kind = 8 ∨ kind = 9 ∨ kind = 10 ∨ kind = 11 by omega) with rfl | rfl | rfl | rfl | rfl | rfl | rfl | rfl | rfl | rfl | rfl | rfl
  · rw [c_rs0 h w]; rfl
  · rw [c_rs1 h w]; rfl
  · rw [c_rs2 h W hn]; rfl
  · rw [c_rs3 h W hn]; rfl
  · rw [c_rs4 h W hn]; rfl
  · rw [c_rs5 h w]; rfl
  · rw [c_rs6 h w]; rfl
  · rw [c_rs7 h w]; rfl
  · have := c_rs8 h w true p
    rw [show bI (!true) = (0 : Int32) from rfl] at this
    rw [this]; rfl
  · have := c_rs8 h w false p
    rw [show bI (!false) = (1 : Int32) from rfl] at this
    rw [this]; rfl
  · rw [c_rs10 h w]; rfl
  · have := c_rs8 h w true p
    rw [show bI (!true) = (0 : Int32) from rfl] at this
    rw [this]; rfl
end
