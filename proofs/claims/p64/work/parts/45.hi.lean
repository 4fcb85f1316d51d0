/-! ===== the class as a whole: what it knows; its history; a change ===== -/
/-- a text: its length and its letters -/
abbrev Tx : Type := Nat × (Nat → Nat)
/-- the present theatre; how many changes can be undone, and what stood before them; the saved copy; the line; the input; the stored error; the stored failure -/
abbrev Ab : Type := Th × (Nat × (Nat → Th)) × Option Th × Tx × Tx × Option Nat × Option Nat
def aT (A : Ab) : Th := A.1
def aU (A : Ab) : Nat := A.2.1.1
def aH (A : Ab) : Nat → Th := A.2.1.2
def aS (A : Ab) : Option Th := A.2.2.1
def aL (A : Ab) : Tx := A.2.2.2.1
def aI (A : Ab) : Tx := A.2.2.2.2.1
def aE (A : Ab) : Option Nat := A.2.2.2.2.2.1
def aF (A : Ab) : Option Nat := A.2.2.2.2.2.2
/-- a builder holds a text -/
def BT (s : Mem) (o : Nat) (x : Tx) : Prop := (gB s o).2.1 = x.1 ∧ ∀ k, k < x.1 → (gB s o).2.2 k = x.2 k
def HSt (n : Nat) (s : Mem) (A : Ab) : Prop := gI s 1 1 = nI n ∧ gI s 1 2 = nI (aU A) ∧ RC (12 + n) s (aT A) ∧ ∀ j, j < aU A → RC (12 + (n + 9 - j) % 10) s (aH A j)
/-- what stands outside of the history -/
def CR (s : Mem) (A : Ab) : Prop := gI s 0 7 = bI (aS A).isSome ∧ (∀ T, aS A = some T → RC 22 s T) ∧ gI s 0 8 = eo (aE A) ∧ gI s 0 9 = eo (aF A) ∧ BT s 7 (aL A) ∧ BT s 6 (aI A)
/-- the class's memory holds what is known -/
def CK (s : Mem) (A : Ab) : Prop := (∃ n, n < 10 ∧ HSt n s A) ∧ CR s A
/-- what always holds of what is known, after n changes -/
def WA (n : Nat) (A : Ab) : Prop := WT n (aT A) ∧ aU A ≤ 8 ∧ (∀ j, j < aU A → WT n (aH A j)) ∧ (∀ T, aS A = some T → WT n T) ∧ (aI A).1 ≤ 60 ∧ (aL A).1 ≤ 360 ∧ (∀ k, aE A = some k → k ≤ 60) ∧ (∀ k, aF A = some k → k ≤ 60) ∧ (∀ k, k < (aI A).1 → 32 ≤ (aI A).2 k ∧ (aI A).2 k ≤ 126) ∧ ∀ k, k < (aL A).1 → (aL A).2 k < 128
/-! what a call leaves, and what it costs -/
def Fc (s s' : Mem) : Prop := ∀ c, c % 64 = 8 → ∀ j, gI s' c j = gI s c j
def cap (s : Mem) : Nat := (gB s 6).1 + (gB s 7).1
def Cb (s : Mem) : Prop := (gB s 6).1 ≤ 802 ∧ (gB s 7).1 ≤ 802
def Co (k : Nat) (s s' : Mem) : Prop := nC s' + cap s ≤ nC s + cap s' + k ∧ nS s' + 2 * cap s ≤ nS s + 2 * cap s' + 6 * k
def Ku (k : Nat) (s s' : Mem) : Prop := Fc s s' ∧ Co k s s' ∧ (Cb s → Cb s')
theorem Ku.refl {s : Mem} : Ku 0 s s := ⟨fun _ _ _ => rfl, ⟨Nat.le_refl _, Nat.le_refl _⟩, id⟩
theorem Ku.trans {a b : Nat} {s s1 s2 : Mem} (h1 : Ku a s s1) (h2 : Ku b s1 s2) : Ku (a + b) s s2 := by
  obtain ⟨f1, ⟨g1, g2⟩, c1⟩ := h1
  obtain ⟨f2, ⟨g3, g4⟩, c2⟩ := h2
  exact ⟨fun c hc j => (f2 c hc j).trans (f1 c hc j), ⟨by omega, by omega⟩, fun q => c2 (c1 q)⟩
theorem Ku.ow {o : Nat} {s s' : Mem} (h : Ow o s s') (ho : o ≠ 8) : Ku 0 s s' := by
  have hg : ∀ q, gB s' q = gB s q := fun q => by rw [h.gB]
  refine ⟨fun c hc j => h.gI (by omega) j, ⟨?_, ?_⟩, ?_⟩
  · rw [h.nC]; unfold cap; rw [hg, hg]; exact Nat.le_refl _
  · rw [h.nS]; unfold cap; rw [hg, hg]; exact Nat.le_refl _
  · unfold Cb; rw [hg, hg]; exact id
theorem Ku.pN {s : Mem} : Ku 1 s (pN s 1 6) := ⟨fun _ _ _ => rfl, ⟨by show nC s + 1 + cap s ≤ nC s + cap s + 1; omega, by show nS s + 6 + 2 * cap s ≤ nS s + 2 * cap s + 6 * 1; omega⟩, id⟩
theorem Ku.up {a b : Nat} {s s' : Mem} (h : Ku a s s') (hab : a ≤ b) : Ku b s s' := ⟨h.1, ⟨by have := h.2.1.1; omega, by have := h.2.1.2; omega⟩, h.2.2⟩
/-- a memory where the class's own has stayed -/
def Kp (s s' : Mem) : Prop := (∀ c, c % 64 ≠ 3 → c % 64 ≠ 4 → c % 64 ≠ 5 → c % 64 ≠ 8 → ∀ j, gI s' c j = gI s c j) ∧ (∀ c, 12 ≤ c → c ≤ 22 → ∀ j, gJ s' c j = gJ s c j) ∧ gB s' = gB s
theorem Kp.ow {o : Nat} {s s' : Mem} (h : Ow o s s') (ho : o = 3 ∨ o = 4 ∨ o = 5) : Kp s s' :=
  ⟨fun c h1 h2 h3 _ j => h.gI (by omega) j, fun c h1 h2 j => h.gJ (by omega) j, h.gB⟩
theorem Kp.pN {s : Mem} : Kp s (pN s 1 6) := ⟨fun _ _ _ _ _ _ => rfl, fun _ _ _ _ => rfl, rfl⟩
theorem Kp.trans {s s1 s2 : Mem} (h1 : Kp s s1) (h2 : Kp s1 s2) : Kp s s2 :=
  ⟨fun c a b d e j => (h2.1 c a b d e j).trans (h1.1 c a b d e j), fun c a b j => (h2.2.1 c a b j).trans (h1.2.1 c a b j), h2.2.2.trans h1.2.2⟩
theorem RC.kp {t : Nat} {s s' : Mem} {T : Th} (h : RC t s T) (k : Kp s s') (h1 : 12 ≤ t) (h2 : t ≤ 22) : RC t s' T :=
  h.kept (fun c hc j => k.1 c (by omega) (by omega) (by omega) (by omega) j) (fun j => k.2.1 t h1 h2 j)
theorem BT.kp {s s' : Mem} {o : Nat} {x : Tx} (h : BT s o x) (k : gB s' = gB s) : BT s' o x := by
  unfold BT
  rw [k]
  exact h
theorem HSt.kp {n : Nat} {s s' : Mem} {A : Ab} (h : HSt n s A) (hn : n < 10) (k : Kp s s') : HSt n s' A := by
  obtain ⟨h1, h2, h3, h4⟩ := h
  refine ⟨(k.1 1 (by decide) (by decide) (by decide) (by decide) 1).trans h1, (k.1 1 (by decide) (by decide) (by decide) (by decide) 2).trans h2, h3.kp k (by omega) (by omega), fun j hj => (h4 j hj).kp k (by omega) (by omega)⟩
theorem CR.kp {s s' : Mem} {A : Ab} (h : CR s A) (k : Kp s s') : CR s' A := by
  obtain ⟨h1, h2, h3, h4, h5, h6⟩ := h
  exact ⟨(k.1 0 (by decide) (by decide) (by decide) (by decide) 7).trans h1, fun T e => (h2 T e).kp k (by decide) (by decide), (k.1 0 (by decide) (by decide) (by decide) (by decide) 8).trans h3, (k.1 0 (by decide) (by decide) (by decide) (by decide) 9).trans h4, h5.kp k.2.2, h6.kp k.2.2⟩
theorem CK.kp {s s' : Mem} {A : Ab} (h : CK s A) (k : Kp s s') : CK s' A := by
  obtain ⟨⟨n, hn, h1⟩, h2⟩ := h
  exact ⟨⟨n, hn, h1.kp hn k⟩, h2.kp k⟩
/-- what stands outside of the history stays where a theatre of the ring, or the history, changes -/
theorem CR.ow {s s' : Mem} {A : Ab} (h : CR s A) {o : Nat} (k : Ow o s s') (h1 : o ≠ 0) (h2 : o ≠ 22) : CR s' A := by
  obtain ⟨b1, b2, b3, b4, b5, b6⟩ := h
  exact ⟨(k.gI (by omega) 7).trans b1, fun T e => (b2 T e).ow k (by omega), (k.gI (by omega) 8).trans b3, (k.gI (by omega) 9).trans b4, b5.kp k.gB, b6.kp k.gB⟩
/-! exceptions, answers -/
def xn (c : Nat) : String := if c = 1 then "java/util/NoSuchElementException" else if c = 2 then "java/lang/IndexOutOfBoundsException" else if c = 3 then "java/lang/IllegalArgumentException" else if c = 4 then "java/lang/IllegalStateException" else "java/lang/ArithmeticException"
/-- an answer: what is refused, or a number -/
def an {α : Type} : Nat ⊕ α → α ⊕ String
  | .inl c => .inr (xn c)
  | .inr v => .inl v
/-- what a call comes to -/
def cl {α : Type} (s : Mem) (r : Nat ⊕ α) (A' : Ab) : α ⊕ String → Mem → Prop := fun o s' => o = an r ∧ CK s' A' ∧ Ku 1 s s'
theorem cl_throw {α : Type} {s0 s : Mem} {A : Ab} {c : Nat} (h : CK s A) (k : Ku 0 s0 s) : cl (α := α) s0 (.inl c) A (.inr (xn c)) (pN s 1 6) := ⟨rfl, h.kp Kp.pN, k.trans Ku.pN⟩
theorem rs_cd {T : Th} {kind : Nat} {p q : Int32} {c : Nat} (h : rs T kind p q = .inl c) : c = 1 ∨ c = 2 ∨ c = 3 ∨ c = 4 := by
  unfold rs at h
  repeat' split at h
  all_goals first | unfold rs0 at h | unfold rs1 at h | unfold rs2 at h | unfold rs3 at h | unfold rs4 at h | unfold rs5 at h | unfold rs6 at h | unfold rs7 at h | unfold rs8 at h | unfold rs10 at h
  all_goals repeat' split at h
  all_goals first | (cases h; simp; done) | (cases h; done)
/-- an accepted change -/
def pushA (A : Ab) (T' : Th) : Ab := (T', (min (aU A + 1) 8, fun j => if j = 0 then aT A else aH A (j - 1)), A.2.2)
def chA (A : Ab) (kind : Nat) (p q : Int32) : (Nat ⊕ Int32) × Ab := match rs (aT A) kind p q with
  | .inl c => (.inl c, A)
  | .inr (a, b) => (.inr (opN (aT A) kind a b).1, pushA A (opN (aT A) kind a b).2)
section
variable {s : Mem} {A : Ab} {n m : Nat}
theorem c_placeAfter (hn : n < 10) : m_X3_placeAfter (nI n) s = some (nI ((n + 1) % 10)) := by
  unfold m_X3_placeAfter
  rw [ltI, ltI, nI_add, ltI]
  simp (disch := omega) only [nLe]
  by_cases q : 10 ≤ n + 1
  · rw [if_pos q, show (n + 1) % 10 = 0 by omega]
  · rw [if_neg q, show (n + 1) % 10 = n + 1 by omega]
theorem arf65 {l : Nat} : arf 65 l = 12 + l := rfl
theorem c_present (h : HSt n s A) (hn : n < 10) : m_X3_present s = some (12 + n) := by
  unfold m_X3_present
  rw [h.1]
  simp (disch := omega) only [nIb, nN, if_pos, arf65]
theorem th12 (hn : n < 10) : isTh (12 + n) := ⟨by omega, by omega⟩
theorem c_draft (h : HSt n s A) (hn : n < 10) (w : Sz (aT A)) : okR (m_X3_draft s) (fun o s' => o = .inl (12 + (n + 1) % 10) ∧ RC (12 + (n + 1) % 10) s' (aT A) ∧ Ow (12 + (n + 1) % 10) s s') := by
  unfold m_X3_draft
  rw [h.1, c_placeAfter hn, bP_some]
  simp (disch := omega) only [nIb, nN, if_pos, arf65]
  rw [okR_bindR]
  refine okR_mono (c_copyFrom h.2.2.1 (th12 (by omega)) (th12 hn) (by omega) w) fun o s' q => ?_
  obtain ⟨rfl, q1, q2⟩ := q
  rw [thn_l, okR_some]
  exact ⟨rfl, q1, q2⟩
theorem c_keepDraft {u : Nat} (h1 : gI s 1 1 = nI n) (h2 : gI s 1 2 = nI u) (hn : n < 10) (hu : u ≤ 8) : m_X3_keepDraft s = some (.inl (), pI (pI s 1 1 (nI ((n + 1) % 10))) 1 2 (nI (min (u + 1) 8))) := by
  unfold m_X3_keepDraft
  rw [h1, c_placeAfter hn, bP_some]
  simp (disch := omega) only [↓vl_i, gI_k, h2, ltI, nI_add, nL]
  by_cases q : 8 < u + 1
  · rw [if_pos q, Nat.min_eq_right (by omega)]
  · rw [if_neg q, Nat.min_eq_left (by omega)]
/-- a draft that is kept -/
theorem HSt.push {s' : Mem} {T' : Th} (h : HSt n s A) (hn : n < 10) (hu : aU A ≤ 8) (k : Ow (12 + (n + 1) % 10) s s') (h' : RC (12 + (n + 1) % 10) s' T') : HSt ((n + 1) % 10) (pI (pI s' 1 1 (nI ((n + 1) % 10))) 1 2 (nI (min (aU A + 1) 8))) (pushA A T') := by
  obtain ⟨h1, h2, h3, h4⟩ := h
  have o1 : Ow 1 s' (pI (pI s' 1 1 (nI ((n + 1) % 10))) 1 2 (nI (min (aU A + 1) 8))) := (Ow.refl.pI (by decide)).pI (by decide)
  refine ⟨?_, gI_s, h'.ow o1 (by omega), fun j hj => ?_⟩
  · rw [gI_k (by decide), gI_s]
  · have hj : j < min (aU A + 1) 8 := hj
    show RC (12 + ((n + 1) % 10 + 9 - j) % 10) _ (if j = 0 then aT A else aH A (j - 1))
    by_cases q : j = 0
    · subst q
      rw [if_pos rfl, show ((n + 1) % 10 + 9 - 0) % 10 = n by omega]
      exact (h3.ow k (by omega)).ow o1 (by omega)
    · rw [if_neg q, show ((n + 1) % 10 + 9 - j) % 10 = (n + 9 - (j - 1)) % 10 by omega]
      exact ((h4 (j - 1) (by omega)).ow k (by omega)).ow o1 (by omega)
/-- a draft that isn't kept -/
theorem HSt.drop {s' : Mem} (h : HSt n s A) (hn : n < 10) (hu : aU A ≤ 8) (k : Ow (12 + (n + 1) % 10) s s') : HSt n s' A := by
  obtain ⟨h1, h2, h3, h4⟩ := h
  exact ⟨(k.gI (by omega) 1).trans h1, (k.gI (by omega) 2).trans h2, h3.ow k (by omega), fun j hj => (h4 j hj).ow k (by omega)⟩
theorem c_change (h : CK s A) (W : WA m A) (hm : m < 10000) {kind : Nat} (hk : kind < 12) {p q : Int32} : okR (m_X7_change (nI kind) p q s) (cl s (chA A kind p q).1 (chA A kind p q).2) := by
  obtain ⟨⟨n, hn, hH⟩, hR⟩ := h
  have w := W.1.sz (show m ≤ 10000 by omega)
  unfold m_X7_change
  rw [okR_bindR]
  refine okR_mono (c_draft hH hn w) fun o s1 e1 => ?_
  obtain ⟨rfl, r1, k1⟩ := e1
  rw [thn_l, if_pos (th12 (by omega)), c_rs r1 W.1 (by omega) hk, bP_some]
  unfold chA
  have kk := Ku.ow k1 (by omega)
  cases e : rs (aT A) kind p q with
  | inl c =>
    have hC : CK s1 A := ⟨⟨n, hn, hH.drop hn W.2.1 k1⟩, hR.ow k1 (by omega) (by omega)⟩
    dsimp only
    unfold rcd
    rcases rs_cd e with rfl | rfl | rfl | rfl
    · exact okR_some.mpr (cl_throw hC kk)
    · exact okR_some.mpr (cl_throw hC kk)
    · exact okR_some.mpr (cl_throw hC kk)
    · exact okR_some.mpr (cl_throw hC kk)
  | inr ab =>
    obtain ⟨a, b⟩ := ab
    dsimp only
    unfold rcd
    rw [show m_X7_throwRefusal (nI 0) s1 = some (.inl (), s1) from rfl, bR_l, okR_bindR]
    refine okR_mono (c_carry r1 W.1 (by omega) (th12 (by omega)) hk e) fun o s2 e2 => ?_
    obtain ⟨rfl, r2, k2⟩ := e2
    have k12 := k1.trans k2
    rw [thn_l, c_keepDraft ((k12.gI (by omega) 1).trans hH.1) ((k12.gI (by omega) 2).trans hH.2.1) hn W.2.1, bR_l, okR_some]
    have o1 : Ow 1 s2 (pI (pI s2 1 1 (nI ((n + 1) % 10))) 1 2 (nI (min (aU A + 1) 8))) := (Ow.refl.pI (by decide)).pI (by decide)
    refine ⟨rfl, ⟨⟨(n + 1) % 10, by omega, hH.push hn W.2.1 k12 r2⟩, ?_⟩, ((Ku.ow k12 (by omega)).trans (Ku.ow o1 (by decide))).up (by decide)⟩
    exact (hR.ow k12 (by omega) (by omega)).ow o1 (by decide) (by decide)
end
