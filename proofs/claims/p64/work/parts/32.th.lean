/-! ===== a theatre, as numbers: what a census knows ===== -/
/-- (rows, active, next id, moves, removals, added, lost), real seats, phantom seats, locked, boxes; the echoes by slots: ids, rows, loudnesses, heirs -/
abbrev Th : Type := (Nat × Nat × Nat × Nat × Nat × Nat × Nat) × (Nat → Nat) × (Nat → Nat) × (Nat → Bool) × (Nat → Option Nat) × (Nat → Nat) × (Nat → Nat) × (Nat → Nat) × (Nat → Option Nat)
def tR (T : Th) : Nat := T.1.1
def tN (T : Th) : Nat := T.1.2.1
def tX (T : Th) : Nat := T.1.2.2.1
def tM (T : Th) : Nat := T.1.2.2.2.1
def tV (T : Th) : Nat := T.1.2.2.2.2.1
def tA (T : Th) : Nat := T.1.2.2.2.2.2.1
def tL (T : Th) : Nat := T.1.2.2.2.2.2.2
def tC (T : Th) : Nat → Nat := T.2.1
def tP (T : Th) : Nat → Nat := T.2.2.1
def tK (T : Th) : Nat → Bool := T.2.2.2.1
def tB (T : Th) : Nat → Option Nat := T.2.2.2.2.1
def tI (T : Th) : Nat → Nat := T.2.2.2.2.2.1
def tW (T : Th) : Nat → Nat := T.2.2.2.2.2.2.1
def tU (T : Th) : Nat → Nat := T.2.2.2.2.2.2.2.1
def tH (T : Th) : Nat → Option Nat := T.2.2.2.2.2.2.2.2
/-- how many echoes stand in a row -/
def cnt (T : Th) (r : Nat) : Nat := sm (fun k => if tW T k = r then 1 else 0) (tN T)
/-- the slot of an id -/
def slt (T : Th) (d : Nat) : Option Nat := fnd (fun k => decide (tI T k = d)) (tN T)
/-- .. of a number from outside -/
def sltp (T : Th) (p : Int32) : Option Nat := fnd (fun k => decide (nI (tI T k) = p)) (tN T)
/-- the slot of a slot's heir -/
def hs (T : Th) (k : Nat) : Option Nat := match tH T k with
  | none => none
  | some d => slt T d
def ld (T : Th) (r : Nat) : Nat := sm (fun k => if tW T k = r then tU T k else 0) (tN T)
def lall (T : Th) : Nat := sm (tU T) (tN T)
/-- sizes alone -/
def Sz (T : Th) : Prop := tR T ≤ 8 ∧ tN T ≤ 24 ∧ (tX T ≤ 1000000 ∧ tM T ≤ 1000000 ∧ tV T ≤ 1000000 ∧ tA T ≤ 100000000 ∧ tL T ≤ 100000000) ∧ (∀ k, k < tN T → tI T k < tX T ∧ tW T k < tR T ∧ 1 ≤ tU T k ∧ tU T k ≤ 999 ∧ ∀ d, tH T k = some d → d < tX T) ∧ (∀ r, tC T r ≤ 12 ∧ tP T r ≤ 6 ∧ ∀ x, tB T r = some x → x < 8)
/-- what always holds, after c changes -/
def WT (c : Nat) (T : Th) : Prop := tR T ≤ 8 ∧ tN T ≤ 24 ∧ (tX T ≤ c ∧ tM T ≤ 24 * c ∧ tV T ≤ c ∧ tA T ≤ 999 * c ∧ tA T = lall T + tL T) ∧ (∀ j k, j < k → k < tN T → tI T j < tI T k) ∧ (∀ k, k < tN T → tI T k < tX T ∧ tW T k < tR T ∧ 1 ≤ tU T k ∧ tU T k ≤ 999 ∧ ∀ d, tH T k = some d → ∃ j, j < tN T ∧ tI T j = d) ∧ (∃ rk : Nat → Nat, ∀ k, k < tN T → ∀ d, tH T k = some d → rk d < rk (tI T k)) ∧ (∀ r, r < tR T → 1 ≤ tC T r ∧ cnt T r ≤ tC T r + tP T r) ∧ (∀ r, tC T r ≤ 12 ∧ tP T r ≤ 6 ∧ (tR T ≤ r → tP T r = 0 ∧ tK T r = false) ∧ ∀ x, tB T r = some x → x < tR T)
theorem WT.sz {c : Nat} {T : Th} (h : WT c T) (hc : c ≤ 10000) : Sz T := by
  obtain ⟨h1, h2, ⟨a1, a2, a3, a4, a5⟩, h4, h5, h6, h7, h8⟩ := h
  refine ⟨h1, h2, ⟨by omega, by omega, by omega, by omega, by omega⟩, fun k hk => ?_, fun r => ?_⟩
  · obtain ⟨b1, b2, b3, b4, b5⟩ := h5 k hk
    refine ⟨b1, b2, b3, b4, fun d hd => ?_⟩
    obtain ⟨j, hj, e⟩ := b5 d hd
    rw [← e]; exact (h5 j hj).1
  · obtain ⟨b1, b2, b3, b4⟩ := h8 r
    exact ⟨b1, b2, fun x hx => Nat.lt_of_lt_of_le (b4 x hx) h1⟩
theorem WT.up {c c' : Nat} {T : Th} (h : WT c T) (hc : c ≤ c') : WT c' T := by
  obtain ⟨h1, h2, ⟨a1, a2, a3, a4, a5⟩, h4⟩ := h
  exact ⟨h1, h2, ⟨by omega, by omega, by omega, by omega, a5⟩, h4⟩
/-- the class has the theatre at code t -/
def RC (t : Nat) (s : Mem) (T : Th) : Prop := (gI s t 4 = nI (tR T) ∧ gI s t 9 = nI (tN T) ∧ gI s t 10 = nI (tX T) ∧ gI s t 11 = nI (tM T) ∧ gI s t 12 = nI (tV T) ∧ gJ s t 13 = lN (tA T) ∧ gJ s t 14 = lN (tL T)) ∧ (∀ r, r < 8 → gI s (t + 64) r = nI (tC T r) ∧ gI s (t + 128) r = nI (tP T r) ∧ gI s (t + 192) r = bI (tK T r) ∧ gI s (t + 256) r = eo (tB T r)) ∧ (∀ k, k < tN T → gI s (t + 384) k = nI (tI T k) ∧ gI s (t + 448) k = nI (tW T k) ∧ gI s (t + 512) k = nI (tU T k) ∧ gI s (t + 576) k = eo (tH T k))
/-- the reference has it in the array c from place o on -/
def RF (c o : Nat) (s : Mem) (T : Th) : Prop := (gI s c o = nI (tR T) ∧ gI s c (o + 1) = nI (tN T) ∧ gI s c (o + 2) = nI (tX T) ∧ gI s c (o + 3) = nI (tM T) ∧ gI s c (o + 4) = nI (tV T) ∧ gI s c (o + 5) = nI (tA T) ∧ gI s c (o + 6) = nI (tL T)) ∧ (∀ b, b < 8 → gI s c (o + 7 + b) = e1 (tB T b)) ∧ (∀ r, r < tR T → gI s c (o + 15 + 3 * r) = nI (tC T r) ∧ gI s c (o + 16 + 3 * r) = nI (tP T r) ∧ gI s c (o + 17 + 3 * r) = bI (tK T r)) ∧ (∀ k, k < tN T → gI s c (o + 39 + 4 * k) = nI (tI T k) ∧ gI s c (o + 40 + 4 * k) = nI (tW T k) ∧ gI s c (o + 41 + 4 * k) = nI (tU T k) ∧ gI s c (o + 42 + 4 * k) = e1 (tH T k))
section
variable {t : Nat} {s : Mem} {T : Th}
theorem RC.hR (h : RC t s T) : gI s t 4 = nI (tR T) := h.1.1
theorem RC.hN (h : RC t s T) : gI s t 9 = nI (tN T) := h.1.2.1
theorem RC.hX (h : RC t s T) : gI s t 10 = nI (tX T) := h.1.2.2.1
theorem RC.hM (h : RC t s T) : gI s t 11 = nI (tM T) := h.1.2.2.2.1
theorem RC.hV (h : RC t s T) : gI s t 12 = nI (tV T) := h.1.2.2.2.2.1
theorem RC.hA (h : RC t s T) : gJ s t 13 = lN (tA T) := h.1.2.2.2.2.2.1
theorem RC.hL (h : RC t s T) : gJ s t 14 = lN (tL T) := h.1.2.2.2.2.2.2
theorem RC.hC (h : RC t s T) {r : Nat} (hr : r < 8) : gI s (t + 64) r = nI (tC T r) := (h.2.1 r hr).1
theorem RC.hP (h : RC t s T) {r : Nat} (hr : r < 8) : gI s (t + 128) r = nI (tP T r) := (h.2.1 r hr).2.1
theorem RC.hK (h : RC t s T) {r : Nat} (hr : r < 8) : gI s (t + 192) r = bI (tK T r) := (h.2.1 r hr).2.2.1
theorem RC.hB (h : RC t s T) {r : Nat} (hr : r < 8) : gI s (t + 256) r = eo (tB T r) := (h.2.1 r hr).2.2.2
theorem RC.hI (h : RC t s T) {k : Nat} (hk : k < tN T) : gI s (t + 384) k = nI (tI T k) := (h.2.2 k hk).1
theorem RC.hW (h : RC t s T) {k : Nat} (hk : k < tN T) : gI s (t + 448) k = nI (tW T k) := (h.2.2 k hk).2.1
theorem RC.hU (h : RC t s T) {k : Nat} (hk : k < tN T) : gI s (t + 512) k = nI (tU T k) := (h.2.2 k hk).2.2.1
theorem RC.hH (h : RC t s T) {k : Nat} (hk : k < tN T) : gI s (t + 576) k = eo (tH T k) := (h.2.2 k hk).2.2.2
theorem c_echoesIn (h : RC t s T) (w : Sz T) {r : Nat} (hr : r < 2 ^ 31) : m_X6_echoesIn t (nI r) s = some (nI (cnt T r)) := by
  have hN := w.2.1
  refine lpO_d (fun k => (nI (sm (fun j => if tW T j = r then 1 else 0) k), nI k)) (fun _ => True) (tN T) rfl trivial (by omega) fun k hk _ kf => ?_
  by_cases q : k < tN T
  · have h1 := (w.2.2.2.1 k q).2.1
    have h2 := w.1
    refine Or.inr ⟨q, trivial, ?_⟩
    simp (disch := omega) only [m_X6_echoesIn_b4, h.hN, h.hW q, nLe, nIb, nN, nE, vl, nI_1, sm, if_pos, if_neg]
    by_cases z : tW T k = r <;> simp [z]
  · have e : k = tN T := by omega
    subst e
    left
    simp (disch := omega) only [m_X6_echoesIn_b4, h.hN, nLe, if_pos, Nat.le_refl]
    rfl
end
