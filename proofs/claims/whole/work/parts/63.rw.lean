/-! ===== the reference: writes ===== -/
/-- all but the present theatre's cells has stayed -/
def F6 (s s' : Mem) : Prop := (∀ c, c ≠ 136 → ∀ j, gI s' c j = gI s c j) ∧ s'.2 = s.2
theorem F6.refl {s : Mem} : F6 s s := ⟨fun _ _ _ => rfl, rfl⟩
theorem F6.trans {s s1 s2 : Mem} (h1 : F6 s s1) (h2 : F6 s1 s2) : F6 s s2 := ⟨fun c hc j => (h2.1 c hc j).trans (h1.1 c hc j), h2.2.trans h1.2⟩
theorem F6.p {s s1 : Mem} (h : F6 s s1) {k : Nat} {v : Int32} : F6 s (pI s1 136 k v) := ⟨fun c hc j => (gI_o hc).trans (h.1 c hc j), h.2⟩
/-- what a change of the reference comes to -/
def rch (s : Mem) (v : Int32) (T' : Th) : Int32 ⊕ String → Mem → Prop := fun o s' => o = .inl v ∧ RF 136 0 s' T' ∧ F6 s s'
section
variable {s : Mem} {T : Th} {n : Nat}
theorem r_puts {r a : Nat} {v : Int32} (hr : r < 8) (ha : a < 3) : m_X8_puts (nI r) (nI a) v s = some (.inl (), pI s 136 (15 + 3 * r + a) v) := by
  unfold m_X8_puts
  simp (disch := omega) only [ltI, nM, nI_add, nIb, nN, if_pos, vl_i]
theorem r_sets {k a : Nat} {v : Int32} (hk : k < 24) (ha : a < 4) : m_X8_sets (nI k) (nI a) v s = some (.inl (), pI s 136 (39 + 4 * k + a) v) := by
  unfold m_X8_sets
  simp (disch := omega) only [ltI, nM, nI_add, nIb, nN, if_pos, vl_i]
/-- cells that no row or echo has -/
theorem RF.out (h : RF 136 0 s T) (w : tR T ≤ 8) {q : Nat} {v : Int32} (hq : (∃ r a, q = 15 + 3 * r + a ∧ a < 3 ∧ tR T ≤ r ∧ r < 8) ∨ ∃ k a, q = 39 + 4 * k + a ∧ a < 4 ∧ tN T ≤ k) : RF 136 0 (pI s 136 q v) T := by
  have h0 : 15 ≤ q ∧ (∀ r, r < tR T → ∀ a, a < 3 → q ≠ 15 + 3 * r + a) ∧ ∀ k, k < tN T → ∀ a, a < 4 → q ≠ 39 + 4 * k + a := by
    rcases hq with ⟨r, a, rfl, h1, h2, h3⟩ | ⟨k, a, rfl, h1, h2⟩
    · exact ⟨by omega, fun r' _ a' _ => by omega, fun k' _ a' _ => by omega⟩
    · exact ⟨by omega, fun r' _ a' _ => by omega, fun k' _ a' _ => by omega⟩
  obtain ⟨q0, q1, q2⟩ := h0
  obtain ⟨⟨a1, a2, a3, a4, a5, a6, a7⟩, b, c, d⟩ := h
  refine ⟨⟨(gI_k (by omega)).trans a1, (gI_k (by omega)).trans a2, (gI_k (by omega)).trans a3, (gI_k (by omega)).trans a4, (gI_k (by omega)).trans a5, (gI_k (by omega)).trans a6, (gI_k (by omega)).trans a7⟩, fun i hi => (gI_k (by omega)).trans (b i hi), fun r hr => ?_, fun k hk => ?_⟩
  · have z0 := q1 r hr 0 (by decide)
    have z1 := q1 r hr 1 (by decide)
    have z2 := q1 r hr 2 (by decide)
    exact ⟨(gI_k (by omega)).trans (c r hr).1, (gI_k (by omega)).trans (c r hr).2.1, (gI_k (by omega)).trans (c r hr).2.2⟩
  · have z0 := q2 k hk 0 (by decide)
    have z1 := q2 k hk 1 (by decide)
    have z2 := q2 k hk 2 (by decide)
    have z3 := q2 k hk 3 (by decide)
    exact ⟨(gI_k (by omega)).trans (d k hk).1, (gI_k (by omega)).trans (d k hk).2.1, (gI_k (by omega)).trans (d k hk).2.2.1, (gI_k (by omega)).trans (d k hk).2.2.2⟩
theorem RF.wM (h : RF 136 0 s T) (w : tR T ≤ 8) {v : Nat} : RF 136 0 (pI s 136 3 (nI v)) ((tR T, tN T, tX T, v, T.1.2.2.2.2), T.2) := by
  obtain ⟨⟨a1, a2, a3, a4, a5, a6, a7⟩, b, c, d⟩ := h
  refine ⟨⟨(gI_k (by omega)).trans a1, (gI_k (by omega)).trans a2, (gI_k (by omega)).trans a3, gI_s, (gI_k (by omega)).trans a5, (gI_k (by omega)).trans a6, (gI_k (by omega)).trans a7⟩, fun i hi => (gI_k (by omega)).trans (b i hi), fun r hr => ?_, fun i hi => ?_⟩
  · have hr : r < tR T := hr
    exact ⟨(gI_k (by omega)).trans (c r hr).1, (gI_k (by omega)).trans (c r hr).2.1, (gI_k (by omega)).trans (c r hr).2.2⟩
  · exact ⟨(gI_k (by omega)).trans (d i hi).1, (gI_k (by omega)).trans (d i hi).2.1, (gI_k (by omega)).trans (d i hi).2.2.1, (gI_k (by omega)).trans (d i hi).2.2.2⟩
theorem RF.wX (h : RF 136 0 s T) (w : tR T ≤ 8) {v : Nat} : RF 136 0 (pI s 136 2 (nI v)) ((tR T, tN T, v, T.1.2.2.2), T.2) := by
  obtain ⟨⟨a1, a2, a3, a4, a5, a6, a7⟩, b, c, d⟩ := h
  refine ⟨⟨(gI_k (by omega)).trans a1, (gI_k (by omega)).trans a2, gI_s, (gI_k (by omega)).trans a4, (gI_k (by omega)).trans a5, (gI_k (by omega)).trans a6, (gI_k (by omega)).trans a7⟩, fun i hi => (gI_k (by omega)).trans (b i hi), fun r hr => ?_, fun i hi => ?_⟩
  · have hr : r < tR T := hr
    exact ⟨(gI_k (by omega)).trans (c r hr).1, (gI_k (by omega)).trans (c r hr).2.1, (gI_k (by omega)).trans (c r hr).2.2⟩
  · exact ⟨(gI_k (by omega)).trans (d i hi).1, (gI_k (by omega)).trans (d i hi).2.1, (gI_k (by omega)).trans (d i hi).2.2.1, (gI_k (by omega)).trans (d i hi).2.2.2⟩
theorem RF.wV (h : RF 136 0 s T) (w : tR T ≤ 8) {v : Nat} : RF 136 0 (pI s 136 4 (nI v)) ((tR T, tN T, tX T, tM T, v, T.1.2.2.2.2.2), T.2) := by
  obtain ⟨⟨a1, a2, a3, a4, a5, a6, a7⟩, b, c, d⟩ := h
  refine ⟨⟨(gI_k (by omega)).trans a1, (gI_k (by omega)).trans a2, (gI_k (by omega)).trans a3, (gI_k (by omega)).trans a4, gI_s, (gI_k (by omega)).trans a6, (gI_k (by omega)).trans a7⟩, fun i hi => (gI_k (by omega)).trans (b i hi), fun r hr => ?_, fun i hi => ?_⟩
  · have hr : r < tR T := hr
    exact ⟨(gI_k (by omega)).trans (c r hr).1, (gI_k (by omega)).trans (c r hr).2.1, (gI_k (by omega)).trans (c r hr).2.2⟩
  · exact ⟨(gI_k (by omega)).trans (d i hi).1, (gI_k (by omega)).trans (d i hi).2.1, (gI_k (by omega)).trans (d i hi).2.2.1, (gI_k (by omega)).trans (d i hi).2.2.2⟩
theorem RF.wA (h : RF 136 0 s T) (w : tR T ≤ 8) {v : Nat} : RF 136 0 (pI s 136 5 (nI v)) ((tR T, tN T, tX T, tM T, tV T, v, T.1.2.2.2.2.2.2), T.2) := by
  obtain ⟨⟨a1, a2, a3, a4, a5, a6, a7⟩, b, c, d⟩ := h
  refine ⟨⟨(gI_k (by omega)).trans a1, (gI_k (by omega)).trans a2, (gI_k (by omega)).trans a3, (gI_k (by omega)).trans a4, (gI_k (by omega)).trans a5, gI_s, (gI_k (by omega)).trans a7⟩, fun i hi => (gI_k (by omega)).trans (b i hi), fun r hr => ?_, fun i hi => ?_⟩
  · have hr : r < tR T := hr
    exact ⟨(gI_k (by omega)).trans (c r hr).1, (gI_k (by omega)).trans (c r hr).2.1, (gI_k (by omega)).trans (c r hr).2.2⟩
  · exact ⟨(gI_k (by omega)).trans (d i hi).1, (gI_k (by omega)).trans (d i hi).2.1, (gI_k (by omega)).trans (d i hi).2.2.1, (gI_k (by omega)).trans (d i hi).2.2.2⟩
theorem RF.wL (h : RF 136 0 s T) (w : tR T ≤ 8) {v : Nat} : RF 136 0 (pI s 136 6 (nI v)) ((tR T, tN T, tX T, tM T, tV T, tA T, v), T.2) := by
  obtain ⟨⟨a1, a2, a3, a4, a5, a6, a7⟩, b, c, d⟩ := h
  refine ⟨⟨(gI_k (by omega)).trans a1, (gI_k (by omega)).trans a2, (gI_k (by omega)).trans a3, (gI_k (by omega)).trans a4, (gI_k (by omega)).trans a5, (gI_k (by omega)).trans a6, gI_s⟩, fun i hi => (gI_k (by omega)).trans (b i hi), fun r hr => ?_, fun i hi => ?_⟩
  · have hr : r < tR T := hr
    exact ⟨(gI_k (by omega)).trans (c r hr).1, (gI_k (by omega)).trans (c r hr).2.1, (gI_k (by omega)).trans (c r hr).2.2⟩
  · exact ⟨(gI_k (by omega)).trans (d i hi).1, (gI_k (by omega)).trans (d i hi).2.1, (gI_k (by omega)).trans (d i hi).2.2.1, (gI_k (by omega)).trans (d i hi).2.2.2⟩
theorem RF.wNn (h : RF 136 0 s T) (w : tR T ≤ 8) {v : Nat} (hv : v ≤ tN T) : RF 136 0 (pI s 136 1 (nI v)) ((tR T, v, T.1.2.2), T.2) := by
  obtain ⟨⟨a1, a2, a3, a4, a5, a6, a7⟩, b, c, d⟩ := h
  refine ⟨⟨(gI_k (by omega)).trans a1, gI_s, (gI_k (by omega)).trans a3, (gI_k (by omega)).trans a4, (gI_k (by omega)).trans a5, (gI_k (by omega)).trans a6, (gI_k (by omega)).trans a7⟩, fun i hi => (gI_k (by omega)).trans (b i hi), fun r hr => ?_, fun i hi => ?_⟩
  · have hr : r < tR T := hr
    exact ⟨(gI_k (by omega)).trans (c r hr).1, (gI_k (by omega)).trans (c r hr).2.1, (gI_k (by omega)).trans (c r hr).2.2⟩
  · have hi : i < tN T := Nat.lt_of_lt_of_le hi hv
    exact ⟨(gI_k (by omega)).trans (d i hi).1, (gI_k (by omega)).trans (d i hi).2.1, (gI_k (by omega)).trans (d i hi).2.2.1, (gI_k (by omega)).trans (d i hi).2.2.2⟩
theorem RF.wN (h : RF 136 0 s T) (w : tR T ≤ 8) (hc : gI s 136 (39 + 4 * tN T + 0) = nI (tI T (tN T)) ∧ gI s 136 (39 + 4 * tN T + 1) = nI (tW T (tN T)) ∧ gI s 136 (39 + 4 * tN T + 2) = nI (tU T (tN T)) ∧ gI s 136 (39 + 4 * tN T + 3) = e1 (tH T (tN T))) : RF 136 0 (pI s 136 1 (nI (tN T + 1))) ((tR T, tN T + 1, T.1.2.2), T.2) := by
  obtain ⟨⟨a1, a2, a3, a4, a5, a6, a7⟩, b, c, d⟩ := h
  refine ⟨⟨(gI_k (by omega)).trans a1, gI_s, (gI_k (by omega)).trans a3, (gI_k (by omega)).trans a4, (gI_k (by omega)).trans a5, (gI_k (by omega)).trans a6, (gI_k (by omega)).trans a7⟩, fun i hi => (gI_k (by omega)).trans (b i hi), fun r hr => ?_, fun i hi => ?_⟩
  · have hr : r < tR T := hr
    exact ⟨(gI_k (by omega)).trans (c r hr).1, (gI_k (by omega)).trans (c r hr).2.1, (gI_k (by omega)).trans (c r hr).2.2⟩
  · have hi : i < tN T + 1 := hi
    rw [gI_k (by omega), gI_k (by omega), gI_k (by omega), gI_k (by omega)]
    by_cases q : i = tN T
    · subst q
      rw [show 0 + 39 + 4 * tN T = 39 + 4 * tN T + 0 by omega, show 0 + 40 + 4 * tN T = 39 + 4 * tN T + 1 by omega, show 0 + 41 + 4 * tN T = 39 + 4 * tN T + 2 by omega, show 0 + 42 + 4 * tN T = 39 + 4 * tN T + 3 by omega]
      exact hc
    · exact d i (by omega)
theorem RF.wR (h : RF 136 0 s T) (w : tR T ≤ 8) (hc : gI s 136 (15 + 3 * tR T + 0) = nI (tC T (tR T)) ∧ gI s 136 (15 + 3 * tR T + 1) = nI (tP T (tR T)) ∧ gI s 136 (15 + 3 * tR T + 2) = bI (tK T (tR T))) : RF 136 0 (pI s 136 0 (nI (tR T + 1))) ((tR T + 1, T.1.2), T.2) := by
  obtain ⟨⟨a1, a2, a3, a4, a5, a6, a7⟩, b, c, d⟩ := h
  refine ⟨⟨gI_s, (gI_k (by omega)).trans a2, (gI_k (by omega)).trans a3, (gI_k (by omega)).trans a4, (gI_k (by omega)).trans a5, (gI_k (by omega)).trans a6, (gI_k (by omega)).trans a7⟩, fun i hi => (gI_k (by omega)).trans (b i hi), fun r hr => ?_, fun i hi => ?_⟩
  · have hr : r < tR T + 1 := hr
    rw [gI_k (by omega), gI_k (by omega), gI_k (by omega)]
    by_cases q : r = tR T
    · subst q
      rw [show 0 + 15 + 3 * tR T = 15 + 3 * tR T + 0 by omega, show 0 + 16 + 3 * tR T = 15 + 3 * tR T + 1 by omega, show 0 + 17 + 3 * tR T = 15 + 3 * tR T + 2 by omega]
      exact hc
    · exact c r (by omega)
  · exact ⟨(gI_k (by omega)).trans (d i hi).1, (gI_k (by omega)).trans (d i hi).2.1, (gI_k (by omega)).trans (d i hi).2.2.1, (gI_k (by omega)).trans (d i hi).2.2.2⟩
theorem RF.wP (h : RF 136 0 s T) (w : tR T ≤ 8) {r0 : Nat} {v : Nat} (h0 : r0 < tR T) : RF 136 0 (pI s 136 (15 + 3 * r0 + 1) (nI v)) (T.1, tC T, uf (tP T) r0 v, T.2.2.2) := by
  obtain ⟨⟨a1, a2, a3, a4, a5, a6, a7⟩, b, c, d⟩ := h
  refine ⟨⟨(gI_k (by omega)).trans a1, (gI_k (by omega)).trans a2, (gI_k (by omega)).trans a3, (gI_k (by omega)).trans a4, (gI_k (by omega)).trans a5, (gI_k (by omega)).trans a6, (gI_k (by omega)).trans a7⟩, fun i hi => (gI_k (by omega)).trans (b i hi), fun r hr => ?_, fun i hi => ?_⟩
  · have hr : r < tR T := hr
    refine ⟨(gI_k (by omega)).trans (c r hr).1, ?_, (gI_k (by omega)).trans (c r hr).2.2⟩
    show gI _ 136 (0 + 16 + 3 * r) = nI (uf (tP T) r0 v r)
    by_cases q : r = r0
    · subst q; rw [show 0 + 16 + 3 * r = 15 + 3 * r + 1 by omega, gI_s, uf_s]
    · rw [gI_k (by omega), uf_k q]; exact (c r hr).2.1
  · exact ⟨(gI_k (by omega)).trans (d i hi).1, (gI_k (by omega)).trans (d i hi).2.1, (gI_k (by omega)).trans (d i hi).2.2.1, (gI_k (by omega)).trans (d i hi).2.2.2⟩
theorem RF.wK (h : RF 136 0 s T) (w : tR T ≤ 8) {r0 : Nat} {v : Bool} (h0 : r0 < tR T) : RF 136 0 (pI s 136 (15 + 3 * r0 + 2) (bI v)) (T.1, tC T, tP T, uf (tK T) r0 v, T.2.2.2.2) := by
  obtain ⟨⟨a1, a2, a3, a4, a5, a6, a7⟩, b, c, d⟩ := h
  refine ⟨⟨(gI_k (by omega)).trans a1, (gI_k (by omega)).trans a2, (gI_k (by omega)).trans a3, (gI_k (by omega)).trans a4, (gI_k (by omega)).trans a5, (gI_k (by omega)).trans a6, (gI_k (by omega)).trans a7⟩, fun i hi => (gI_k (by omega)).trans (b i hi), fun r hr => ?_, fun i hi => ?_⟩
  · have hr : r < tR T := hr
    refine ⟨(gI_k (by omega)).trans (c r hr).1, (gI_k (by omega)).trans (c r hr).2.1, ?_⟩
    show gI _ 136 (0 + 17 + 3 * r) = bI (uf (tK T) r0 v r)
    by_cases q : r = r0
    · subst q; rw [show 0 + 17 + 3 * r = 15 + 3 * r + 2 by omega, gI_s, uf_s]
    · rw [gI_k (by omega), uf_k q]; exact (c r hr).2.2
  · exact ⟨(gI_k (by omega)).trans (d i hi).1, (gI_k (by omega)).trans (d i hi).2.1, (gI_k (by omega)).trans (d i hi).2.2.1, (gI_k (by omega)).trans (d i hi).2.2.2⟩
theorem RF.wB (h : RF 136 0 s T) (w : tR T ≤ 8) {b0 : Nat} {v : Option Nat} (h0 : b0 < 8) : RF 136 0 (pI s 136 (7 + b0) (e1 v)) (T.1, tC T, tP T, tK T, uf (tB T) b0 v, T.2.2.2.2.2) := by
  obtain ⟨⟨a1, a2, a3, a4, a5, a6, a7⟩, b, c, d⟩ := h
  refine ⟨⟨(gI_k (by omega)).trans a1, (gI_k (by omega)).trans a2, (gI_k (by omega)).trans a3, (gI_k (by omega)).trans a4, (gI_k (by omega)).trans a5, (gI_k (by omega)).trans a6, (gI_k (by omega)).trans a7⟩, fun i hi => ?_, fun r hr => ?_, fun i hi => ?_⟩
  · show gI _ 136 (0 + 7 + i) = e1 (uf (tB T) b0 v i)
    by_cases q : i = b0
    · subst q; rw [show 0 + 7 + i = 7 + i by omega, gI_s, uf_s]
    · rw [gI_k (by omega), uf_k q]; exact b i hi
  · have hr : r < tR T := hr
    exact ⟨(gI_k (by omega)).trans (c r hr).1, (gI_k (by omega)).trans (c r hr).2.1, (gI_k (by omega)).trans (c r hr).2.2⟩
  · exact ⟨(gI_k (by omega)).trans (d i hi).1, (gI_k (by omega)).trans (d i hi).2.1, (gI_k (by omega)).trans (d i hi).2.2.1, (gI_k (by omega)).trans (d i hi).2.2.2⟩
theorem RF.wW (h : RF 136 0 s T) (w : tR T ≤ 8) {k : Nat} {v : Nat} (h0 : k < tN T) : RF 136 0 (pI s 136 (39 + 4 * k + 1) (nI v)) (T.1, tC T, tP T, tK T, tB T, tI T, uf (tW T) k v, T.2.2.2.2.2.2.2) := by
  obtain ⟨⟨a1, a2, a3, a4, a5, a6, a7⟩, b, c, d⟩ := h
  refine ⟨⟨(gI_k (by omega)).trans a1, (gI_k (by omega)).trans a2, (gI_k (by omega)).trans a3, (gI_k (by omega)).trans a4, (gI_k (by omega)).trans a5, (gI_k (by omega)).trans a6, (gI_k (by omega)).trans a7⟩, fun i hi => (gI_k (by omega)).trans (b i hi), fun r hr => ?_, fun i hi => ?_⟩
  · have hr : r < tR T := hr
    exact ⟨(gI_k (by omega)).trans (c r hr).1, (gI_k (by omega)).trans (c r hr).2.1, (gI_k (by omega)).trans (c r hr).2.2⟩
  · have hi : i < tN T := hi
    refine ⟨(gI_k (by omega)).trans (d i hi).1, ?_, (gI_k (by omega)).trans (d i hi).2.2.1, (gI_k (by omega)).trans (d i hi).2.2.2⟩
    show gI _ 136 (0 + 40 + 4 * i) = nI (uf (tW T) k v i)
    by_cases q : i = k
    · subst q; rw [show 0 + 40 + 4 * i = 39 + 4 * i + 1 by omega, gI_s, uf_s]
    · rw [gI_k (by omega), uf_k q]; exact (d i hi).2.1
theorem RF.wU (h : RF 136 0 s T) (w : tR T ≤ 8) {k : Nat} {v : Nat} (h0 : k < tN T) : RF 136 0 (pI s 136 (39 + 4 * k + 2) (nI v)) (T.1, tC T, tP T, tK T, tB T, tI T, tW T, uf (tU T) k v, T.2.2.2.2.2.2.2.2) := by
  obtain ⟨⟨a1, a2, a3, a4, a5, a6, a7⟩, b, c, d⟩ := h
  refine ⟨⟨(gI_k (by omega)).trans a1, (gI_k (by omega)).trans a2, (gI_k (by omega)).trans a3, (gI_k (by omega)).trans a4, (gI_k (by omega)).trans a5, (gI_k (by omega)).trans a6, (gI_k (by omega)).trans a7⟩, fun i hi => (gI_k (by omega)).trans (b i hi), fun r hr => ?_, fun i hi => ?_⟩
  · have hr : r < tR T := hr
    exact ⟨(gI_k (by omega)).trans (c r hr).1, (gI_k (by omega)).trans (c r hr).2.1, (gI_k (by omega)).trans (c r hr).2.2⟩
  · have hi : i < tN T := hi
    refine ⟨(gI_k (by omega)).trans (d i hi).1, (gI_k (by omega)).trans (d i hi).2.1, ?_, (gI_k (by omega)).trans (d i hi).2.2.2⟩
    show gI _ 136 (0 + 41 + 4 * i) = nI (uf (tU T) k v i)
    by_cases q : i = k
    · subst q; rw [show 0 + 41 + 4 * i = 39 + 4 * i + 2 by omega, gI_s, uf_s]
    · rw [gI_k (by omega), uf_k q]; exact (d i hi).2.2.1
theorem RF.wH (h : RF 136 0 s T) (w : tR T ≤ 8) {k : Nat} {v : Option Nat} (h0 : k < tN T) : RF 136 0 (pI s 136 (39 + 4 * k + 3) (e1 v)) (T.1, tC T, tP T, tK T, tB T, tI T, tW T, tU T, uf (tH T) k v) := by
  obtain ⟨⟨a1, a2, a3, a4, a5, a6, a7⟩, b, c, d⟩ := h
  refine ⟨⟨(gI_k (by omega)).trans a1, (gI_k (by omega)).trans a2, (gI_k (by omega)).trans a3, (gI_k (by omega)).trans a4, (gI_k (by omega)).trans a5, (gI_k (by omega)).trans a6, (gI_k (by omega)).trans a7⟩, fun i hi => (gI_k (by omega)).trans (b i hi), fun r hr => ?_, fun i hi => ?_⟩
  · have hr : r < tR T := hr
    exact ⟨(gI_k (by omega)).trans (c r hr).1, (gI_k (by omega)).trans (c r hr).2.1, (gI_k (by omega)).trans (c r hr).2.2⟩
  · have hi : i < tN T := hi
    refine ⟨(gI_k (by omega)).trans (d i hi).1, (gI_k (by omega)).trans (d i hi).2.1, (gI_k (by omega)).trans (d i hi).2.2.1, ?_⟩
    show gI _ 136 (0 + 42 + 4 * i) = e1 (uf (tH T) k v i)
    by_cases q : i = k
    · subst q; rw [show 0 + 42 + 4 * i = 39 + 4 * i + 3 by omega, gI_s, uf_s]
    · rw [gI_k (by omega), uf_k q]; exact (d i hi).2.2.2
/-- what is behind the last echo doesn't matter -/
theorem RF.eqE (h : RF 136 0 s T) {fI fW fU : Nat → Nat} {fH : Nat → Option Nat} (hf : ∀ k, k < tN T → fI k = tI T k ∧ fW k = tW T k ∧ fU k = tU T k ∧ fH k = tH T k) : RF 136 0 s (T.1, tC T, tP T, tK T, tB T, fI, fW, fU, fH) :=
  ⟨h.1, h.2.1, h.2.2.1, fun k hk => by
    show _ = nI (fI k) ∧ _ = nI (fW k) ∧ _ = nI (fU k) ∧ _ = e1 (fH k)
    rw [(hf k hk).1, (hf k hk).2.1, (hf k hk).2.2.1, (hf k hk).2.2.2]
    exact h.2.2.2 k hk⟩
theorem RF.eqR (h : RF 136 0 s T) {fC : Nat → Nat} (hf : ∀ r, r < tR T → fC r = tC T r) : RF 136 0 s (T.1, fC, T.2.2) :=
  ⟨h.1, h.2.1, fun r hr => by
    show _ = nI (fC r) ∧ _ = nI (tP T r) ∧ _ = bI (tK T r)
    rw [hf r hr]
    exact h.2.2.1 r hr, h.2.2.2⟩
/-! the simple changes -/
theorem r_addsRow (h : RF 136 0 s T) (W : WT n T) (w : Sz T) {c : Nat} (hR : tR T < 8) : okR (m_X8_addsRow (nI c) s) (rch s (nI (tR T)) (op0 T c)) := by
  have w8 := w.1
  obtain ⟨_, _, h1, _⟩ := W.2.2.2.2.2.2.2 (tR T)
  obtain ⟨h2, h3⟩ := h1 (Nat.le_refl _)
  have hg : gI s 136 (0 : Int32).toNatClampNeg = nI (tR T) := h.rR
  unfold m_X8_addsRow
  rw [if_pos (show ib (0 : Int32) 135 by decide), okR_vl, hg, show m_X8_puts (nI (tR T)) 0 (nI c) s = m_X8_puts (nI (tR T)) (nI 0) (nI c) s from rfl, r_puts hR (by decide), bR_l]
  have s1 := h.out w8 (q := 15 + 3 * tR T + 0) (v := nI c) (Or.inl ⟨tR T, 0, rfl, by decide, Nat.le_refl _, hR⟩)
  rw [show ∀ z : Mem, m_X8_puts (nI (tR T)) 1 0 z = m_X8_puts (nI (tR T)) (nI 1) (nI 0) z from fun _ => rfl, r_puts hR (by decide), bR_l]
  have s2 := s1.out w8 (q := 15 + 3 * tR T + 1) (v := nI 0) (Or.inl ⟨tR T, 1, rfl, by decide, Nat.le_refl _, hR⟩)
  rw [show ∀ z : Mem, m_X8_puts (nI (tR T)) 2 0 z = m_X8_puts (nI (tR T)) (nI 2) (nI 0) z from fun _ => rfl, r_puts hR (by decide), bR_l]
  have s3 := s2.out w8 (q := 15 + 3 * tR T + 2) (v := nI 0) (Or.inl ⟨tR T, 2, rfl, by decide, Nat.le_refl _, hR⟩)
  rw [if_pos (show ib (0 : Int32) 135 by decide), if_pos (show ib (0 : Int32) 135 by decide), okR_vl, okR_some]
  have hg3 : gI (pI (pI (pI s 136 (15 + 3 * tR T + 0) (nI c)) 136 (15 + 3 * tR T + 1) (nI 0)) 136 (15 + 3 * tR T + 2) (nI 0)) 136 (0 : Int32).toNatClampNeg = nI (tR T) := s3.rR
  rw [hg3, nI_1, show (0 : Int32).toNatClampNeg = 0 from rfl]
  refine ⟨rfl, ?_, ((((F6.refl).p).p).p).p⟩
  have s4 : RF 136 0 _ (T.1, uf (tC T) (tR T) c, T.2.2) := s3.eqR (fC := uf (tC T) (tR T) c) (fun r hr => uf_k (by omega))
  exact s4.wR w8 ⟨by
    show _ = nI (uf (tC T) (tR T) c (tR T))
    rw [uf_s, gI_k (show 15 + 3 * tR (T.1, uf (tC T) (tR T) c, T.2.2) + 0 ≠ 15 + 3 * tR T + 2 from by show 15 + 3 * tR T + 0 ≠ _; omega)]
    show gI _ 136 (15 + 3 * tR T + 0) = _
    rw [gI_k (by omega), gI_s], by
    show gI _ 136 (15 + 3 * tR T + 1) = nI (tP T (tR T))
    rw [h2, gI_k (by omega), gI_s], by
    show gI _ 136 (15 + 3 * tR T + 2) = bI (tK T (tR T))
    rw [h3, gI_s]; rfl⟩
theorem r_changesPhantoms (h : RF 136 0 s T) (w : Sz T) {r v : Nat} {d : Int32} (hr : r < tR T) (hd : nI (tP T r) + d = nI v) : okR (m_X8_changesPhantoms (nI r) d s) (rch s (nI v) (opP T r v)) := by
  have w8 := w.1
  unfold m_X8_changesPhantoms
  rw [show (1 : Int32) = nI 1 from rfl, r_P h w hr, bP_some, hd, r_puts (by omega) (by decide), bR_l, r_of (by omega) (by decide), bP_some, gI_s, okR_some]
  exact ⟨rfl, h.wP w8 hr, F6.refl.p⟩
theorem r_adds (h : RF 136 0 s T) (w : Sz T) {r u : Nat} (hN : tN T < 24) (hu : u < 1000) : okR (m_X8_adds (nI r) (nI u) s) (rch s (nI (tX T)) (op3 T r u)) := by
  have w8 := w.1
  have hg : gI s 136 (1 : Int32).toNatClampNeg = nI (tN T) := h.rN
  have hg2 : gI s 136 (2 : Int32).toNatClampNeg = nI (tX T) := h.rX
  unfold m_X8_adds
  rw [if_pos (show ib (1 : Int32) 135 by decide), okR_vl, if_pos (show ib (2 : Int32) 135 by decide), okR_vl, hg, hg2]
  rw [show ∀ z : Mem, m_X8_sets (nI (tN T)) 0 (nI (tX T)) z = m_X8_sets (nI (tN T)) (nI 0) (nI (tX T)) z from fun _ => rfl, r_sets hN (by decide), bR_l]
  have s1 := h.out w8 (q := 39 + 4 * tN T + 0) (v := nI (tX T)) (Or.inr ⟨tN T, 0, rfl, by decide, Nat.le_refl _⟩)
  rw [show ∀ z : Mem, m_X8_sets (nI (tN T)) 1 (nI r) z = m_X8_sets (nI (tN T)) (nI 1) (nI r) z from fun _ => rfl, r_sets hN (by decide), bR_l]
  have s2 := s1.out w8 (q := 39 + 4 * tN T + 1) (v := nI r) (Or.inr ⟨tN T, 1, rfl, by decide, Nat.le_refl _⟩)
  rw [show ∀ z : Mem, m_X8_sets (nI (tN T)) 2 (nI u) z = m_X8_sets (nI (tN T)) (nI 2) (nI u) z from fun _ => rfl, r_sets hN (by decide), bR_l]
  have s3 := s2.out w8 (q := 39 + 4 * tN T + 2) (v := nI u) (Or.inr ⟨tN T, 2, rfl, by decide, Nat.le_refl _⟩)
  rw [show ∀ z : Mem, m_X8_sets (nI (tN T)) 3 0 z = m_X8_sets (nI (tN T)) (nI 3) (nI 0) z from fun _ => rfl, r_sets hN (by decide), bR_l]
  have s4 := s3.out w8 (q := 39 + 4 * tN T + 3) (v := nI 0) (Or.inr ⟨tN T, 3, rfl, by decide, Nat.le_refl _⟩)
  have s5 : RF 136 0 _ (T.1, tC T, tP T, tK T, tB T, uf (tI T) (tN T) (tX T), uf (tW T) (tN T) r, uf (tU T) (tN T) u, uf (tH T) (tN T) none) := s4.eqE (fun k hk => ⟨uf_k (by omega), uf_k (by omega), uf_k (by omega), uf_k (by omega)⟩)
  have s6 := s5.wN w8 ⟨by
    show gI _ 136 (39 + 4 * tN T + 0) = nI (uf (tI T) (tN T) (tX T) (tN T))
    rw [uf_s, gI_k (by omega), gI_k (by omega), gI_k (by omega), gI_s], by
    show gI _ 136 (39 + 4 * tN T + 1) = nI (uf (tW T) (tN T) r (tN T))
    rw [uf_s, gI_k (by omega), gI_k (by omega), gI_s], by
    show gI _ 136 (39 + 4 * tN T + 2) = nI (uf (tU T) (tN T) u (tN T))
    rw [uf_s, gI_k (by omega), gI_s], by
    show gI _ 136 (39 + 4 * tN T + 3) = e1 (uf (tH T) (tN T) none (tN T))
    rw [uf_s, gI_s]; rfl⟩
  have s7 := s6.wX w8 (v := tX T + 1)
  have s8 := s7.wA w8 (v := tA T + u)
  obtain ⟨u4, eu4⟩ : ∃ z, z = pI (pI (pI (pI s 136 (39 + 4 * tN T + 0) (nI (tX T))) 136 (39 + 4 * tN T + 1) (nI r)) 136 (39 + 4 * tN T + 2) (nI u)) 136 (39 + 4 * tN T + 3) (nI 0) := ⟨_, rfl⟩
  rw [← eu4] at s4 s5 s6 s7 s8 ⊢
  have f4 : F6 s u4 := by rw [eu4]; exact ((((F6.refl).p).p).p).p
  have g1 : gI u4 136 (1 : Int32).toNatClampNeg = nI (tN T) := s4.rN
  rw [if_pos (show ib (1 : Int32) 135 by decide), if_pos (show ib (1 : Int32) 135 by decide), okR_vl, g1, nI_1, show (1 : Int32).toNatClampNeg = 1 from rfl]
  have g2 : gI (pI u4 136 1 (nI (tN T + 1))) 136 (2 : Int32).toNatClampNeg = nI (tX T) := s6.rX
  rw [if_pos (show ib (2 : Int32) 135 by decide), if_pos (show ib (2 : Int32) 135 by decide), okR_vl, g2, nI_1, show (2 : Int32).toNatClampNeg = 2 from rfl]
  have g3 : gI (pI (pI u4 136 1 (nI (tN T + 1))) 136 2 (nI (tX T + 1))) 136 (5 : Int32).toNatClampNeg = nI (tA T) := s7.rA
  rw [if_pos (show ib (5 : Int32) 135 by decide), if_pos (show ib (5 : Int32) 135 by decide), okR_vl, okR_some, g3, nI_add, show (5 : Int32).toNatClampNeg = 5 from rfl]
  exact ⟨rfl, s8, ((f4.p).p).p⟩
theorem r_moves (h : RF 136 0 s T) (w : Sz T) {k r : Nat} (hk : k < tN T) {p : Int32} (hp : sltp T p = some k) : okR (m_X8_moves p (nI r) s) (rch s (nI (tW T k)) (op4 T k r)) := by
  have w8 := w.1
  have hN := w.2.1
  unfold m_X8_moves
  rw [r_slotOf h w, hp, bP_some, show eo (some k) = nI k from rfl, show (1 : Int32) = nI 1 from rfl, r_W h w hk, bP_some, r_sets (by omega) (by decide), bR_l]
  have s1 := h.wW w8 (k := k) (v := r) hk
  have g : gI (pI s 136 (39 + 4 * k + 1) (nI r)) 136 (3 : Int32).toNatClampNeg = nI (tM T) := s1.rM
  rw [if_pos (show ib (3 : Int32) 135 by decide), if_pos (show ib (3 : Int32) 135 by decide), okR_vl, okR_some, g, nI_add, show (3 : Int32).toNatClampNeg = 3 from rfl]
  exact ⟨rfl, s1.wM w8, (F6.refl.p).p⟩
theorem r_setsHeir (h : RF 136 0 s T) (w : Sz T) {k : Nat} {v : Option Nat} {q : Int32} (hk : k < tN T) {p : Int32} (hp : sltp T p = some k) (hq : q + 1 = e1 v) : okR (m_X8_setsHeir p q s) (rch s (eo (tH T k)) (op6 T k v)) := by
  have w8 := w.1
  have hN := w.2.1
  unfold m_X8_setsHeir
  rw [r_slotOf h w, hp, bP_some, show eo (some k) = nI k from rfl, show (3 : Int32) = nI 3 from rfl, r_H h w hk, bP_some, okR_vl, hq, r_sets (by omega) (by decide), bR_l, okR_some]
  refine ⟨congrArg Sum.inl ?_, h.wH w8 hk, F6.refl.p⟩
  cases tH T k with
  | none => rfl
  | some d => exact nI_pred d
theorem r_locks (h : RF 136 0 s T) (w : Sz T) {r : Nat} {b : Bool} (hr : r < tR T) : okR (m_X8_locks (nI r) (bI b) s) (rch s (nI (lkd (op8 T r b))) (op8 T r b)) := by
  have w8 := w.1
  unfold m_X8_locks
  have s1 : RF 136 0 (pI s 136 (15 + 3 * r + 2) (bI b)) (op8 T r b) := h.wK w8 hr
  rw [show (2 : Int32) = nI 2 from rfl, r_puts (by omega) (by decide), bR_l, r_lockedRows s1 w, bP_some, okR_some]
  exact ⟨rfl, s1, F6.refl.p⟩
theorem r_names (h : RF 136 0 s T) (w : Sz T) {b r : Nat} (hb : b < 8) : okR (m_X8_names (nI (97 + b)) (nI r) s) (rch s (eo (tB T b)) (op10 T b r)) := by
  have w8 := w.1
  have e : (7 : Int32) + nI (97 + b) - 97 = nI (7 + b) := by
    rw [show (7 : Int32) = nI 7 from rfl, show (97 : Int32) = nI 97 from rfl, nI_add, nS' (by omega), show 7 + (97 + b) - 97 = 7 + b by omega]
  unfold m_X8_names
  rw [e, if_pos (show ib (nI (7 + b)) 135 by rw [nIb (by omega)]; omega), okR_vl, if_pos (show ib (nI (7 + b)) 135 by rw [nIb (by omega)]; omega), okR_vl, okR_some, nN (by omega), h.rB hb, nI_1]
  refine ⟨congrArg Sum.inl ?_, h.wB w8 (v := some r) hb, F6.refl.p⟩
  cases tB T b with
  | none => rfl
  | some d => exact nI_pred d
end
