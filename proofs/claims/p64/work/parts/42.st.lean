/-! ===== the class: one write to a theatre ===== -/
section
variable {t : Nat} {s : Mem} {T : Th}
theorem RC.sC (h : RC t s T) {k : Nat} {v : Nat} : RC t (pI s (t + 64) k (nI v)) (T.1, uf (tC T) k v, T.2.2) := by
  obtain ⟨⟨a1, a2, a3, a4, a5, a6, a7⟩, b, c⟩ := h
  refine ⟨⟨(gI_o (by omega)).trans a1, (gI_o (by omega)).trans a2, (gI_o (by omega)).trans a3, (gI_o (by omega)).trans a4, (gI_o (by omega)).trans a5, a6, a7⟩, fun r hr => ⟨?_, (gI_o (by omega)).trans (b r hr).2.1, (gI_o (by omega)).trans (b r hr).2.2.1, (gI_o (by omega)).trans (b r hr).2.2.2⟩, fun i hi => ⟨(gI_o (by omega)).trans (c i hi).1, (gI_o (by omega)).trans (c i hi).2.1, (gI_o (by omega)).trans (c i hi).2.2.1, (gI_o (by omega)).trans (c i hi).2.2.2⟩⟩
  show gI (pI s (t + 64) k (nI v)) (t + 64) r = nI (uf (tC T) k v r)
  by_cases q : r = k
  · subst q; rw [gI_s, uf_s]
  · rw [gI_k q, uf_k q]; exact (b r hr).1
theorem RC.sP (h : RC t s T) {k : Nat} {v : Nat} : RC t (pI s (t + 128) k (nI v)) (T.1, tC T, uf (tP T) k v, T.2.2.2) := by
  obtain ⟨⟨a1, a2, a3, a4, a5, a6, a7⟩, b, c⟩ := h
  refine ⟨⟨(gI_o (by omega)).trans a1, (gI_o (by omega)).trans a2, (gI_o (by omega)).trans a3, (gI_o (by omega)).trans a4, (gI_o (by omega)).trans a5, a6, a7⟩, fun r hr => ⟨(gI_o (by omega)).trans (b r hr).1, ?_, (gI_o (by omega)).trans (b r hr).2.2.1, (gI_o (by omega)).trans (b r hr).2.2.2⟩, fun i hi => ⟨(gI_o (by omega)).trans (c i hi).1, (gI_o (by omega)).trans (c i hi).2.1, (gI_o (by omega)).trans (c i hi).2.2.1, (gI_o (by omega)).trans (c i hi).2.2.2⟩⟩
  show gI (pI s (t + 128) k (nI v)) (t + 128) r = nI (uf (tP T) k v r)
  by_cases q : r = k
  · subst q; rw [gI_s, uf_s]
  · rw [gI_k q, uf_k q]; exact (b r hr).2.1
theorem RC.sK (h : RC t s T) {k : Nat} {v : Bool} : RC t (pI s (t + 192) k (bI v)) (T.1, tC T, tP T, uf (tK T) k v, T.2.2.2.2) := by
  obtain ⟨⟨a1, a2, a3, a4, a5, a6, a7⟩, b, c⟩ := h
  refine ⟨⟨(gI_o (by omega)).trans a1, (gI_o (by omega)).trans a2, (gI_o (by omega)).trans a3, (gI_o (by omega)).trans a4, (gI_o (by omega)).trans a5, a6, a7⟩, fun r hr => ⟨(gI_o (by omega)).trans (b r hr).1, (gI_o (by omega)).trans (b r hr).2.1, ?_, (gI_o (by omega)).trans (b r hr).2.2.2⟩, fun i hi => ⟨(gI_o (by omega)).trans (c i hi).1, (gI_o (by omega)).trans (c i hi).2.1, (gI_o (by omega)).trans (c i hi).2.2.1, (gI_o (by omega)).trans (c i hi).2.2.2⟩⟩
  show gI (pI s (t + 192) k (bI v)) (t + 192) r = bI (uf (tK T) k v r)
  by_cases q : r = k
  · subst q; rw [gI_s, uf_s]
  · rw [gI_k q, uf_k q]; exact (b r hr).2.2.1
theorem RC.sB (h : RC t s T) {k : Nat} {v : Option Nat} : RC t (pI s (t + 256) k (eo v)) (T.1, tC T, tP T, tK T, uf (tB T) k v, T.2.2.2.2.2) := by
  obtain ⟨⟨a1, a2, a3, a4, a5, a6, a7⟩, b, c⟩ := h
  refine ⟨⟨(gI_o (by omega)).trans a1, (gI_o (by omega)).trans a2, (gI_o (by omega)).trans a3, (gI_o (by omega)).trans a4, (gI_o (by omega)).trans a5, a6, a7⟩, fun r hr => ⟨(gI_o (by omega)).trans (b r hr).1, (gI_o (by omega)).trans (b r hr).2.1, (gI_o (by omega)).trans (b r hr).2.2.1, ?_⟩, fun i hi => ⟨(gI_o (by omega)).trans (c i hi).1, (gI_o (by omega)).trans (c i hi).2.1, (gI_o (by omega)).trans (c i hi).2.2.1, (gI_o (by omega)).trans (c i hi).2.2.2⟩⟩
  show gI (pI s (t + 256) k (eo v)) (t + 256) r = eo (uf (tB T) k v r)
  by_cases q : r = k
  · subst q; rw [gI_s, uf_s]
  · rw [gI_k q, uf_k q]; exact (b r hr).2.2.2
theorem RC.sI (h : RC t s T) {k : Nat} {v : Nat} : RC t (pI s (t + 384) k (nI v)) (T.1, tC T, tP T, tK T, tB T, uf (tI T) k v, T.2.2.2.2.2.2) := by
  obtain ⟨⟨a1, a2, a3, a4, a5, a6, a7⟩, b, c⟩ := h
  refine ⟨⟨(gI_o (by omega)).trans a1, (gI_o (by omega)).trans a2, (gI_o (by omega)).trans a3, (gI_o (by omega)).trans a4, (gI_o (by omega)).trans a5, a6, a7⟩, fun r hr => ⟨(gI_o (by omega)).trans (b r hr).1, (gI_o (by omega)).trans (b r hr).2.1, (gI_o (by omega)).trans (b r hr).2.2.1, (gI_o (by omega)).trans (b r hr).2.2.2⟩, fun i hi => ⟨?_, (gI_o (by omega)).trans (c i hi).2.1, (gI_o (by omega)).trans (c i hi).2.2.1, (gI_o (by omega)).trans (c i hi).2.2.2⟩⟩
  show gI (pI s (t + 384) k (nI v)) (t + 384) i = nI (uf (tI T) k v i)
  by_cases q : i = k
  · subst q; rw [gI_s, uf_s]
  · rw [gI_k q, uf_k q]; exact (c i hi).1
theorem RC.sW (h : RC t s T) {k : Nat} {v : Nat} : RC t (pI s (t + 448) k (nI v)) (T.1, tC T, tP T, tK T, tB T, tI T, uf (tW T) k v, T.2.2.2.2.2.2.2) := by
  obtain ⟨⟨a1, a2, a3, a4, a5, a6, a7⟩, b, c⟩ := h
  refine ⟨⟨(gI_o (by omega)).trans a1, (gI_o (by omega)).trans a2, (gI_o (by omega)).trans a3, (gI_o (by omega)).trans a4, (gI_o (by omega)).trans a5, a6, a7⟩, fun r hr => ⟨(gI_o (by omega)).trans (b r hr).1, (gI_o (by omega)).trans (b r hr).2.1, (gI_o (by omega)).trans (b r hr).2.2.1, (gI_o (by omega)).trans (b r hr).2.2.2⟩, fun i hi => ⟨(gI_o (by omega)).trans (c i hi).1, ?_, (gI_o (by omega)).trans (c i hi).2.2.1, (gI_o (by omega)).trans (c i hi).2.2.2⟩⟩
  show gI (pI s (t + 448) k (nI v)) (t + 448) i = nI (uf (tW T) k v i)
  by_cases q : i = k
  · subst q; rw [gI_s, uf_s]
  · rw [gI_k q, uf_k q]; exact (c i hi).2.1
theorem RC.sU (h : RC t s T) {k : Nat} {v : Nat} : RC t (pI s (t + 512) k (nI v)) (T.1, tC T, tP T, tK T, tB T, tI T, tW T, uf (tU T) k v, T.2.2.2.2.2.2.2.2) := by
  obtain ⟨⟨a1, a2, a3, a4, a5, a6, a7⟩, b, c⟩ := h
  refine ⟨⟨(gI_o (by omega)).trans a1, (gI_o (by omega)).trans a2, (gI_o (by omega)).trans a3, (gI_o (by omega)).trans a4, (gI_o (by omega)).trans a5, a6, a7⟩, fun r hr => ⟨(gI_o (by omega)).trans (b r hr).1, (gI_o (by omega)).trans (b r hr).2.1, (gI_o (by omega)).trans (b r hr).2.2.1, (gI_o (by omega)).trans (b r hr).2.2.2⟩, fun i hi => ⟨(gI_o (by omega)).trans (c i hi).1, (gI_o (by omega)).trans (c i hi).2.1, ?_, (gI_o (by omega)).trans (c i hi).2.2.2⟩⟩
  show gI (pI s (t + 512) k (nI v)) (t + 512) i = nI (uf (tU T) k v i)
  by_cases q : i = k
  · subst q; rw [gI_s, uf_s]
  · rw [gI_k q, uf_k q]; exact (c i hi).2.2.1
theorem RC.sH (h : RC t s T) {k : Nat} {v : Option Nat} : RC t (pI s (t + 576) k (eo v)) (T.1, tC T, tP T, tK T, tB T, tI T, tW T, tU T, uf (tH T) k v) := by
  obtain ⟨⟨a1, a2, a3, a4, a5, a6, a7⟩, b, c⟩ := h
  refine ⟨⟨(gI_o (by omega)).trans a1, (gI_o (by omega)).trans a2, (gI_o (by omega)).trans a3, (gI_o (by omega)).trans a4, (gI_o (by omega)).trans a5, a6, a7⟩, fun r hr => ⟨(gI_o (by omega)).trans (b r hr).1, (gI_o (by omega)).trans (b r hr).2.1, (gI_o (by omega)).trans (b r hr).2.2.1, (gI_o (by omega)).trans (b r hr).2.2.2⟩, fun i hi => ⟨(gI_o (by omega)).trans (c i hi).1, (gI_o (by omega)).trans (c i hi).2.1, (gI_o (by omega)).trans (c i hi).2.2.1, ?_⟩⟩
  show gI (pI s (t + 576) k (eo v)) (t + 576) i = eo (uf (tH T) k v i)
  by_cases q : i = k
  · subst q; rw [gI_s, uf_s]
  · rw [gI_k q, uf_k q]; exact (c i hi).2.2.2
theorem RC.sR (h : RC t s T) {v : Nat} : RC t (pI s t 4 (nI v)) ((v, T.1.2), T.2) := by
  obtain ⟨⟨a1, a2, a3, a4, a5, a6, a7⟩, b, c⟩ := h
  refine ⟨⟨gI_s, (gI_k (by decide)).trans a2, (gI_k (by decide)).trans a3, (gI_k (by decide)).trans a4, (gI_k (by decide)).trans a5, a6, a7⟩, fun r hr => ?_, fun k hk => ?_⟩
  · rw [gI_o (by omega), gI_o (by omega), gI_o (by omega), gI_o (by omega)]; exact b r hr
  · rw [gI_o (by omega), gI_o (by omega), gI_o (by omega), gI_o (by omega)]; exact c k hk
theorem RC.sX (h : RC t s T) {v : Nat} : RC t (pI s t 10 (nI v)) ((tR T, tN T, v, T.1.2.2.2), T.2) := by
  obtain ⟨⟨a1, a2, a3, a4, a5, a6, a7⟩, b, c⟩ := h
  refine ⟨⟨(gI_k (by decide)).trans a1, (gI_k (by decide)).trans a2, gI_s, (gI_k (by decide)).trans a4, (gI_k (by decide)).trans a5, a6, a7⟩, fun r hr => ?_, fun k hk => ?_⟩
  · rw [gI_o (by omega), gI_o (by omega), gI_o (by omega), gI_o (by omega)]; exact b r hr
  · rw [gI_o (by omega), gI_o (by omega), gI_o (by omega), gI_o (by omega)]; exact c k hk
theorem RC.sM (h : RC t s T) {v : Nat} : RC t (pI s t 11 (nI v)) ((tR T, tN T, tX T, v, T.1.2.2.2.2), T.2) := by
  obtain ⟨⟨a1, a2, a3, a4, a5, a6, a7⟩, b, c⟩ := h
  refine ⟨⟨(gI_k (by decide)).trans a1, (gI_k (by decide)).trans a2, (gI_k (by decide)).trans a3, gI_s, (gI_k (by decide)).trans a5, a6, a7⟩, fun r hr => ?_, fun k hk => ?_⟩
  · rw [gI_o (by omega), gI_o (by omega), gI_o (by omega), gI_o (by omega)]; exact b r hr
  · rw [gI_o (by omega), gI_o (by omega), gI_o (by omega), gI_o (by omega)]; exact c k hk
theorem RC.sV (h : RC t s T) {v : Nat} : RC t (pI s t 12 (nI v)) ((tR T, tN T, tX T, tM T, v, T.1.2.2.2.2.2), T.2) := by
  obtain ⟨⟨a1, a2, a3, a4, a5, a6, a7⟩, b, c⟩ := h
  refine ⟨⟨(gI_k (by decide)).trans a1, (gI_k (by decide)).trans a2, (gI_k (by decide)).trans a3, (gI_k (by decide)).trans a4, gI_s, a6, a7⟩, fun r hr => ?_, fun k hk => ?_⟩
  · rw [gI_o (by omega), gI_o (by omega), gI_o (by omega), gI_o (by omega)]; exact b r hr
  · rw [gI_o (by omega), gI_o (by omega), gI_o (by omega), gI_o (by omega)]; exact c k hk
theorem RC.sA (h : RC t s T) {v : Nat} : RC t (pJ s t 13 (lN v)) ((tR T, tN T, tX T, tM T, tV T, v, T.1.2.2.2.2.2.2), T.2) := by
  obtain ⟨⟨a1, a2, a3, a4, a5, a6, a7⟩, b, c⟩ := h
  exact ⟨⟨a1, a2, a3, a4, a5, gJ_s, (gJ_k (by decide)).trans a7⟩, b, c⟩
theorem RC.sL (h : RC t s T) {v : Nat} : RC t (pJ s t 14 (lN v)) ((tR T, tN T, tX T, tM T, tV T, tA T, v), T.2) := by
  obtain ⟨⟨a1, a2, a3, a4, a5, a6, a7⟩, b, c⟩ := h
  exact ⟨⟨a1, a2, a3, a4, a5, (gJ_k (by decide)).trans a6, gJ_s⟩, b, c⟩
/-- other heirs, where they are the same -/
theorem RC.eqH (h : RC t s T) {f : Nat → Option Nat} (hf : ∀ k, k < tN T → f k = tH T k) : RC t s (T.1, tC T, tP T, tK T, tB T, tI T, tW T, tU T, f) :=
  ⟨h.1, h.2.1, fun k hk => ⟨h.hI hk, h.hW hk, h.hU hk, by show _ = eo (f k); rw [hf k hk]; exact h.hH hk⟩⟩
/-! one slot copied -/
def cpS (s : Mem) (t a b c : Nat) : Mem := pI (pI (pI (pI s (t + 384) a (gI s (b + 384) c)) (t + 448) a (gI s (b + 448) c)) (t + 512) a (gI s (b + 512) c)) (t + 576) a (gI s (b + 576) c)
theorem c_copySlot {b a c : Nat} (ht : isTh t) (hb : isTh b) (ha : a < 24) (hc : c < 24) : m_X6_copySlot t (nI a) b (nI c) s = some (.inl (), cpS s t a b c) := by
  have ht1 := ht.1
  have ht2 := ht.2
  have hb1 := hb.1
  have hb2 := hb.2
  simp (disch := omega) only [m_X6_copySlot, nIb, nN, if_pos, ↓vl_i, gI_o]
  rfl
theorem cpS_o {a b c e j : Nat} (h1 : e ≠ t + 384) (h2 : e ≠ t + 448) (h3 : e ≠ t + 512) (h4 : e ≠ t + 576) : gI (cpS s t a b c) e j = gI s e j := by
  unfold cpS
  rw [gI_o h4, gI_o h3, gI_o h2, gI_o h1]
theorem cpS_I {a b c j : Nat} : gI (cpS s t a b c) (t + 384) j = if j = a then gI s (b + 384) c else gI s (t + 384) j := by
  unfold cpS
  rw [gI_o (by omega), gI_o (by omega), gI_o (by omega), gI_at]
theorem cpS_W {a b c j : Nat} : gI (cpS s t a b c) (t + 448) j = if j = a then gI s (b + 448) c else gI s (t + 448) j := by
  unfold cpS
  rw [gI_o (by omega), gI_o (by omega), gI_at, gI_o (by omega)]
theorem cpS_U {a b c j : Nat} : gI (cpS s t a b c) (t + 512) j = if j = a then gI s (b + 512) c else gI s (t + 512) j := by
  unfold cpS
  rw [gI_o (by omega), gI_at, gI_o (by omega), gI_o (by omega)]
theorem cpS_H {a b c j : Nat} : gI (cpS s t a b c) (t + 576) j = if j = a then gI s (b + 576) c else gI s (t + 576) j := by
  unfold cpS
  rw [gI_at, gI_o (by omega), gI_o (by omega), gI_o (by omega)]
theorem cpS_J {a b c e j : Nat} : gJ (cpS s t a b c) e j = gJ s e j := rfl
theorem cpS_ow {s0 : Mem} {a b c : Nat} (ht : isTh t) (h : Ow t s0 s) : Ow t s0 (cpS s t a b c) := by
  have ht1 := ht.1
  have ht2 := ht.2
  exact (((h.pI (by omega)).pI (by omega)).pI (by omega)).pI (by omega)
end
