/-! ===== the reference touches nothing but its own cells, makes nothing, throws nothing ===== -/
def Fq {α : Type} (σ : Mem) (r : Res α) : Prop := ∀ out, r = some out → (∃ v, out.1 = .inl v) ∧ out.2.2 = σ.2 ∧ ∀ c, c % 64 ≠ 8 → ∀ j, gI out.2 c j = gI σ c j
theorem fq_none {α : Type} {σ : Mem} : Fq σ (none : Res α) := fun _ h => nomatch h
theorem fq_some {α : Type} {σ : Mem} {v : α} : Fq σ (some (.inl v, σ)) := fun _ h => by cases h; exact ⟨⟨v, rfl⟩, rfl, fun _ _ _ => rfl⟩
theorem fq_if {α : Type} {σ : Mem} {c : Prop} {_ : Decidable c} {a b : Res α} (h1 : Fq σ a) (h2 : Fq σ b) : Fq σ (if c then a else b) := by split <;> assumption
theorem fq_bind {α β : Type} {σ : Mem} {x : Res β} {f : β → Mem → Res α} (h1 : Fq σ x) (h2 : ∀ v σ1, Fq σ1 (f v σ1)) : Fq σ (bindR x f) := by
  intro out h
  cases x with
  | none => cases h
  | some o =>
    obtain ⟨o, σ1⟩ := o
    have h3 := h1 _ rfl
    cases o with
    | inl v =>
      have h4 := h2 v σ1 out h
      exact ⟨h4.1, h4.2.1.trans h3.2.1, fun c hc j => (h4.2.2 c hc j).trans (h3.2.2 c hc j)⟩
    | inr E =>
      obtain ⟨⟨v, hv⟩, _⟩ := h3
      cases hv
theorem fq_bindP {α β : Type} {σ : Mem} {x : Option β} {f : β → Res α} (h2 : ∀ v, Fq σ (f v)) : Fq σ (bindP x f) := by
  cases x with
  | none => exact fq_none
  | some v => exact h2 v
theorem fq_lp {α β : Type} {sg : α → Mem} {body : (α → Res β) → α → Res β} (h : ∀ kf : α → Res β, (∀ a, Fq (sg a) (kf a)) → ∀ a, Fq (sg a) (body kf a)) : ∀ n a, Fq (sg a) (lp body n a)
  | 0, _ => fq_none
  | n + 1, a => h (lp body n) (fq_lp h n) a
theorem fq_vl {α : Type} {σ : Mem} {γ : Type} {x : γ} {f : γ → Res α} (h : ∀ y, Fq σ (f y)) : Fq σ (vl x f) := h x
theorem fq_pI (σ : Mem) (a k : Nat) (v : Int32) (h : a % 64 = 8) : (pI σ a k v).2 = σ.2 ∧ ∀ c, c % 64 ≠ 8 → ∀ j, gI (pI σ a k v) c j = gI σ c j :=
  ⟨rfl, fun c hc j => by
    show u2 σ.1 a k v c j = σ.1 c j
    unfold u2
    rw [if_neg]
    rintro ⟨rfl, _⟩
    exact hc h⟩
theorem fq_put {α : Type} {σ : Mem} {x : Mem} {f : Mem → Res α} (h : ∀ s1, Fq s1 (f s1)) (e : x.2 = σ.2 ∧ ∀ c, c % 64 ≠ 8 → ∀ j, gI x c j = gI σ c j := by exact fq_pI _ _ _ _ (by decide)) : Fq σ (vl x f) := by
  intro out q
  have h1 := h x out q
  exact ⟨h1.1, h1.2.1.trans e.1, fun c hc j => (h1.2.2 c hc j).trans (e.2 c hc j)⟩
theorem f_X8_fails (p0 : Int32) (s : Mem) : Fq s (m_X8_fails p0 s) := by
  unfold m_X8_fails
  refine fq_put (fun s1 => ?_)
  exact fq_some
theorem f_X8_copies_b2 (s : Mem) (kf2 : (Int32 × Mem) → Res Unit) (hm2 : ∀ a, Fq a.2 (kf2 a)) (w1 : Int32) : Fq s (m_X8_copies_b2 s kf2 w1 ) := by
  unfold m_X8_copies_b2
  refine fq_if ?_ ?_
  · skip
    exact fq_some
  · skip
    refine fq_if ?_ fq_none
    refine fq_if ?_ fq_none
    refine fq_put (fun s1 => ?_)
    refine fq_vl (fun y2 => ?_)
    exact hm2 (y2, s1)
theorem f_X8_copies (s : Mem) : Fq s (m_X8_copies s) := by
  unfold m_X8_copies
  exact fq_lp (sg := fun a => a.2) (fun kf hq a => f_X8_copies_b2 a.2 kf hq a.1) FUEL (0, s)
theorem f_X8_goesBack_b2 (s : Mem) (kf2 : (Int32 × Mem) → Res Unit) (hm2 : ∀ a, Fq a.2 (kf2 a)) (w1 : Int32) : Fq s (m_X8_goesBack_b2 s kf2 w1 ) := by
  unfold m_X8_goesBack_b2
  refine fq_if ?_ ?_
  · skip
    exact fq_some
  · skip
    refine fq_if ?_ fq_none
    refine fq_if ?_ fq_none
    refine fq_put (fun s1 => ?_)
    refine fq_vl (fun y2 => ?_)
    exact hm2 (y2, s1)
theorem f_X8_goesBack (s : Mem) : Fq s (m_X8_goesBack s) := by
  unfold m_X8_goesBack
  exact fq_lp (sg := fun a => a.2) (fun kf hq a => f_X8_goesBack_b2 a.2 kf hq a.1) FUEL (0, s)
theorem f_X8_keeps_b47 (x2 : Int32) (s : Mem) (kf47 : (Int32 × Mem) → Res Unit) (hm47 : ∀ a, Fq a.2 (kf47 a)) (w2 : Int32) : Fq s (m_X8_keeps_b47 x2 s kf47 w2 ) := by
  unfold m_X8_keeps_b47
  refine fq_if ?_ ?_
  · skip
    refine fq_put (fun s3 => ?_)
    exact fq_some
  · skip
    refine fq_if ?_ fq_none
    refine fq_if ?_ fq_none
    refine fq_put (fun s4 => ?_)
    refine fq_vl (fun y5 => ?_)
    exact hm47 (y5, s4)
theorem f_X8_keeps_j32 (s : Mem) : Fq s (m_X8_keeps_j32 s ) := by
  unfold m_X8_keeps_j32
  refine fq_vl (fun y1 => ?_)
  exact fq_lp (sg := fun a => a.2) (fun kf hq a => f_X8_keeps_b47 y1 a.2 kf hq a.1) FUEL (0, s)
theorem f_X8_keeps (s : Mem) : Fq s (m_X8_keeps s) := by
  unfold m_X8_keeps
  refine fq_if ?_ ?_
  · skip
    exact f_X8_keeps_j32 s 
  · skip
    refine fq_put (fun s6 => ?_)
    refine fq_put (fun s7 => ?_)
    exact f_X8_keeps_j32 s7 
theorem f_X8_remembers (s : Mem) : Fq s (m_X8_remembers s) := by
  unfold m_X8_remembers
  refine fq_bind (f_X8_copies s) (fun v1 s2 => ?_)
  refine fq_bind (f_X8_keeps s2) (fun v3 s4 => ?_)
  exact fq_some
theorem f_X8_puts (p0 : Int32) (p1 : Int32) (p2 : Int32) (s : Mem) : Fq s (m_X8_puts p0 p1 p2 s) := by
  unfold m_X8_puts
  refine fq_if ?_ fq_none
  refine fq_put (fun s1 => ?_)
  exact fq_some
theorem f_X8_sets (p0 : Int32) (p1 : Int32) (p2 : Int32) (s : Mem) : Fq s (m_X8_sets p0 p1 p2 s) := by
  unfold m_X8_sets
  refine fq_if ?_ fq_none
  refine fq_put (fun s1 => ?_)
  exact fq_some
theorem f_X8_addsRow (p0 : Int32) (s : Mem) : Fq s (m_X8_addsRow p0 s) := by
  unfold m_X8_addsRow
  refine fq_if ?_ fq_none
  refine fq_vl (fun y1 => ?_)
  refine fq_bind (f_X8_puts y1 0 p0 s) (fun v2 s3 => ?_)
  refine fq_bind (f_X8_puts y1 1 0 s3) (fun v4 s5 => ?_)
  refine fq_bind (f_X8_puts y1 2 0 s5) (fun v6 s7 => ?_)
  refine fq_if ?_ fq_none
  refine fq_if ?_ fq_none
  refine fq_put (fun s8 => ?_)
  exact fq_some
theorem f_X8_addRow (p0 : Int32) (s : Mem) : Fq s (m_X8_addRow p0 s) := by
  unfold m_X8_addRow
  refine fq_put (fun s1 => ?_)
  refine fq_bindP (fun v2 => ?_)
  refine fq_if ?_ ?_
  · skip
    refine fq_bind (f_X8_remembers s1) (fun v3 s4 => ?_)
    refine fq_bind (f_X8_addsRow p0 s4) (fun v5 s6 => ?_)
    exact fq_some
  · skip
    refine fq_bind (f_X8_fails v2 s1) (fun v7 s8 => ?_)
    exact fq_some
theorem f_X8_changesPhantoms (p0 : Int32) (p1 : Int32) (s : Mem) : Fq s (m_X8_changesPhantoms p0 p1 s) := by
  unfold m_X8_changesPhantoms
  refine fq_bindP (fun v1 => ?_)
  refine fq_bind (f_X8_puts p0 1 (v1 + p1) s) (fun v2 s3 => ?_)
  refine fq_bindP (fun v4 => ?_)
  exact fq_some
theorem f_X8_addPhantoms (p0 : Int32) (p1 : Int32) (s : Mem) : Fq s (m_X8_addPhantoms p0 p1 s) := by
  unfold m_X8_addPhantoms
  refine fq_put (fun s1 => ?_)
  refine fq_bindP (fun v2 => ?_)
  refine fq_if ?_ ?_
  · skip
    refine fq_bind (f_X8_remembers s1) (fun v3 s4 => ?_)
    refine fq_bind (f_X8_changesPhantoms p0 p1 s4) (fun v5 s6 => ?_)
    exact fq_some
  · skip
    refine fq_bind (f_X8_fails v2 s1) (fun v7 s8 => ?_)
    exact fq_some
theorem f_X8_removePhantoms (p0 : Int32) (p1 : Int32) (s : Mem) : Fq s (m_X8_removePhantoms p0 p1 s) := by
  unfold m_X8_removePhantoms
  refine fq_put (fun s1 => ?_)
  refine fq_bindP (fun v2 => ?_)
  refine fq_if ?_ ?_
  · skip
    refine fq_bind (f_X8_remembers s1) (fun v3 s4 => ?_)
    refine fq_bind (f_X8_changesPhantoms p0 (-p1) s4) (fun v5 s6 => ?_)
    exact fq_some
  · skip
    refine fq_bind (f_X8_fails v2 s1) (fun v7 s8 => ?_)
    exact fq_some
theorem f_X8_adds (p0 : Int32) (p1 : Int32) (s : Mem) : Fq s (m_X8_adds p0 p1 s) := by
  unfold m_X8_adds
  refine fq_if ?_ fq_none
  refine fq_vl (fun y1 => ?_)
  refine fq_if ?_ fq_none
  refine fq_vl (fun y2 => ?_)
  refine fq_bind (f_X8_sets y1 0 y2 s) (fun v3 s4 => ?_)
  refine fq_bind (f_X8_sets y1 1 p0 s4) (fun v5 s6 => ?_)
  refine fq_bind (f_X8_sets y1 2 p1 s6) (fun v7 s8 => ?_)
  refine fq_bind (f_X8_sets y1 3 0 s8) (fun v9 s10 => ?_)
  refine fq_if ?_ fq_none
  refine fq_if ?_ fq_none
  refine fq_put (fun s11 => ?_)
  refine fq_if ?_ fq_none
  refine fq_if ?_ fq_none
  refine fq_put (fun s12 => ?_)
  refine fq_if ?_ fq_none
  refine fq_if ?_ fq_none
  refine fq_put (fun s13 => ?_)
  exact fq_some
theorem f_X8_add (p0 : Int32) (p1 : Int32) (s : Mem) : Fq s (m_X8_add p0 p1 s) := by
  unfold m_X8_add
  refine fq_put (fun s1 => ?_)
  refine fq_bindP (fun v2 => ?_)
  refine fq_if ?_ ?_
  · skip
    refine fq_bind (f_X8_remembers s1) (fun v3 s4 => ?_)
    refine fq_bind (f_X8_adds p0 p1 s4) (fun v5 s6 => ?_)
    exact fq_some
  · skip
    refine fq_bind (f_X8_fails v2 s1) (fun v7 s8 => ?_)
    exact fq_some
theorem f_X8_moves (p0 : Int32) (p1 : Int32) (s : Mem) : Fq s (m_X8_moves p0 p1 s) := by
  unfold m_X8_moves
  refine fq_bindP (fun v1 => ?_)
  refine fq_bindP (fun v2 => ?_)
  refine fq_bind (f_X8_sets v1 1 p1 s) (fun v3 s4 => ?_)
  refine fq_if ?_ fq_none
  refine fq_if ?_ fq_none
  refine fq_put (fun s5 => ?_)
  exact fq_some
theorem f_X8_move (p0 : Int32) (p1 : Int32) (s : Mem) : Fq s (m_X8_move p0 p1 s) := by
  unfold m_X8_move
  refine fq_put (fun s1 => ?_)
  refine fq_bindP (fun v2 => ?_)
  refine fq_if ?_ ?_
  · skip
    refine fq_bind (f_X8_remembers s1) (fun v3 s4 => ?_)
    refine fq_bind (f_X8_moves p0 p1 s4) (fun v5 s6 => ?_)
    exact fq_some
  · skip
    refine fq_bind (f_X8_fails v2 s1) (fun v7 s8 => ?_)
    exact fq_some
theorem f_X8_inherits_j26 (x3 : Int32) (x4 : Int32) (x5 : Int32) (x6 : Int32) (s : Mem) : Fq s (m_X8_inherits_j26 x3 x4 x5 x6 s ) := by
  unfold m_X8_inherits_j26
  refine fq_bind (f_X8_sets x6 x5 x4 s) (fun v7 s8 => ?_)
  refine fq_if ?_ ?_
  · skip
    exact fq_some
  · skip
    exact fq_some
theorem f_X8_inherits (p0 : Int32) (p1 : Int32) (s : Mem) : Fq s (m_X8_inherits p0 p1 s) := by
  unfold m_X8_inherits
  refine fq_bindP (fun v1 => ?_)
  refine fq_vl (fun y2 => ?_)
  refine fq_if ?_ ?_
  · skip
    exact f_X8_inherits_j26 y2 y2 2 p0 s 
  · skip
    exact f_X8_inherits_j26 y2 999 2 p0 s 
theorem f_X8_removes_b149 (x16 : Int32) (x17 : Int32) (s : Mem) (kf149 : (Int32 × Mem) → Res Int32) (hm149 : ∀ a, Fq a.2 (kf149 a)) (w6 : Int32) : Fq s (m_X8_removes_b149 x16 x17 s kf149 w6 ) := by
  unfold m_X8_removes_b149
  refine fq_if ?_ ?_
  · skip
    refine fq_if ?_ fq_none
    refine fq_if ?_ fq_none
    refine fq_put (fun s18 => ?_)
    refine fq_if ?_ fq_none
    refine fq_if ?_ fq_none
    refine fq_put (fun s19 => ?_)
    exact fq_some
  · skip
    refine fq_if ?_ fq_none
    refine fq_put (fun s20 => ?_)
    refine fq_vl (fun y21 => ?_)
    exact hm149 (y21, s20)
theorem f_X8_removes_b117 (x14 : Int32) (x15 : Int32) (s : Mem) (kf117 : (Int32 × Mem) → Res Int32) (hm117 : ∀ a, Fq a.2 (kf117 a)) (w6 : Int32) : Fq s (m_X8_removes_b117 x14 x15 s kf117 w6 ) := by
  unfold m_X8_removes_b117
  refine fq_if ?_ ?_
  · skip
    exact fq_lp (sg := fun a => a.2) (fun kf hq a => f_X8_removes_b149 x14 x15 a.2 kf hq a.1) FUEL (0, s)
  · skip
    refine fq_if ?_ fq_none
    refine fq_if ?_ fq_none
    refine fq_put (fun s22 => ?_)
    refine fq_vl (fun y23 => ?_)
    exact hm117 (y23, s22)
theorem f_X8_removes_b48 (x7 : Int32) (x8 : Int32) (x9 : Int32) (x10 : Int32) (s : Mem) (kf48 : (Int32 × Mem) → Res Int32) (hm48 : ∀ a, Fq a.2 (kf48 a)) (w5 : Int32) : Fq s (m_X8_removes_b48 x7 x8 x9 x10 s kf48 w5 ) := by
  unfold m_X8_removes_b48
  refine fq_if ?_ fq_none
  refine fq_if ?_ ?_
  · skip
    refine fq_if ?_ fq_none
    refine fq_if ?_ fq_none
    refine fq_put (fun s11 => ?_)
    refine fq_if ?_ fq_none
    refine fq_vl (fun y12 => ?_)
    refine fq_vl (fun y13 => ?_)
    exact fq_lp (sg := fun a => a.2) (fun kf hq a => f_X8_removes_b117 x10 y12 a.2 kf hq a.1) FUEL (y13, s11)
  · skip
    refine fq_bindP (fun v24 => ?_)
    refine fq_if ?_ ?_
    · skip
      refine fq_vl (fun y25 => ?_)
      exact hm48 (y25, s)
    · skip
      refine fq_bind (f_X8_sets w5 3 x9 s) (fun v26 s27 => ?_)
      refine fq_vl (fun y28 => ?_)
      exact hm48 (y28, s27)
theorem f_X8_removes (p0 : Int32) (s : Mem) : Fq s (m_X8_removes p0 s) := by
  unfold m_X8_removes
  refine fq_bindP (fun v1 => ?_)
  refine fq_bindP (fun v2 => ?_)
  refine fq_if ?_ ?_
  · skip
    refine fq_bindP (fun v3 => ?_)
    refine fq_bindP (fun v4 => ?_)
    refine fq_bind (f_X8_inherits v3 v4 s) (fun v5 s6 => ?_)
    exact fq_lp (sg := fun a => a.2) (fun kf hq a => f_X8_removes_b48 p0 v1 v2 v5 a.2 kf hq a.1) FUEL (0, s6)
  · skip
    refine fq_bindP (fun v29 => ?_)
    exact fq_lp (sg := fun a => a.2) (fun kf hq a => f_X8_removes_b48 p0 v1 v2 v29 a.2 kf hq a.1) FUEL (0, s)
theorem f_X8_remove (p0 : Int32) (s : Mem) : Fq s (m_X8_remove p0 s) := by
  unfold m_X8_remove
  refine fq_put (fun s1 => ?_)
  refine fq_bindP (fun v2 => ?_)
  refine fq_if ?_ ?_
  · skip
    refine fq_bind (f_X8_remembers s1) (fun v3 s4 => ?_)
    refine fq_bind (f_X8_removes p0 s4) (fun v5 s6 => ?_)
    exact fq_some
  · skip
    refine fq_bind (f_X8_fails v2 s1) (fun v7 s8 => ?_)
    exact fq_some
theorem f_X8_setsHeir (p0 : Int32) (p1 : Int32) (s : Mem) : Fq s (m_X8_setsHeir p0 p1 s) := by
  unfold m_X8_setsHeir
  refine fq_bindP (fun v1 => ?_)
  refine fq_bindP (fun v2 => ?_)
  refine fq_vl (fun y3 => ?_)
  refine fq_bind (f_X8_sets v1 3 (p1 + 1) s) (fun v4 s5 => ?_)
  exact fq_some
theorem f_X8_setHeir (p0 : Int32) (p1 : Int32) (s : Mem) : Fq s (m_X8_setHeir p0 p1 s) := by
  unfold m_X8_setHeir
  refine fq_put (fun s1 => ?_)
  refine fq_bindP (fun v2 => ?_)
  refine fq_if ?_ ?_
  · skip
    refine fq_bind (f_X8_remembers s1) (fun v3 s4 => ?_)
    refine fq_bind (f_X8_setsHeir p0 p1 s4) (fun v5 s6 => ?_)
    exact fq_some
  · skip
    refine fq_bind (f_X8_fails v2 s1) (fun v7 s8 => ?_)
    exact fq_some
theorem f_X8_clearHeir (p0 : Int32) (s : Mem) : Fq s (m_X8_clearHeir p0 s) := by
  unfold m_X8_clearHeir
  refine fq_put (fun s1 => ?_)
  refine fq_bindP (fun v2 => ?_)
  refine fq_if ?_ ?_
  · skip
    refine fq_bind (f_X8_remembers s1) (fun v3 s4 => ?_)
    refine fq_bind (f_X8_setsHeir p0 (-1) s4) (fun v5 s6 => ?_)
    exact fq_some
  · skip
    refine fq_bind (f_X8_fails v2 s1) (fun v7 s8 => ?_)
    exact fq_some
theorem f_X8_locks (p0 : Int32) (p1 : Int32) (s : Mem) : Fq s (m_X8_locks p0 p1 s) := by
  unfold m_X8_locks
  refine fq_bind (f_X8_puts p0 2 p1 s) (fun v1 s2 => ?_)
  refine fq_bindP (fun v3 => ?_)
  exact fq_some
theorem f_X8_setsLock (p0 : Int32) (p1 : Int32) (s : Mem) : Fq s (m_X8_setsLock p0 p1 s) := by
  unfold m_X8_setsLock
  refine fq_put (fun s1 => ?_)
  refine fq_bindP (fun v2 => ?_)
  refine fq_if ?_ ?_
  · skip
    refine fq_bind (f_X8_remembers s1) (fun v3 s4 => ?_)
    refine fq_bind (f_X8_locks p0 p1 s4) (fun v5 s6 => ?_)
    exact fq_some
  · skip
    refine fq_bind (f_X8_fails v2 s1) (fun v7 s8 => ?_)
    exact fq_some
theorem f_X8_lock (p0 : Int32) (s : Mem) : Fq s (m_X8_lock p0 s) := by
  unfold m_X8_lock
  refine fq_bind (f_X8_setsLock p0 1 s) (fun v1 s2 => ?_)
  exact fq_some
theorem f_X8_unlock (p0 : Int32) (s : Mem) : Fq s (m_X8_unlock p0 s) := by
  unfold m_X8_unlock
  refine fq_bind (f_X8_setsLock p0 0 s) (fun v1 s2 => ?_)
  exact fq_some
theorem f_X8_names (p0 : Int32) (p1 : Int32) (s : Mem) : Fq s (m_X8_names p0 p1 s) := by
  unfold m_X8_names
  refine fq_if ?_ fq_none
  refine fq_vl (fun y1 => ?_)
  refine fq_if ?_ fq_none
  refine fq_put (fun s2 => ?_)
  exact fq_some
theorem f_X8_nameRow (p0 : Int32) (p1 : Int32) (s : Mem) : Fq s (m_X8_nameRow p0 p1 s) := by
  unfold m_X8_nameRow
  refine fq_put (fun s1 => ?_)
  refine fq_bindP (fun v2 => ?_)
  refine fq_if ?_ ?_
  · skip
    refine fq_bind (f_X8_remembers s1) (fun v3 s4 => ?_)
    refine fq_bind (f_X8_names p0 p1 s4) (fun v5 s6 => ?_)
    exact fq_some
  · skip
    refine fq_bind (f_X8_fails v2 s1) (fun v7 s8 => ?_)
    exact fq_some
theorem f_X8_spreads_b2 (x1 : Int32) (s : Mem) (kf2 : (Int32 × Mem) → Res Int32) (hm2 : ∀ a, Fq a.2 (kf2 a)) (w2 : Int32) : Fq s (m_X8_spreads_b2 x1 s kf2 w2 ) := by
  unfold m_X8_spreads_b2
  refine fq_bindP (fun v2 => ?_)
  refine fq_if ?_ ?_
  · skip
    exact fq_some
  · skip
    refine fq_bindP (fun v3 => ?_)
    refine fq_if ?_ ?_
    · skip
      exact fq_some
    · skip
      refine fq_bindP (fun v4 => ?_)
      refine fq_bindP (fun v5 => ?_)
      refine fq_bind (f_X8_sets v4 1 v5 s) (fun v6 s7 => ?_)
      refine fq_if ?_ fq_none
      refine fq_if ?_ fq_none
      refine fq_put (fun s8 => ?_)
      refine fq_vl (fun y9 => ?_)
      exact hm2 (y9, s8)
theorem f_X8_spreads (p0 : Int32) (s : Mem) : Fq s (m_X8_spreads p0 s) := by
  unfold m_X8_spreads
  exact fq_lp (sg := fun a => a.2) (fun kf hq a => f_X8_spreads_b2 p0 a.2 kf hq a.1) FUEL (0, s)
theorem f_X8_spread (p0 : Int32) (s : Mem) : Fq s (m_X8_spread p0 s) := by
  unfold m_X8_spread
  refine fq_put (fun s1 => ?_)
  refine fq_bindP (fun v2 => ?_)
  refine fq_if ?_ ?_
  · skip
    refine fq_bind (f_X8_remembers s1) (fun v3 s4 => ?_)
    refine fq_bind (f_X8_spreads p0 s4) (fun v5 s6 => ?_)
    exact fq_some
  · skip
    refine fq_bind (f_X8_fails v2 s1) (fun v7 s8 => ?_)
    exact fq_some
theorem f_X8_rowCount (s : Mem) : Fq s (m_X8_rowCount s) := by
  unfold m_X8_rowCount
  refine fq_put (fun s1 => ?_)
  refine fq_if ?_ fq_none
  exact fq_some
theorem f_X8_capacity (p0 : Int32) (s : Mem) : Fq s (m_X8_capacity p0 s) := by
  unfold m_X8_capacity
  refine fq_put (fun s1 => ?_)
  refine fq_bindP (fun v2 => ?_)
  refine fq_if ?_ ?_
  · skip
    refine fq_bind (f_X8_fails 1 s1) (fun v3 s4 => ?_)
    exact fq_some
  · skip
    refine fq_bindP (fun v5 => ?_)
    exact fq_some
theorem f_X8_phantoms (p0 : Int32) (s : Mem) : Fq s (m_X8_phantoms p0 s) := by
  unfold m_X8_phantoms
  refine fq_put (fun s1 => ?_)
  refine fq_bindP (fun v2 => ?_)
  refine fq_if ?_ ?_
  · skip
    refine fq_bind (f_X8_fails 1 s1) (fun v3 s4 => ?_)
    exact fq_some
  · skip
    refine fq_bindP (fun v5 => ?_)
    exact fq_some
theorem f_X8_occupancy (p0 : Int32) (s : Mem) : Fq s (m_X8_occupancy p0 s) := by
  unfold m_X8_occupancy
  refine fq_put (fun s1 => ?_)
  refine fq_bindP (fun v2 => ?_)
  refine fq_if ?_ ?_
  · skip
    refine fq_bind (f_X8_fails 1 s1) (fun v3 s4 => ?_)
    exact fq_some
  · skip
    refine fq_bindP (fun v5 => ?_)
    exact fq_some
theorem f_X8_freeSeats (p0 : Int32) (s : Mem) : Fq s (m_X8_freeSeats p0 s) := by
  unfold m_X8_freeSeats
  refine fq_put (fun s1 => ?_)
  refine fq_bindP (fun v2 => ?_)
  refine fq_if ?_ ?_
  · skip
    refine fq_bind (f_X8_fails 1 s1) (fun v3 s4 => ?_)
    exact fq_some
  · skip
    refine fq_bindP (fun v5 => ?_)
    exact fq_some
theorem f_X8_rowLoudness (p0 : Int32) (s : Mem) : Fq s (m_X8_rowLoudness p0 s) := by
  unfold m_X8_rowLoudness
  refine fq_put (fun s1 => ?_)
  refine fq_bindP (fun v2 => ?_)
  refine fq_if ?_ ?_
  · skip
    refine fq_bind (f_X8_fails 1 s1) (fun v3 s4 => ?_)
    exact fq_some
  · skip
    refine fq_bindP (fun v5 => ?_)
    exact fq_some
theorem f_X8_isLocked (p0 : Int32) (s : Mem) : Fq s (m_X8_isLocked p0 s) := by
  unfold m_X8_isLocked
  refine fq_put (fun s1 => ?_)
  refine fq_bindP (fun v2 => ?_)
  refine fq_if ?_ ?_
  · skip
    refine fq_bindP (fun v3 => ?_)
    exact fq_if fq_some fq_none
  · skip
    refine fq_bind (f_X8_fails 1 s1) (fun v4 s5 => ?_)
    refine fq_if ?_ ?_
    · skip
      exact fq_some
    · skip
      exact fq_some
theorem f_X8_isCrowded (p0 : Int32) (s : Mem) : Fq s (m_X8_isCrowded p0 s) := by
  unfold m_X8_isCrowded
  refine fq_put (fun s1 => ?_)
  refine fq_bindP (fun v2 => ?_)
  refine fq_if ?_ ?_
  · skip
    refine fq_bindP (fun v3 => ?_)
    exact fq_if fq_some fq_none
  · skip
    refine fq_bind (f_X8_fails 1 s1) (fun v4 s5 => ?_)
    refine fq_if ?_ ?_
    · skip
      exact fq_some
    · skip
      exact fq_some
theorem f_X8_idInRow (p0 : Int32) (p1 : Int32) (s : Mem) : Fq s (m_X8_idInRow p0 p1 s) := by
  unfold m_X8_idInRow
  refine fq_put (fun s1 => ?_)
  refine fq_bindP (fun v2 => ?_)
  refine fq_if ?_ ?_
  · skip
    refine fq_bindP (fun v3 => ?_)
    refine fq_if ?_ ?_
    · skip
      refine fq_bindP (fun v4 => ?_)
      exact fq_some
    · skip
      refine fq_bind (f_X8_fails 2 s1) (fun v5 s6 => ?_)
      exact fq_some
  · skip
    refine fq_bind (f_X8_fails 1 s1) (fun v7 s8 => ?_)
    exact fq_some
theorem f_X8_echoCount (s : Mem) : Fq s (m_X8_echoCount s) := by
  unfold m_X8_echoCount
  refine fq_put (fun s1 => ?_)
  refine fq_if ?_ fq_none
  exact fq_some
theorem f_X8_isActive (p0 : Int32) (s : Mem) : Fq s (m_X8_isActive p0 s) := by
  unfold m_X8_isActive
  refine fq_put (fun s1 => ?_)
  refine fq_bindP (fun v2 => ?_)
  refine fq_if ?_ ?_
  · skip
    exact fq_some
  · skip
    exact fq_some
theorem f_X8_asks (p0 : Int32) (p1 : Int32) (s : Mem) : Fq s (m_X8_asks p0 p1 s) := by
  unfold m_X8_asks
  refine fq_put (fun s1 => ?_)
  refine fq_bindP (fun v2 => ?_)
  refine fq_if ?_ ?_
  · skip
    refine fq_bindP (fun v3 => ?_)
    refine fq_bindP (fun v4 => ?_)
    exact fq_some
  · skip
    refine fq_bind (f_X8_fails 1 s1) (fun v5 s6 => ?_)
    exact fq_some
theorem f_X8_rowOf (p0 : Int32) (s : Mem) : Fq s (m_X8_rowOf p0 s) := by
  unfold m_X8_rowOf
  refine fq_bind (f_X8_asks p0 1 s) (fun v1 s2 => ?_)
  exact fq_some
theorem f_X8_loudness (p0 : Int32) (s : Mem) : Fq s (m_X8_loudness p0 s) := by
  unfold m_X8_loudness
  refine fq_bind (f_X8_asks p0 2 s) (fun v1 s2 => ?_)
  exact fq_some
theorem f_X8_positionInRow (p0 : Int32) (s : Mem) : Fq s (m_X8_positionInRow p0 s) := by
  unfold m_X8_positionInRow
  refine fq_put (fun s1 => ?_)
  refine fq_bindP (fun v2 => ?_)
  refine fq_if ?_ ?_
  · skip
    refine fq_bindP (fun v3 => ?_)
    refine fq_bindP (fun v4 => ?_)
    exact fq_some
  · skip
    refine fq_bind (f_X8_fails 1 s1) (fun v5 s6 => ?_)
    exact fq_some
theorem f_X8_hasHeir (p0 : Int32) (s : Mem) : Fq s (m_X8_hasHeir p0 s) := by
  unfold m_X8_hasHeir
  refine fq_bind (f_X8_asks p0 3 s) (fun v1 s2 => ?_)
  refine fq_if ?_ ?_
  · skip
    exact fq_some
  · skip
    exact fq_some
theorem f_X8_heir (p0 : Int32) (s : Mem) : Fq s (m_X8_heir p0 s) := by
  unfold m_X8_heir
  refine fq_bind (f_X8_asks p0 3 s) (fun v1 s2 => ?_)
  refine fq_if ?_ ?_
  · skip
    refine fq_if ?_ ?_
    · skip
      exact fq_some
    · skip
      refine fq_bind (f_X8_fails 2 s2) (fun v3 s4 => ?_)
      exact fq_some
  · skip
    exact fq_some
theorem f_X8_lastHeir (p0 : Int32) (s : Mem) : Fq s (m_X8_lastHeir p0 s) := by
  unfold m_X8_lastHeir
  refine fq_put (fun s1 => ?_)
  refine fq_bindP (fun v2 => ?_)
  refine fq_if ?_ ?_
  · skip
    refine fq_bindP (fun v3 => ?_)
    refine fq_bindP (fun v4 => ?_)
    refine fq_bindP (fun v5 => ?_)
    exact fq_some
  · skip
    refine fq_bind (f_X8_fails 1 s1) (fun v6 s7 => ?_)
    exact fq_some
theorem f_X8_lastHeirByDoubling (p0 : Int32) (s : Mem) : Fq s (m_X8_lastHeirByDoubling p0 s) := by
  unfold m_X8_lastHeirByDoubling
  refine fq_bind (f_X8_lastHeir p0 s) (fun v1 s2 => ?_)
  exact fq_some
theorem f_X8_stepsToLastHeir_b27 (s : Mem) (kf27 : (Int32 × Int32) → Res Int32) (hm27 : ∀ a, Fq s (kf27 a)) (w2 : Int32) (w3 : Int32) : Fq s (m_X8_stepsToLastHeir_b27 s kf27 w2 w3 ) := by
  unfold m_X8_stepsToLastHeir_b27
  refine fq_bindP (fun v4 => ?_)
  refine fq_if ?_ ?_
  · skip
    exact fq_some
  · skip
    refine fq_vl (fun y5 => ?_)
    refine fq_bindP (fun v6 => ?_)
    refine fq_bindP (fun v7 => ?_)
    exact hm27 (y5, v7)
theorem f_X8_stepsToLastHeir (p0 : Int32) (s : Mem) : Fq s (m_X8_stepsToLastHeir p0 s) := by
  unfold m_X8_stepsToLastHeir
  refine fq_put (fun s1 => ?_)
  refine fq_bindP (fun v2 => ?_)
  refine fq_if ?_ ?_
  · skip
    refine fq_bindP (fun v3 => ?_)
    exact fq_lp (sg := fun a => s1) (fun kf hq a => f_X8_stepsToLastHeir_b27 s1 kf hq a.1 a.2) FUEL (0, v3)
  · skip
    refine fq_bind (f_X8_fails 1 s1) (fun v8 s9 => ?_)
    exact fq_some
theorem f_X8_bequeathers_b23 (x3 : Int32) (s : Mem) (kf23 : (Int32 × Int32) → Res Int32) (hm23 : ∀ a, Fq s (kf23 a)) (w2 : Int32) (w3 : Int32) : Fq s (m_X8_bequeathers_b23 x3 s kf23 w2 w3 ) := by
  unfold m_X8_bequeathers_b23
  refine fq_if ?_ fq_none
  refine fq_if ?_ ?_
  · skip
    exact fq_some
  · skip
    refine fq_bindP (fun v4 => ?_)
    refine fq_if ?_ ?_
    · skip
      refine fq_vl (fun y5 => ?_)
      refine fq_vl (fun y6 => ?_)
      exact hm23 (y5, y6)
    · skip
      refine fq_vl (fun y7 => ?_)
      refine fq_vl (fun y8 => ?_)
      exact hm23 (y7, y8)
theorem f_X8_bequeathers (p0 : Int32) (s : Mem) : Fq s (m_X8_bequeathers p0 s) := by
  unfold m_X8_bequeathers
  refine fq_put (fun s1 => ?_)
  refine fq_bindP (fun v2 => ?_)
  refine fq_if ?_ ?_
  · skip
    exact fq_lp (sg := fun a => s1) (fun kf hq a => f_X8_bequeathers_b23 p0 s1 kf hq a.1 a.2) FUEL (0, 0)
  · skip
    refine fq_bind (f_X8_fails 1 s1) (fun v9 s10 => ?_)
    exact fq_some
theorem f_X8_countInRows_b43 (x6 : Int32) (s : Mem) (kf43 : (Int32 × Int32) → Res Int32) (hm43 : ∀ a, Fq s (kf43 a)) (w3 : Int32) (w4 : Int32) : Fq s (m_X8_countInRows_b43 x6 s kf43 w3 w4 ) := by
  unfold m_X8_countInRows_b43
  refine fq_if ?_ ?_
  · skip
    exact fq_some
  · skip
    refine fq_bindP (fun v7 => ?_)
    refine fq_vl (fun y8 => ?_)
    refine fq_vl (fun y9 => ?_)
    exact hm43 (y8, y9)
theorem f_X8_countInRows (p0 : Int32) (p1 : Int32) (s : Mem) : Fq s (m_X8_countInRows p0 p1 s) := by
  unfold m_X8_countInRows
  refine fq_put (fun s1 => ?_)
  refine fq_bindP (fun v2 => ?_)
  refine fq_if ?_ ?_
  · skip
    refine fq_bind (f_X8_fails 1 s1) (fun v3 s4 => ?_)
    exact fq_some
  · skip
    refine fq_bindP (fun v5 => ?_)
    refine fq_if ?_ ?_
    · skip
      refine fq_if ?_ ?_
      · skip
        exact fq_lp (sg := fun a => s1) (fun kf hq a => f_X8_countInRows_b43 p1 s1 kf hq a.1 a.2) FUEL (0, p0)
      · skip
        refine fq_bind (f_X8_fails 2 s1) (fun v10 s11 => ?_)
        exact fq_some
    · skip
      refine fq_bind (f_X8_fails 1 s1) (fun v12 s13 => ?_)
      exact fq_some
theorem f_X8_countInRowsByTree (p0 : Int32) (p1 : Int32) (s : Mem) : Fq s (m_X8_countInRowsByTree p0 p1 s) := by
  unfold m_X8_countInRowsByTree
  refine fq_bind (f_X8_countInRows p0 p1 s) (fun v1 s2 => ?_)
  exact fq_some
theorem f_X8_idByRank_b7 (x2 : Int32) (s : Mem) (kf7 : Int32 → Res Int32) (hm7 : ∀ a, Fq s (kf7 a)) (w2 : Int32) : Fq s (m_X8_idByRank_b7 x2 s kf7 w2 ) := by
  unfold m_X8_idByRank_b7
  refine fq_if ?_ fq_none
  refine fq_if ?_ ?_
  · skip
    refine fq_bind (f_X8_fails 1 s) (fun v3 s4 => ?_)
    exact fq_some
  · skip
    refine fq_bindP (fun v5 => ?_)
    refine fq_if ?_ ?_
    · skip
      refine fq_vl (fun y6 => ?_)
      exact hm7 y6
    · skip
      refine fq_bindP (fun v7 => ?_)
      exact fq_some
theorem f_X8_idByRank (p0 : Int32) (s : Mem) : Fq s (m_X8_idByRank p0 s) := by
  unfold m_X8_idByRank
  refine fq_put (fun s1 => ?_)
  exact fq_lp (sg := fun a => s1) (fun kf hq a => f_X8_idByRank_b7 p0 s1 kf hq a) FUEL 0
theorem f_X8_idByRankByTree (p0 : Int32) (s : Mem) : Fq s (m_X8_idByRankByTree p0 s) := by
  unfold m_X8_idByRankByTree
  refine fq_bind (f_X8_idByRank p0 s) (fun v1 s2 => ?_)
  exact fq_some
theorem f_X8_rank (p0 : Int32) (s : Mem) : Fq s (m_X8_rank p0 s) := by
  unfold m_X8_rank
  refine fq_put (fun s1 => ?_)
  refine fq_bindP (fun v2 => ?_)
  refine fq_if ?_ ?_
  · skip
    refine fq_bindP (fun v3 => ?_)
    refine fq_bindP (fun v4 => ?_)
    exact fq_some
  · skip
    refine fq_bind (f_X8_fails 1 s1) (fun v5 s6 => ?_)
    exact fq_some
theorem f_X8_loudest (s : Mem) : Fq s (m_X8_loudest s) := by
  unfold m_X8_loudest
  refine fq_put (fun s1 => ?_)
  refine fq_bindP (fun v2 => ?_)
  refine fq_if ?_ ?_
  · skip
    refine fq_bindP (fun v3 => ?_)
    exact fq_some
  · skip
    refine fq_bind (f_X8_fails 1 s1) (fun v4 s5 => ?_)
    exact fq_some
theorem f_X8_quietestRow_b24 (s : Mem) (kf24 : (Int32 × Int32) → Res Int32) (hm24 : ∀ a, Fq s (kf24 a)) (w1 : Int32) (w2 : Int32) : Fq s (m_X8_quietestRow_b24 s kf24 w1 w2 ) := by
  unfold m_X8_quietestRow_b24
  refine fq_if ?_ fq_none
  refine fq_if ?_ ?_
  · skip
    exact fq_some
  · skip
    refine fq_bindP (fun v2 => ?_)
    refine fq_bindP (fun v3 => ?_)
    refine fq_if ?_ ?_
    · skip
      refine fq_vl (fun y4 => ?_)
      exact hm24 (w1, y4)
    · skip
      refine fq_vl (fun y5 => ?_)
      exact hm24 (w2, y5)
theorem f_X8_quietestRow (s : Mem) : Fq s (m_X8_quietestRow s) := by
  unfold m_X8_quietestRow
  refine fq_put (fun s1 => ?_)
  refine fq_if ?_ fq_none
  refine fq_if ?_ ?_
  · skip
    exact fq_lp (sg := fun a => s1) (fun kf hq a => f_X8_quietestRow_b24 s1 kf hq a.1 a.2) FUEL (0, 1)
  · skip
    refine fq_bind (f_X8_fails 1 s1) (fun v6 s7 => ?_)
    exact fq_some
theorem f_X8_isNamed (p0 : Int32) (s : Mem) : Fq s (m_X8_isNamed p0 s) := by
  unfold m_X8_isNamed
  refine fq_put (fun s1 => ?_)
  refine fq_bindP (fun v2 => ?_)
  refine fq_if ?_ ?_
  · skip
    refine fq_if ?_ fq_none
    refine fq_if ?_ ?_
    · skip
      exact fq_some
    · skip
      exact fq_some
  · skip
    refine fq_bind (f_X8_fails 1 s1) (fun v3 s4 => ?_)
    refine fq_if ?_ ?_
    · skip
      exact fq_some
    · skip
      exact fq_some
theorem f_X8_namedRow (p0 : Int32) (s : Mem) : Fq s (m_X8_namedRow p0 s) := by
  unfold m_X8_namedRow
  refine fq_put (fun s1 => ?_)
  refine fq_bindP (fun v2 => ?_)
  refine fq_if ?_ ?_
  · skip
    refine fq_if ?_ fq_none
    refine fq_vl (fun y3 => ?_)
    refine fq_if ?_ ?_
    · skip
      exact fq_some
    · skip
      refine fq_bind (f_X8_fails 2 s1) (fun v4 s5 => ?_)
      exact fq_some
  · skip
    refine fq_bind (f_X8_fails 1 s1) (fun v6 s7 => ?_)
    exact fq_some
theorem f_X8_boxCount_b23 (x3 : Int32) (s : Mem) (kf23 : (Int32 × Int32) → Res Int32) (hm23 : ∀ a, Fq s (kf23 a)) (w2 : Int32) (w3 : Int32) : Fq s (m_X8_boxCount_b23 x3 s kf23 w2 w3 ) := by
  unfold m_X8_boxCount_b23
  refine fq_if ?_ ?_
  · skip
    exact fq_some
  · skip
    refine fq_if ?_ fq_none
    refine fq_if ?_ ?_
    · skip
      refine fq_vl (fun y4 => ?_)
      refine fq_vl (fun y5 => ?_)
      exact hm23 (y4, y5)
    · skip
      refine fq_vl (fun y6 => ?_)
      refine fq_vl (fun y7 => ?_)
      exact hm23 (y6, y7)
theorem f_X8_boxCount (p0 : Int32) (s : Mem) : Fq s (m_X8_boxCount p0 s) := by
  unfold m_X8_boxCount
  refine fq_put (fun s1 => ?_)
  refine fq_bindP (fun v2 => ?_)
  refine fq_if ?_ ?_
  · skip
    exact fq_lp (sg := fun a => s1) (fun kf hq a => f_X8_boxCount_b23 p0 s1 kf hq a.1 a.2) FUEL (0, 0)
  · skip
    refine fq_bind (f_X8_fails 1 s1) (fun v8 s9 => ?_)
    exact fq_some
theorem f_X8_moveCount (s : Mem) : Fq s (m_X8_moveCount s) := by
  unfold m_X8_moveCount
  refine fq_put (fun s1 => ?_)
  refine fq_if ?_ fq_none
  exact fq_some
theorem f_X8_removeCount (s : Mem) : Fq s (m_X8_removeCount s) := by
  unfold m_X8_removeCount
  refine fq_put (fun s1 => ?_)
  refine fq_if ?_ fq_none
  exact fq_some
theorem f_X8_addedLoudness (s : Mem) : Fq s (m_X8_addedLoudness s) := by
  unfold m_X8_addedLoudness
  refine fq_put (fun s1 => ?_)
  refine fq_if ?_ fq_none
  exact fq_some
theorem f_X8_lostLoudness (s : Mem) : Fq s (m_X8_lostLoudness s) := by
  unfold m_X8_lostLoudness
  refine fq_put (fun s1 => ?_)
  refine fq_if ?_ fq_none
  exact fq_some
theorem f_X8_activeLoudness (s : Mem) : Fq s (m_X8_activeLoudness s) := by
  unfold m_X8_activeLoudness
  refine fq_put (fun s1 => ?_)
  refine fq_bindP (fun v2 => ?_)
  exact fq_some
theorem f_X8_meanOccupancy (s : Mem) : Fq s (m_X8_meanOccupancy s) := by
  unfold m_X8_meanOccupancy
  refine fq_put (fun s1 => ?_)
  refine fq_if ?_ fq_none
  refine fq_if ?_ ?_
  · skip
    refine fq_if ?_ fq_none
    refine fq_if ?_ fq_none
    refine fq_if ?_ fq_none
    exact fq_some
  · skip
    refine fq_bind (f_X8_fails 1 s1) (fun v3 s4 => ?_)
    exact fq_some
theorem f_X8_realShare_b25 (s : Mem) (kf25 : (Int32 × Int32) → Res UInt32) (hm25 : ∀ a, Fq s (kf25 a)) (w1 : Int32) (w2 : Int32) : Fq s (m_X8_realShare_b25 s kf25 w1 w2 ) := by
  unfold m_X8_realShare_b25
  refine fq_if ?_ fq_none
  refine fq_if ?_ ?_
  · skip
    refine fq_if ?_ fq_none
    refine fq_if ?_ fq_none
    exact fq_some
  · skip
    refine fq_bindP (fun v3 => ?_)
    refine fq_vl (fun y4 => ?_)
    refine fq_vl (fun y5 => ?_)
    exact hm25 (y4, y5)
theorem f_X8_realShare (s : Mem) : Fq s (m_X8_realShare s) := by
  unfold m_X8_realShare
  refine fq_put (fun s1 => ?_)
  refine fq_if ?_ fq_none
  refine fq_if ?_ ?_
  · skip
    exact fq_lp (sg := fun a => s1) (fun kf hq a => f_X8_realShare_b25 s1 kf hq a.1 a.2) FUEL (0, 0)
  · skip
    refine fq_bind (f_X8_fails 1 s1) (fun v6 s7 => ?_)
    exact fq_some
theorem f_X8_isConsistent_b7 (s : Mem) (kf7 : Int32 → Res Int32) (hm7 : ∀ a, Fq s (kf7 a)) (w1 : Int32) : Fq s (m_X8_isConsistent_b7 s kf7 w1 ) := by
  unfold m_X8_isConsistent_b7
  refine fq_if ?_ fq_none
  refine fq_if ?_ ?_
  · skip
    refine fq_if ?_ fq_none
    refine fq_bindP (fun v2 => ?_)
    refine fq_if ?_ fq_none
    refine fq_if ?_ ?_
    · skip
      exact fq_some
    · skip
      exact fq_some
  · skip
    refine fq_bindP (fun v3 => ?_)
    refine fq_if ?_ ?_
    · skip
      refine fq_vl (fun y4 => ?_)
      exact hm7 y4
    · skip
      exact fq_some
theorem f_X8_isConsistent (s : Mem) : Fq s (m_X8_isConsistent s) := by
  unfold m_X8_isConsistent
  refine fq_put (fun s1 => ?_)
  exact fq_lp (sg := fun a => s1) (fun kf hq a => f_X8_isConsistent_b7 s1 kf hq a) FUEL 0
theorem f_X8_writes (p0 : Int32) (s : Mem) : Fq s (m_X8_writes p0 s) := by
  unfold m_X8_writes
  refine fq_if ?_ fq_none
  refine fq_put (fun s1 => ?_)
  refine fq_put (fun s2 => ?_)
  exact fq_some
theorem f_X8_writesNumber_b20 (x3 : Int32) (s : Mem) (kf20 : (Int32 × Mem) → Res Unit) (hm20 : ∀ a, Fq a.2 (kf20 a)) (w3 : Int32) : Fq s (m_X8_writesNumber_b20 x3 s kf20 w3 ) := by
  unfold m_X8_writesNumber_b20
  refine fq_if ?_ ?_
  · skip
    exact fq_some
  · skip
    refine fq_if ?_ fq_none
    refine fq_bind (f_X8_writes (48 + ((x3 / w3) - (x3 / w3) / 10 * 10)) s) (fun v5 s6 => ?_)
    refine fq_vl (fun y7 => ?_)
    exact hm20 (y7, s6)
theorem f_X8_writesNumber_b2 (x1 : Int32) (s : Mem) (kf2 : Int32 → Res Unit) (hm2 : ∀ a, Fq s (kf2 a)) (w2 : Int32) : Fq s (m_X8_writesNumber_b2 x1 s kf2 w2 ) := by
  unfold m_X8_writesNumber_b2
  refine fq_if ?_ fq_none
  refine fq_if ?_ ?_
  · skip
    exact fq_lp (sg := fun a => a.2) (fun kf hq a => f_X8_writesNumber_b20 x1 a.2 kf hq a.1) FUEL (w2, s)
  · skip
    refine fq_vl (fun y8 => ?_)
    exact hm2 y8
theorem f_X8_writesNumber (p0 : Int32) (s : Mem) : Fq s (m_X8_writesNumber p0 s) := by
  unfold m_X8_writesNumber
  exact fq_lp (sg := fun a => s) (fun kf hq a => f_X8_writesNumber_b2 p0 s kf hq a) FUEL 1
theorem f_X8_writesEcho (p0 : Int32) (s : Mem) : Fq s (m_X8_writesEcho p0 s) := by
  unfold m_X8_writesEcho
  refine fq_bind (f_X8_writes 32 s) (fun v1 s2 => ?_)
  refine fq_bindP (fun v3 => ?_)
  refine fq_bind (f_X8_writesNumber v3 s2) (fun v4 s5 => ?_)
  refine fq_bind (f_X8_writes 58 s5) (fun v6 s7 => ?_)
  refine fq_bindP (fun v8 => ?_)
  refine fq_bind (f_X8_writesNumber v8 s7) (fun v9 s10 => ?_)
  exact fq_some
theorem f_X8_formatRow_b107 (x21 : Int32) (s : Mem) (kf107 : (Int32 × Mem) → Res Int32) (hm107 : ∀ a, Fq a.2 (kf107 a)) (w2 : Int32) : Fq s (m_X8_formatRow_b107 x21 s kf107 w2 ) := by
  unfold m_X8_formatRow_b107
  refine fq_if ?_ fq_none
  refine fq_if ?_ ?_
  · skip
    exact fq_some
  · skip
    refine fq_bindP (fun v22 => ?_)
    refine fq_if ?_ ?_
    · skip
      refine fq_vl (fun y23 => ?_)
      exact hm107 (y23, s)
    · skip
      refine fq_bind (f_X8_writesEcho w2 s) (fun v24 s25 => ?_)
      refine fq_vl (fun y26 => ?_)
      exact hm107 (y26, s25)
theorem f_X8_formatRow_j85 (x17 : Int32) (s : Mem) : Fq s (m_X8_formatRow_j85 x17 s ) := by
  unfold m_X8_formatRow_j85
  refine fq_bind (f_X8_writes 93 s) (fun v18 s19 => ?_)
  refine fq_bindP (fun v20 => ?_)
  refine fq_if ?_ ?_
  · skip
    exact fq_lp (sg := fun a => a.2) (fun kf hq a => f_X8_formatRow_b107 x17 a.2 kf hq a.1) FUEL (0, s19)
  · skip
    refine fq_bind (f_X8_writes 33 s19) (fun v27 s28 => ?_)
    exact fq_lp (sg := fun a => a.2) (fun kf hq a => f_X8_formatRow_b107 x17 a.2 kf hq a.1) FUEL (0, s28)
theorem f_X8_formatRow (p0 : Int32) (s : Mem) : Fq s (m_X8_formatRow p0 s) := by
  unfold m_X8_formatRow
  refine fq_put (fun s1 => ?_)
  refine fq_bindP (fun v2 => ?_)
  refine fq_if ?_ ?_
  · skip
    refine fq_put (fun s3 => ?_)
    refine fq_bind (f_X8_writesNumber p0 s3) (fun v4 s5 => ?_)
    refine fq_bind (f_X8_writes 91 s5) (fun v6 s7 => ?_)
    refine fq_bindP (fun v8 => ?_)
    refine fq_bind (f_X8_writesNumber v8 s7) (fun v9 s10 => ?_)
    refine fq_bind (f_X8_writes 47 s10) (fun v11 s12 => ?_)
    refine fq_bindP (fun v13 => ?_)
    refine fq_bind (f_X8_writesNumber v13 s12) (fun v14 s15 => ?_)
    refine fq_bindP (fun v16 => ?_)
    refine fq_if ?_ ?_
    · skip
      exact f_X8_formatRow_j85 p0 s15 
    · skip
      refine fq_bind (f_X8_writes 43 s15) (fun v36 s37 => ?_)
      refine fq_bindP (fun v38 => ?_)
      refine fq_bind (f_X8_writesNumber v38 s37) (fun v39 s40 => ?_)
      exact f_X8_formatRow_j85 p0 s40 
  · skip
    refine fq_bind (f_X8_fails 1 s1) (fun v42 s43 => ?_)
    exact fq_some
theorem f_X8_formatEcho (p0 : Int32) (s : Mem) : Fq s (m_X8_formatEcho p0 s) := by
  unfold m_X8_formatEcho
  refine fq_put (fun s1 => ?_)
  refine fq_bindP (fun v2 => ?_)
  refine fq_if ?_ ?_
  · skip
    refine fq_put (fun s3 => ?_)
    refine fq_bind (f_X8_writes 35 s3) (fun v4 s5 => ?_)
    refine fq_bind (f_X8_writesNumber p0 s5) (fun v6 s7 => ?_)
    refine fq_bind (f_X8_writes 64 s7) (fun v8 s9 => ?_)
    refine fq_bindP (fun v10 => ?_)
    refine fq_bind (f_X8_writesNumber v10 s9) (fun v11 s12 => ?_)
    refine fq_bind (f_X8_writes 61 s12) (fun v13 s14 => ?_)
    refine fq_bindP (fun v15 => ?_)
    refine fq_bind (f_X8_writesNumber v15 s14) (fun v16 s17 => ?_)
    refine fq_bindP (fun v18 => ?_)
    refine fq_if ?_ ?_
    · skip
      exact fq_some
    · skip
      refine fq_bind (f_X8_writes 62 s17) (fun v19 s20 => ?_)
      refine fq_bindP (fun v21 => ?_)
      refine fq_bind (f_X8_writesNumber (v21 - 1) s20) (fun v22 s23 => ?_)
      exact fq_some
  · skip
    refine fq_bind (f_X8_fails 1 s1) (fun v24 s25 => ?_)
    exact fq_some
theorem f_X8_lineChar (p0 : Int32) (s : Mem) : Fq s (m_X8_lineChar p0 s) := by
  unfold m_X8_lineChar
  refine fq_put (fun s1 => ?_)
  refine fq_bindP (fun v2 => ?_)
  refine fq_if ?_ ?_
  · skip
    refine fq_bind (f_X8_fails 1 s1) (fun v3 s4 => ?_)
    exact fq_if fq_some fq_none
  · skip
    refine fq_if ?_ fq_none
    exact fq_if fq_some fq_none
theorem f_X8_append (p0 : Int32) (s : Mem) : Fq s (m_X8_append p0 s) := by
  unfold m_X8_append
  refine fq_put (fun s1 => ?_)
  refine fq_bindP (fun v2 => ?_)
  refine fq_if ?_ ?_
  · skip
    refine fq_if ?_ ?_
    · skip
      refine fq_if ?_ fq_none
      refine fq_put (fun s3 => ?_)
      refine fq_put (fun s4 => ?_)
      exact fq_some
    · skip
      refine fq_bind (f_X8_fails 2 s1) (fun v5 s6 => ?_)
      exact fq_some
  · skip
    refine fq_bind (f_X8_fails 1 s1) (fun v7 s8 => ?_)
    exact fq_some
theorem f_X8_reads (p0 : Int32) (s : Mem) : Fq s (m_X8_reads p0 s) := by
  unfold m_X8_reads
  refine fq_bindP (fun v1 => ?_)
  refine fq_if ?_ ?_
  · skip
    refine fq_put (fun s2 => ?_)
    exact fq_some
  · skip
    exact fq_some
theorem f_X8_readsDigit (p0 : Int32) (s : Mem) : Fq s (m_X8_readsDigit p0 s) := by
  unfold m_X8_readsDigit
  refine fq_bindP (fun v1 => ?_)
  refine fq_if ?_ ?_
  · skip
    refine fq_bindP (fun v2 => ?_)
    refine fq_if ?_ fq_none
    refine fq_put (fun s3 => ?_)
    refine fq_put (fun s4 => ?_)
    exact fq_some
  · skip
    exact fq_some
theorem f_X8_readsNumber_b12 (x3 : Int32) (s : Mem) (kf12 : (Int32 × Mem) → Res Int32) (hm12 : ∀ a, Fq a.2 (kf12 a)) (w2 : Int32) : Fq s (m_X8_readsNumber_b12 x3 s kf12 w2 ) := by
  unfold m_X8_readsNumber_b12
  refine fq_if ?_ ?_
  · skip
    exact fq_some
  · skip
    refine fq_bindP (fun v4 => ?_)
    refine fq_if ?_ ?_
    · skip
      exact fq_some
    · skip
      refine fq_if ?_ fq_none
      refine fq_bindP (fun v5 => ?_)
      refine fq_if ?_ fq_none
      refine fq_put (fun s6 => ?_)
      refine fq_put (fun s7 => ?_)
      refine fq_vl (fun y8 => ?_)
      exact hm12 (y8, s7)
theorem f_X8_readsNumber (p0 : Int32) (s : Mem) : Fq s (m_X8_readsNumber p0 s) := by
  unfold m_X8_readsNumber
  refine fq_bind (f_X8_readsDigit p0 s) (fun v1 s2 => ?_)
  refine fq_if ?_ ?_
  · skip
    exact fq_lp (sg := fun a => a.2) (fun kf hq a => f_X8_readsNumber_b12 p0 a.2 kf hq a.1) FUEL (0, s2)
  · skip
    exact fq_some
theorem f_X8_readsR (s : Mem) : Fq s (m_X8_readsR s) := by
  unfold m_X8_readsR
  refine fq_bind (f_X8_reads 111 s) (fun v1 s2 => ?_)
  refine fq_if ?_ ?_
  · skip
    refine fq_put (fun s3 => ?_)
    refine fq_bind (f_X8_reads 101 s3) (fun v4 s5 => ?_)
    refine fq_if ?_ ?_
    · skip
      exact fq_some
    · skip
      refine fq_bind (f_X8_reads 109 s5) (fun v6 s7 => ?_)
      refine fq_if ?_ ?_
      · skip
        exact fq_some
      · skip
        refine fq_bind (f_X8_reads 111 s7) (fun v8 s9 => ?_)
        refine fq_if ?_ ?_
        · skip
          exact fq_some
        · skip
          refine fq_bind (f_X8_reads 118 s9) (fun v10 s11 => ?_)
          refine fq_if ?_ ?_
          · skip
            exact fq_some
          · skip
            refine fq_bind (f_X8_reads 101 s11) (fun v12 s13 => ?_)
            refine fq_if ?_ ?_
            · skip
              exact fq_some
            · skip
              refine fq_bind (f_X8_reads 32 s13) (fun v14 s15 => ?_)
              refine fq_if ?_ ?_
              · skip
                exact fq_some
              · skip
                refine fq_bind (f_X8_readsNumber 0 s15) (fun v16 s17 => ?_)
                refine fq_if ?_ ?_
                · skip
                  exact fq_some
                · skip
                  exact fq_some
  · skip
    refine fq_bind (f_X8_reads 119 s2) (fun v18 s19 => ?_)
    refine fq_if ?_ ?_
    · skip
      exact fq_some
    · skip
      refine fq_bind (f_X8_reads 32 s19) (fun v20 s21 => ?_)
      refine fq_if ?_ ?_
      · skip
        exact fq_some
      · skip
        refine fq_bind (f_X8_readsNumber 0 s21) (fun v22 s23 => ?_)
        refine fq_if ?_ ?_
        · skip
          exact fq_some
        · skip
          exact fq_some
theorem f_X8_readsD (s : Mem) : Fq s (m_X8_readsD s) := by
  unfold m_X8_readsD
  refine fq_bind (f_X8_reads 105 s) (fun v1 s2 => ?_)
  refine fq_if ?_ ?_
  · skip
    exact fq_some
  · skip
    refine fq_bind (f_X8_reads 115 s2) (fun v3 s4 => ?_)
    refine fq_if ?_ ?_
    · skip
      refine fq_bind (f_X8_reads 109 s4) (fun v5 s6 => ?_)
      refine fq_if ?_ ?_
      · skip
        refine fq_put (fun s7 => ?_)
        refine fq_bind (f_X8_reads 111 s7) (fun v8 s9 => ?_)
        refine fq_if ?_ ?_
        · skip
          exact fq_some
        · skip
          refine fq_bind (f_X8_reads 119 s9) (fun v10 s11 => ?_)
          refine fq_if ?_ ?_
          · skip
            exact fq_some
          · skip
            refine fq_bind (f_X8_reads 110 s11) (fun v12 s13 => ?_)
            refine fq_if ?_ ?_
            · skip
              exact fq_some
            · skip
              refine fq_bind (f_X8_reads 32 s13) (fun v14 s15 => ?_)
              refine fq_if ?_ ?_
              · skip
                exact fq_some
              · skip
                refine fq_bind (f_X8_readsNumber 0 s15) (fun v16 s17 => ?_)
                refine fq_if ?_ ?_
                · skip
                  exact fq_some
                · skip
                  exact fq_some
      · skip
        refine fq_bind (f_X8_reads 105 s6) (fun v18 s19 => ?_)
        refine fq_if ?_ ?_
        · skip
          exact fq_some
        · skip
          refine fq_bind (f_X8_reads 115 s19) (fun v20 s21 => ?_)
          refine fq_if ?_ ?_
          · skip
            exact fq_some
          · skip
            refine fq_bind (f_X8_reads 115 s21) (fun v22 s23 => ?_)
            refine fq_if ?_ ?_
            · skip
              exact fq_some
            · skip
              refine fq_bind (f_X8_reads 32 s23) (fun v24 s25 => ?_)
              refine fq_if ?_ ?_
              · skip
                exact fq_some
              · skip
                refine fq_bind (f_X8_readsDigit 0 s25) (fun v26 s27 => ?_)
                refine fq_if ?_ ?_
                · skip
                  exact fq_some
                · skip
                  refine fq_bind (f_X8_reads 32 s27) (fun v28 s29 => ?_)
                  refine fq_if ?_ ?_
                  · skip
                    exact fq_some
                  · skip
                    refine fq_bind (f_X8_readsDigit 1 s29) (fun v30 s31 => ?_)
                    refine fq_if ?_ ?_
                    · skip
                      exact fq_some
                    · skip
                      exact fq_some
    · skip
      exact fq_some
theorem f_X8_readsPhantoms (s : Mem) : Fq s (m_X8_readsPhantoms s) := by
  unfold m_X8_readsPhantoms
  refine fq_bind (f_X8_reads 104 s) (fun v1 s2 => ?_)
  refine fq_if ?_ ?_
  · skip
    exact fq_some
  · skip
    refine fq_bind (f_X8_reads 97 s2) (fun v3 s4 => ?_)
    refine fq_if ?_ ?_
    · skip
      exact fq_some
    · skip
      refine fq_bind (f_X8_reads 110 s4) (fun v5 s6 => ?_)
      refine fq_if ?_ ?_
      · skip
        exact fq_some
      · skip
        refine fq_bind (f_X8_reads 116 s6) (fun v7 s8 => ?_)
        refine fq_if ?_ ?_
        · skip
          exact fq_some
        · skip
          refine fq_bind (f_X8_reads 111 s8) (fun v9 s10 => ?_)
          refine fq_if ?_ ?_
          · skip
            exact fq_some
          · skip
            refine fq_bind (f_X8_reads 109 s10) (fun v11 s12 => ?_)
            refine fq_if ?_ ?_
            · skip
              exact fq_some
            · skip
              refine fq_bind (f_X8_reads 115 s12) (fun v13 s14 => ?_)
              refine fq_if ?_ ?_
              · skip
                refine fq_bind (f_X8_reads 32 s14) (fun v15 s16 => ?_)
                refine fq_if ?_ ?_
                · skip
                  exact fq_some
                · skip
                  refine fq_bind (f_X8_readsDigit 0 s16) (fun v17 s18 => ?_)
                  refine fq_if ?_ ?_
                  · skip
                    exact fq_some
                  · skip
                    refine fq_bind (f_X8_reads 32 s18) (fun v19 s20 => ?_)
                    refine fq_if ?_ ?_
                    · skip
                      exact fq_some
                    · skip
                      refine fq_bind (f_X8_readsDigit 1 s20) (fun v21 s22 => ?_)
                      refine fq_if ?_ ?_
                      · skip
                        exact fq_some
                      · skip
                        exact fq_some
              · skip
                exact fq_some
theorem f_X8_readsBox (s : Mem) : Fq s (m_X8_readsBox s) := by
  unfold m_X8_readsBox
  refine fq_bind (f_X8_reads 111 s) (fun v1 s2 => ?_)
  refine fq_if ?_ ?_
  · skip
    exact fq_some
  · skip
    refine fq_bind (f_X8_reads 120 s2) (fun v3 s4 => ?_)
    refine fq_if ?_ ?_
    · skip
      exact fq_some
    · skip
      refine fq_bind (f_X8_reads 32 s4) (fun v5 s6 => ?_)
      refine fq_if ?_ ?_
      · skip
        refine fq_bindP (fun v7 => ?_)
        refine fq_if ?_ fq_none
        refine fq_put (fun s8 => ?_)
        refine fq_bindP (fun v9 => ?_)
        refine fq_bindP (fun v10 => ?_)
        refine fq_if ?_ ?_
        · skip
          refine fq_put (fun s11 => ?_)
          refine fq_bind (f_X8_reads 32 s11) (fun v12 s13 => ?_)
          refine fq_if ?_ ?_
          · skip
            exact fq_some
          · skip
            refine fq_bind (f_X8_readsDigit 1 s13) (fun v14 s15 => ?_)
            refine fq_if ?_ ?_
            · skip
              exact fq_some
            · skip
              exact fq_some
        · skip
          exact fq_some
      · skip
        exact fq_some
theorem f_X8_readsLock (s : Mem) : Fq s (m_X8_readsLock s) := by
  unfold m_X8_readsLock
  refine fq_bind (f_X8_reads 111 s) (fun v1 s2 => ?_)
  refine fq_if ?_ ?_
  · skip
    exact fq_some
  · skip
    refine fq_bind (f_X8_reads 99 s2) (fun v3 s4 => ?_)
    refine fq_if ?_ ?_
    · skip
      exact fq_some
    · skip
      refine fq_bind (f_X8_reads 107 s4) (fun v5 s6 => ?_)
      refine fq_if ?_ ?_
      · skip
        exact fq_some
      · skip
        refine fq_bind (f_X8_reads 32 s6) (fun v7 s8 => ?_)
        refine fq_if ?_ ?_
        · skip
          exact fq_some
        · skip
          refine fq_bind (f_X8_readsDigit 0 s8) (fun v9 s10 => ?_)
          refine fq_if ?_ ?_
          · skip
            exact fq_some
          · skip
            exact fq_some
theorem f_X8_readsSpread (s : Mem) : Fq s (m_X8_readsSpread s) := by
  unfold m_X8_readsSpread
  refine fq_bind (f_X8_reads 112 s) (fun v1 s2 => ?_)
  refine fq_if ?_ ?_
  · skip
    exact fq_some
  · skip
    refine fq_bind (f_X8_reads 114 s2) (fun v3 s4 => ?_)
    refine fq_if ?_ ?_
    · skip
      exact fq_some
    · skip
      refine fq_bind (f_X8_reads 101 s4) (fun v5 s6 => ?_)
      refine fq_if ?_ ?_
      · skip
        exact fq_some
      · skip
        refine fq_bind (f_X8_reads 97 s6) (fun v7 s8 => ?_)
        refine fq_if ?_ ?_
        · skip
          exact fq_some
        · skip
          refine fq_bind (f_X8_reads 100 s8) (fun v9 s10 => ?_)
          refine fq_if ?_ ?_
          · skip
            exact fq_some
          · skip
            refine fq_bind (f_X8_reads 32 s10) (fun v11 s12 => ?_)
            refine fq_if ?_ ?_
            · skip
              exact fq_some
            · skip
              refine fq_bind (f_X8_readsDigit 0 s12) (fun v13 s14 => ?_)
              refine fq_if ?_ ?_
              · skip
                exact fq_some
              · skip
                exact fq_some
theorem f_X8_readsCommand (s : Mem) : Fq s (m_X8_readsCommand s) := by
  unfold m_X8_readsCommand
  refine fq_bindP (fun v1 => ?_)
  refine fq_put (fun s2 => ?_)
  refine fq_bind (f_X8_reads 114 s2) (fun v3 s4 => ?_)
  refine fq_if ?_ ?_
  · skip
    refine fq_bind (f_X8_reads 112 s4) (fun v5 s6 => ?_)
    refine fq_if ?_ ?_
    · skip
      refine fq_bind (f_X8_reads 100 s6) (fun v7 s8 => ?_)
      refine fq_if ?_ ?_
      · skip
        refine fq_bind (f_X8_reads 101 s8) (fun v9 s10 => ?_)
        refine fq_if ?_ ?_
        · skip
          refine fq_bind (f_X8_reads 109 s10) (fun v11 s12 => ?_)
          refine fq_if ?_ ?_
          · skip
            refine fq_bind (f_X8_reads 104 s12) (fun v13 s14 => ?_)
            refine fq_if ?_ ?_
            · skip
              refine fq_bind (f_X8_reads 108 s14) (fun v15 s16 => ?_)
              refine fq_if ?_ ?_
              · skip
                refine fq_bind (f_X8_reads 117 s16) (fun v17 s18 => ?_)
                refine fq_if ?_ ?_
                · skip
                  refine fq_bind (f_X8_reads 98 s18) (fun v19 s20 => ?_)
                  refine fq_if ?_ ?_
                  · skip
                    refine fq_bind (f_X8_reads 115 s20) (fun v21 s22 => ?_)
                    refine fq_if ?_ ?_
                    · skip
                      exact fq_some
                    · skip
                      refine fq_bind (f_X8_readsSpread s22) (fun v23 s24 => ?_)
                      refine fq_if ?_ ?_
                      · skip
                        exact fq_some
                      · skip
                        exact fq_some
                  · skip
                    refine fq_bind (f_X8_readsBox s20) (fun v25 s26 => ?_)
                    exact fq_if fq_some fq_none
                · skip
                  refine fq_bind (f_X8_reads 110 s18) (fun v27 s28 => ?_)
                  refine fq_if ?_ ?_
                  · skip
                    exact fq_some
                  · skip
                    refine fq_bind (f_X8_reads 108 s28) (fun v29 s30 => ?_)
                    refine fq_if ?_ ?_
                    · skip
                      exact fq_some
                    · skip
                      refine fq_bind (f_X8_readsLock s30) (fun v31 s32 => ?_)
                      refine fq_if ?_ ?_
                      · skip
                        exact fq_some
                      · skip
                        exact fq_some
              · skip
                refine fq_bind (f_X8_readsLock s16) (fun v33 s34 => ?_)
                exact fq_if fq_some fq_none
            · skip
              refine fq_bind (f_X8_reads 101 s14) (fun v35 s36 => ?_)
              refine fq_if ?_ ?_
              · skip
                exact fq_some
              · skip
                refine fq_bind (f_X8_reads 105 s36) (fun v37 s38 => ?_)
                refine fq_if ?_ ?_
                · skip
                  exact fq_some
                · skip
                  refine fq_bind (f_X8_reads 114 s38) (fun v39 s40 => ?_)
                  refine fq_if ?_ ?_
                  · skip
                    exact fq_some
                  · skip
                    refine fq_bind (f_X8_reads 32 s40) (fun v41 s42 => ?_)
                    refine fq_if ?_ ?_
                    · skip
                      exact fq_some
                    · skip
                      refine fq_bind (f_X8_readsNumber 0 s42) (fun v43 s44 => ?_)
                      refine fq_if ?_ ?_
                      · skip
                        exact fq_some
                      · skip
                        refine fq_bind (f_X8_reads 32 s44) (fun v45 s46 => ?_)
                        refine fq_if ?_ ?_
                        · skip
                          exact fq_some
                        · skip
                          refine fq_bind (f_X8_readsNumber 1 s46) (fun v47 s48 => ?_)
                          refine fq_if ?_ ?_
                          · skip
                            exact fq_some
                          · skip
                            exact fq_some
          · skip
            refine fq_bind (f_X8_reads 111 s12) (fun v49 s50 => ?_)
            refine fq_if ?_ ?_
            · skip
              exact fq_some
            · skip
              refine fq_bind (f_X8_reads 118 s50) (fun v51 s52 => ?_)
              refine fq_if ?_ ?_
              · skip
                exact fq_some
              · skip
                refine fq_bind (f_X8_reads 101 s52) (fun v53 s54 => ?_)
                refine fq_if ?_ ?_
                · skip
                  exact fq_some
                · skip
                  refine fq_bind (f_X8_reads 32 s54) (fun v55 s56 => ?_)
                  refine fq_if ?_ ?_
                  · skip
                    exact fq_some
                  · skip
                    refine fq_bind (f_X8_readsNumber 0 s56) (fun v57 s58 => ?_)
                    refine fq_if ?_ ?_
                    · skip
                      exact fq_some
                    · skip
                      refine fq_bind (f_X8_reads 32 s58) (fun v59 s60 => ?_)
                      refine fq_if ?_ ?_
                      · skip
                        exact fq_some
                      · skip
                        refine fq_bind (f_X8_readsDigit 1 s60) (fun v61 s62 => ?_)
                        refine fq_if ?_ ?_
                        · skip
                          exact fq_some
                        · skip
                          exact fq_some
        · skip
          refine fq_bind (f_X8_reads 99 s10) (fun v63 s64 => ?_)
          refine fq_if ?_ ?_
          · skip
            exact fq_some
          · skip
            refine fq_bind (f_X8_reads 104 s64) (fun v65 s66 => ?_)
            refine fq_if ?_ ?_
            · skip
              exact fq_some
            · skip
              refine fq_bind (f_X8_reads 111 s66) (fun v67 s68 => ?_)
              refine fq_if ?_ ?_
              · skip
                exact fq_some
              · skip
                refine fq_bind (f_X8_reads 32 s68) (fun v69 s70 => ?_)
                refine fq_if ?_ ?_
                · skip
                  exact fq_some
                · skip
                  refine fq_bind (f_X8_readsDigit 0 s70) (fun v71 s72 => ?_)
                  refine fq_if ?_ ?_
                  · skip
                    exact fq_some
                  · skip
                    refine fq_bind (f_X8_reads 32 s72) (fun v73 s74 => ?_)
                    refine fq_if ?_ ?_
                    · skip
                      exact fq_some
                    · skip
                      refine fq_bind (f_X8_readsNumber 1 s74) (fun v75 s76 => ?_)
                      refine fq_if ?_ ?_
                      · skip
                        exact fq_some
                      · skip
                        exact fq_some
      · skip
        refine fq_bind (f_X8_readsD s8) (fun v77 s78 => ?_)
        exact fq_if fq_some fq_none
    · skip
      refine fq_bind (f_X8_readsPhantoms s6) (fun v79 s80 => ?_)
      exact fq_if fq_some fq_none
  · skip
    refine fq_bind (f_X8_readsR s4) (fun v81 s82 => ?_)
    exact fq_if fq_some fq_none
theorem f_X8_readsAll_b7 (s : Mem) (kf7 : (Int32 × Mem) → Res Int32) (hm7 : ∀ a, Fq a.2 (kf7 a)) (w1 : Int32) : Fq s (m_X8_readsAll_b7 s kf7 w1 ) := by
  unfold m_X8_readsAll_b7
  refine fq_if ?_ ?_
  · skip
    refine fq_if ?_ ?_
    · skip
      exact fq_some
    · skip
      exact fq_some
  · skip
    refine fq_bind (f_X8_readsCommand s) (fun v2 s3 => ?_)
    refine fq_if ?_ ?_
    · skip
      refine fq_bind (f_X8_reads 59 s3) (fun v4 s5 => ?_)
      exact hm7 (v4, s5)
    · skip
      exact fq_some
theorem f_X8_readsAll (s : Mem) : Fq s (m_X8_readsAll s) := by
  unfold m_X8_readsAll
  refine fq_put (fun s1 => ?_)
  exact fq_lp (sg := fun a => a.2) (fun kf hq a => f_X8_readsAll_b7 a.2 kf hq a.1) FUEL (1, s1)
theorem f_X8_doesNow (s : Mem) : Fq s (m_X8_doesNow s) := by
  unfold m_X8_doesNow
  refine fq_if ?_ fq_none
  refine fq_vl (fun y1 => ?_)
  refine fq_if ?_ fq_none
  refine fq_vl (fun y2 => ?_)
  refine fq_if ?_ ?_
  · skip
    refine fq_bind (f_X8_names y1 y2 s) (fun v4 s5 => ?_)
    exact fq_some
  · skip
    refine fq_if ?_ ?_
    · skip
      refine fq_bind (f_X8_changesPhantoms y1 (-y2) s) (fun v7 s8 => ?_)
      exact fq_some
    · skip
      refine fq_if ?_ ?_
      · skip
        refine fq_bind (f_X8_adds y1 y2 s) (fun v10 s11 => ?_)
        exact fq_some
      · skip
        refine fq_if ?_ ?_
        · skip
          refine fq_bind (f_X8_setsHeir y1 y2 s) (fun v13 s14 => ?_)
          exact fq_some
        · skip
          refine fq_if ?_ ?_
          · skip
            refine fq_bind (f_X8_locks y1 1 s) (fun v16 s17 => ?_)
            exact fq_some
          · skip
            refine fq_if ?_ ?_
            · skip
              refine fq_bind (f_X8_moves y1 y2 s) (fun v19 s20 => ?_)
              exact fq_some
            · skip
              refine fq_if ?_ ?_
              · skip
                refine fq_bind (f_X8_setsHeir y1 (-1) s) (fun v22 s23 => ?_)
                exact fq_some
              · skip
                refine fq_if ?_ ?_
                · skip
                  refine fq_bind (f_X8_changesPhantoms y1 y2 s) (fun v25 s26 => ?_)
                  exact fq_some
                · skip
                  refine fq_if ?_ ?_
                  · skip
                    refine fq_bind (f_X8_addsRow y1 s) (fun v28 s29 => ?_)
                    exact fq_some
                  · skip
                    refine fq_if ?_ ?_
                    · skip
                      refine fq_bind (f_X8_locks y1 0 s) (fun v31 s32 => ?_)
                      exact fq_some
                    · skip
                      refine fq_if ?_ ?_
                      · skip
                        refine fq_bind (f_X8_removes y1 s) (fun v34 s35 => ?_)
                        exact fq_some
                      · skip
                        refine fq_bind (f_X8_spreads y1 s) (fun v36 s37 => ?_)
                        exact fq_some
theorem f_X8_doesAll_b12 (s : Mem) (kf12 : (Int32 × Mem) → Res Int32) (hm12 : ∀ a, Fq a.2 (kf12 a)) (w1 : Int32) : Fq s (m_X8_doesAll_b12 s kf12 w1 ) := by
  unfold m_X8_doesAll_b12
  refine fq_if ?_ ?_
  · skip
    exact fq_some
  · skip
    refine fq_bind (f_X8_readsCommand s) (fun v3 s4 => ?_)
    refine fq_bindP (fun v5 => ?_)
    refine fq_if ?_ ?_
    · skip
      refine fq_bind (f_X8_doesNow s4) (fun v6 s7 => ?_)
      refine fq_put (fun s8 => ?_)
      refine fq_bind (f_X8_reads 59 s8) (fun v9 s10 => ?_)
      exact hm12 (v9, s10)
    · skip
      exact fq_some
theorem f_X8_doesAll (s : Mem) : Fq s (m_X8_doesAll s) := by
  unfold m_X8_doesAll
  refine fq_put (fun s1 => ?_)
  refine fq_put (fun s2 => ?_)
  exact fq_lp (sg := fun a => a.2) (fun kf hq a => f_X8_doesAll_b12 a.2 kf hq a.1) FUEL (1, s2)
theorem f_X8_run (s : Mem) : Fq s (m_X8_run s) := by
  unfold m_X8_run
  refine fq_put (fun s1 => ?_)
  refine fq_bind (f_X8_readsAll s1) (fun v2 s3 => ?_)
  refine fq_if ?_ ?_
  · skip
    refine fq_bind (f_X8_copies s3) (fun v4 s5 => ?_)
    refine fq_bind (f_X8_doesAll s5) (fun v6 s7 => ?_)
    refine fq_put (fun s8 => ?_)
    refine fq_if ?_ ?_
    · skip
      refine fq_bind (f_X8_goesBack s8) (fun v9 s10 => ?_)
      refine fq_put (fun s11 => ?_)
      refine fq_bind (f_X8_fails 2 s11) (fun v12 s13 => ?_)
      exact fq_some
    · skip
      refine fq_bind (f_X8_keeps s8) (fun v14 s15 => ?_)
      exact fq_some
  · skip
    refine fq_put (fun s16 => ?_)
    refine fq_put (fun s17 => ?_)
    refine fq_bind (f_X8_fails 1 s17) (fun v18 s19 => ?_)
    exact fq_some
theorem f_X8_errorPosition (s : Mem) : Fq s (m_X8_errorPosition s) := by
  unfold m_X8_errorPosition
  refine fq_put (fun s1 => ?_)
  refine fq_if ?_ ?_
  · skip
    exact fq_some
  · skip
    refine fq_bind (f_X8_fails 1 s1) (fun v2 s3 => ?_)
    exact fq_some
theorem f_X8_failedCommand (s : Mem) : Fq s (m_X8_failedCommand s) := by
  unfold m_X8_failedCommand
  refine fq_put (fun s1 => ?_)
  refine fq_if ?_ ?_
  · skip
    exact fq_some
  · skip
    refine fq_bind (f_X8_fails 1 s1) (fun v2 s3 => ?_)
    exact fq_some
theorem f_X8_undoableCount (s : Mem) : Fq s (m_X8_undoableCount s) := by
  unfold m_X8_undoableCount
  refine fq_put (fun s1 => ?_)
  exact fq_some
theorem f_X8_undo_b43 (x4 : Int32) (s : Mem) (kf43 : (Int32 × Mem) → Res Int32) (hm43 : ∀ a, Fq a.2 (kf43 a)) (w2 : Int32) : Fq s (m_X8_undo_b43 x4 s kf43 w2 ) := by
  unfold m_X8_undo_b43
  refine fq_if ?_ ?_
  · skip
    exact fq_some
  · skip
    refine fq_if ?_ fq_none
    refine fq_if ?_ fq_none
    refine fq_put (fun s5 => ?_)
    refine fq_vl (fun y6 => ?_)
    exact hm43 (y6, s5)
theorem f_X8_undo (s : Mem) : Fq s (m_X8_undo s) := by
  unfold m_X8_undo
  refine fq_put (fun s1 => ?_)
  refine fq_if ?_ ?_
  · skip
    refine fq_put (fun s2 => ?_)
    refine fq_vl (fun y3 => ?_)
    exact fq_lp (sg := fun a => a.2) (fun kf hq a => f_X8_undo_b43 y3 a.2 kf hq a.1) FUEL (0, s2)
  · skip
    refine fq_bind (f_X8_fails 1 s1) (fun v7 s8 => ?_)
    exact fq_some
theorem f_X8_save_b7 (s : Mem) (kf7 : (Int32 × Mem) → Res Int32) (hm7 : ∀ a, Fq a.2 (kf7 a)) (w1 : Int32) : Fq s (m_X8_save_b7 s kf7 w1 ) := by
  unfold m_X8_save_b7
  refine fq_if ?_ ?_
  · skip
    refine fq_put (fun s2 => ?_)
    refine fq_if ?_ fq_none
    exact fq_some
  · skip
    refine fq_if ?_ fq_none
    refine fq_if ?_ fq_none
    refine fq_put (fun s3 => ?_)
    refine fq_vl (fun y4 => ?_)
    exact hm7 (y4, s3)
theorem f_X8_save (s : Mem) : Fq s (m_X8_save s) := by
  unfold m_X8_save
  refine fq_put (fun s1 => ?_)
  exact fq_lp (sg := fun a => a.2) (fun kf hq a => f_X8_save_b7 a.2 kf hq a.1) FUEL (0, s1)
theorem f_X8_restore_b20 (s : Mem) (kf20 : (Int32 × Mem) → Res Int32) (hm20 : ∀ a, Fq a.2 (kf20 a)) (w1 : Int32) : Fq s (m_X8_restore_b20 s kf20 w1 ) := by
  unfold m_X8_restore_b20
  refine fq_if ?_ ?_
  · skip
    refine fq_put (fun s2 => ?_)
    refine fq_put (fun s3 => ?_)
    refine fq_if ?_ fq_none
    exact fq_some
  · skip
    refine fq_if ?_ fq_none
    refine fq_if ?_ fq_none
    refine fq_put (fun s4 => ?_)
    refine fq_vl (fun y5 => ?_)
    exact hm20 (y5, s4)
theorem f_X8_restore (s : Mem) : Fq s (m_X8_restore s) := by
  unfold m_X8_restore
  refine fq_put (fun s1 => ?_)
  refine fq_if ?_ ?_
  · skip
    exact fq_lp (sg := fun a => a.2) (fun kf hq a => f_X8_restore_b20 a.2 kf hq a.1) FUEL (0, s1)
  · skip
    refine fq_bind (f_X8_fails 1 s1) (fun v6 s7 => ?_)
    exact fq_some
