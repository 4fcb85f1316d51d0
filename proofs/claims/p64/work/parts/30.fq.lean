/-! ===== the reference touches nothing but its own cells, makes nothing, throws nothing ===== -/
def Fq {α : Type} (σ : Mem) (r : Res α) : Prop := ∀ out, r = some out → (∃ v, out.1 = .inl v) ∧ out.2.2 = σ.2 ∧ ∀ c, c % 64 ≠ 8 → ∀ j, gI out.2 c j = gI σ c j
theorem fq_none {α : Type} {σ : Mem} : Fq σ (none : Res α) := fun _ h => nomatch h
theorem fq_some {α : Type} {σ : Mem} {v : α} : Fq σ (some (.inl v, σ)) := fun _ h => by cases h; exact ⟨⟨v, rfl⟩, rfl, fun _ _ _ => rfl⟩
theorem fq_if {α : Type} {σ : Mem} {c : Prop} {_ : Decidable c} {a b : Res α} (h1 : Fq σ a) (h2 : Fq σ b) : Fq σ (if c then a else b) := by split <;> assumption
theorem fq_bind {α β : Type} {σ : Mem} {x : Res β} {f : β → Mem → Res α} (h1 : Fq σ x) (h2 : ∀ v σ1, Fq σ1 (f v σ1)) : Fq σ (bindR x f) := by
  intro out h
  cases x with
  | none => cases h
  | some o =>
    obtain ⟨o, σ1⟩ := o
    have h3 := h1 _ rfl
    cases o with
    | inl v =>
      have h4 := h2 v σ1 out h
      exact ⟨h4.1, h4.2.1.trans h3.2.1, fun c hc j => (h4.2.2 c hc j).trans (h3.2.2 c hc j)⟩
    | inr E =>
      obtain ⟨⟨v, hv⟩, _⟩ := h3
      cases hv
theorem fq_bindP {α β : Type} {σ : Mem} {x : Option β} {f : β → Res α} (h2 : ∀ v, Fq σ (f v)) : Fq σ (bindP x f) := by
  cases x with
  | none => exact fq_none
  | some v => exact h2 v
theorem fq_lp {α β : Type} {sg : α → Mem} {body : (α → Res β) → α → Res β} (h : ∀ kf : α → Res β, (∀ a, Fq (sg a) (kf a)) → ∀ a, Fq (sg a) (body kf a)) : ∀ n a, Fq (sg a) (lp body n a)
  | 0, _ => fq_none
  | n + 1, a => h (lp body n) (fq_lp h n) a
theorem fq_vl {α : Type} {σ : Mem} {γ : Type} {x : γ} {f : γ → Res α} (h : ∀ y, Fq σ (f y)) : Fq σ (vl x f) := h x
theorem fq_pI (σ : Mem) (a k : Nat) (v : Int32) (h : a % 64 = 8) : (pI σ a k v).2 = σ.2 ∧ ∀ c, c % 64 ≠ 8 → ∀ j, gI (pI σ a k v) c j = gI σ c j :=
  ⟨rfl, fun c hc j => by
    show u2 σ.1 a k v c j = σ.1 c j
    unfold u2
    rw [if_neg]
    rintro ⟨rfl, _⟩
    exact hc h⟩
theorem fq_put {α : Type} {σ : Mem} {x : Mem} {f : Mem → Res α} (h : ∀ s1, Fq s1 (f s1)) (e : x.2 = σ.2 ∧ ∀ c, c % 64 ≠ 8 → ∀ j, gI x c j = gI σ c j := by exact fq_pI _ _ _ _ (by decide)) : Fq σ (vl x f) := by
  intro out q
  have h1 := h x out q
  exact ⟨h1.1, h1.2.1.trans e.1, fun c hc j => (h1.2.2 c hc j).trans (e.2 c hc j)⟩

