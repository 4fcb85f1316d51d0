/-! ===== the two sides, side by side ===== -/
/-- what holds ahead of a call, k calls in -/
def J (CC SS k : Nat) (σ : Mem) (A : Ab) : Prop := CK σ A ∧ MK σ A ∧ WA (10 * k) A ∧ Cb σ ∧ nC σ ≤ CC + cap σ + k ∧ nS σ ≤ SS + 2 * cap σ + 6 * k
theorem MK.fc {s s1 : Mem} {A : Ab} (h : MK s A) (f : Fc s s1) : MK s1 A := by
  obtain ⟨h1, ⟨g, hg, h2⟩, h3⟩ := h
  exact ⟨h1.kp (f 136 (by decide)), ⟨g, hg, h2.kp (f 8 (by decide) 5) (f 8 (by decide) 6) (f 200 (by decide))⟩, h3.kp fun c j hc => f c (by unfold mrc at hc; omega) j⟩
theorem Kp.rf {s s1 : Mem} (h1 : s1.2 = s.2) (h2 : ∀ c, c % 64 ≠ 8 → ∀ j, gI s1 c j = gI s c j) : Kp s s1 :=
  ⟨fun c _ _ _ h j => h2 c h j, fun c _ _ j => by unfold gJ; rw [h1], by funext o; unfold gB; rw [h1]⟩
theorem Kp.pJ9 {s : Mem} {v : Int64} : Kp s (pJ s 9 0 v) := ⟨fun _ _ _ _ _ _ => rfl, fun c h1 h2 j => gJ_o (by omega), rfl⟩
theorem Kp.pD {s : Mem} {a k : Nat} {v : UInt64} : Kp s (pD s a k v) := ⟨fun _ _ _ _ _ _ => rfl, fun _ _ _ _ => rfl, rfl⟩
theorem Ku.eq {s s1 : Mem} (h1 : Fc s s1) (h2 : nC s1 = nC s) (h3 : nS s1 = nS s) (h4 : gB s1 = gB s) : Ku 0 s s1 := by
  refine ⟨h1, ⟨?_, ?_⟩, ?_⟩
  · unfold cap; rw [h2, h4]; exact Nat.le_refl _
  · unfold cap; rw [h3, h4]; exact Nat.le_refl _
  · unfold Cb; rw [h4]; exact id
section
variable {σ σ1 : Mem} {A A' : Ab} {CC SS k : Nat} {L : List String} {Lr : List Nat}
theorem J.cls (h : J CC SS k σ A) (hc : CK σ1 A') (hu : Ku 1 σ σ1) : MK σ1 A ∧ Cb σ1 ∧ nC σ1 ≤ CC + cap σ1 + (k + 1) ∧ nS σ1 ≤ SS + 2 * cap σ1 + 6 * (k + 1) := by
  obtain ⟨h1, h2, h3, h4, h5, h6⟩ := h
  obtain ⟨u1, ⟨u2, u3⟩, u4⟩ := hu
  exact ⟨h2.fc u1, u4 h4, by omega, by omega⟩
theorem J.ref {s2 : Mem} (hc : CK σ1 A') (hb : Cb σ1) (h5 : nC σ1 ≤ CC + cap σ1 + k) (h6 : nS σ1 ≤ SS + 2 * cap σ1 + 6 * k) (hm : MK s2 A') (hw : WA (10 * k) A') (e1 : s2.2 = σ1.2) (e2 : ∀ c, c % 64 ≠ 8 → ∀ j, gI s2 c j = gI σ1 c j) : J CC SS k s2 A' := by
  have g : gB s2 = gB σ1 := by funext o; unfold gB; rw [e1]
  have n1 : nC s2 = nC σ1 := by unfold nC; rw [e1]
  have n2 : nS s2 = nS σ1 := by unfold nS; rw [e1]
  refine ⟨hc.kp (Kp.rf e1 e2), hm, hw, ?_, ?_, ?_⟩
  · unfold Cb; rw [g]; exact hb
  · unfold cap; rw [n1, g]; exact h5
  · unfold cap; rw [n2, g]; exact h6
/-- an answer's number: the place of what is thrown, or 0 -/
def kod {α : Type} (Lr : List Nat) : Nat ⊕ α → Int32
  | .inl c => nI (Lr.getD c 0)
  | .inr _ => 0
/-- every refusal has its handler -/
def Cdo {α : Type} (L : List String) (Lr : List Nat) (r : Nat ⊕ α) : Prop := ∀ c, r = .inl c → cd L 1 (xn c) = some (nI (Lr.getD c 0)) ∧ 1 ≤ Lr.getD c 0 ∧ Lr.getD c 0 ≤ 3
theorem kod_0 {α : Type} {r : Nat ⊕ α} (h : Cdo L Lr r) (e : kod Lr r = 0) : ∃ v, r = .inr v := by
  cases r with
  | inr v => exact ⟨v, rfl⟩
  | inl c =>
    exfalso
    obtain ⟨_, h1, h2⟩ := h c rfl
    exact nI_ne0 (by omega) (by omega) e
theorem w_I {x : Res Int32} {r : Nat ⊕ Int32} (h : okR x (cl σ r A')) (hL : Cdo L Lr r) : ∃ s1, wI L x = some (.inl (kod Lr r), s1) ∧ CK s1 A' ∧ Ku 1 σ s1 ∧ ∀ v, r = .inr v → gJ s1 9 0 = v.toInt64 := by
  obtain ⟨o, s, rfl, rfl, h1, h2⟩ := h
  cases r with
  | inl c =>
    obtain ⟨e, _⟩ := hL c rfl
    refine ⟨s, ?_, h1, h2, fun v e => by cases e⟩
    show (cd L 1 (xn c)).map (fun u => (Sum.inl u, s)) = _
    rw [e]
    rfl
  | inr v =>
    refine ⟨pJ s 9 0 v.toInt64, ?_, h1.kp Kp.pJ9, h2.trans (Ku.eq (fun _ _ _ => rfl) rfl rfl rfl), fun v' e => by cases e; exact gJ_s⟩
    show (if ib (0 : Int32) 1 then vl (pJ s 9 (0 : Int32).toNatClampNeg v.toInt64) (fun s1 => some ((Sum.inl (0 : Int32) : Int32 ⊕ String), s1)) else none) = _
    rw [if_pos (show ib (0 : Int32) 1 by decide)]
    rfl
theorem w_Z {x : Res Int32} {r : Nat ⊕ Int32} (h : okR x (cl σ r A')) (hL : Cdo L Lr r) : ∃ s1, wZ L x = some (.inl (kod Lr r), s1) ∧ CK s1 A' ∧ Ku 1 σ s1 ∧ ∀ v, r = .inr v → gJ s1 9 0 = if v = 0 then 0 else 1 := by
  obtain ⟨o, s, rfl, rfl, h1, h2⟩ := h
  cases r with
  | inl c =>
    obtain ⟨e, _⟩ := hL c rfl
    refine ⟨s, ?_, h1, h2, fun v e => by cases e⟩
    show (cd L 1 (xn c)).map (fun u => (Sum.inl u, s)) = _
    rw [e]
    rfl
  | inr v =>
    by_cases q : v = 0
    · refine ⟨pJ s 9 0 0, ?_, h1.kp Kp.pJ9, h2.trans (Ku.eq (fun _ _ _ => rfl) rfl rfl rfl), fun v' e => by cases e; rw [if_pos q]; exact gJ_s⟩
      unfold wZ bindC an
      dsimp only
      rw [if_pos q, if_pos (show ib (0 : Int32) 1 by decide)]
      rfl
    · refine ⟨pJ s 9 0 1, ?_, h1.kp Kp.pJ9, h2.trans (Ku.eq (fun _ _ _ => rfl) rfl rfl rfl), fun v' e => by cases e; rw [if_neg q]; exact gJ_s⟩
      unfold wZ bindC an
      dsimp only
      rw [if_neg q, if_pos (show ib (0 : Int32) 1 by decide)]
      rfl
theorem gD_s {s : Mem} {a k : Nat} {v : UInt64} : gD (pD s a k v) a k = v := by
  show u2 s.2.2.1 a k v a k = v
  exact if_pos ⟨rfl, rfl⟩
theorem w_D {x : Res UInt64} {r : Nat ⊕ UInt64} (h : okR x (cl σ r A')) (hL : Cdo L Lr r) : ∃ s1, wD L x = some (.inl (kod Lr r), s1) ∧ CK s1 A' ∧ Ku 1 σ s1 ∧ ∀ v, r = .inr v → gD s1 10 0 = v := by
  obtain ⟨o, s, rfl, rfl, h1, h2⟩ := h
  cases r with
  | inl c =>
    obtain ⟨e, _⟩ := hL c rfl
    refine ⟨s, ?_, h1, h2, fun v e => by cases e⟩
    show (cd L 1 (xn c)).map (fun u => (Sum.inl u, s)) = _
    rw [e]
    rfl
  | inr v =>
    refine ⟨pD s 10 0 v, ?_, h1.kp Kp.pD, h2.trans (Ku.eq (fun _ _ _ => rfl) rfl rfl rfl), fun v' e => by cases e; exact gD_s⟩
    show (if ib (0 : Int32) 1 then vl (pD s 10 (0 : Int32).toNatClampNeg v) (fun s1 => some ((Sum.inl (0 : Int32) : Int32 ⊕ String), s1)) else none) = _
    rw [if_pos (show ib (0 : Int32) 1 by decide)]
    rfl
theorem w_F {x : Res UInt32} {r : Nat ⊕ UInt32} (h : okR x (cl σ r A')) (hL : Cdo L Lr r) (hn : ∀ v, r = .inr v → np64 (FP.f2d v)) : ∃ s1, wF L x = some (.inl (kod Lr r), s1) ∧ CK s1 A' ∧ Ku 1 σ s1 ∧ ∀ v, r = .inr v → gD s1 10 0 = FP.f2d v := by
  obtain ⟨o, s, rfl, rfl, h1, h2⟩ := h
  cases r with
  | inl c =>
    obtain ⟨e, _⟩ := hL c rfl
    refine ⟨s, ?_, h1, h2, fun v e => by cases e⟩
    show (cd L 1 (xn c)).map (fun u => (Sum.inl u, s)) = _
    rw [e]
    rfl
  | inr v =>
    refine ⟨pD s 10 0 (FP.f2d v), ?_, h1.kp Kp.pD, h2.trans (Ku.eq (fun _ _ _ => rfl) rfl rfl rfl), fun v' e => by cases e; exact gD_s⟩
    unfold wF bindC an
    dsimp only
    rw [if_pos (hn v rfl), if_pos (show ib (0 : Int32) 1 by decide)]
    rfl
/-- the reference behind the class -/
theorem J.two {α β : Type} {y : Res β} {r : Nat ⊕ β} (h : J CC SS k σ A) (hc : CK σ1 A') (hu : Ku 1 σ σ1) (hy : MK σ1 A → okR y (ml Lr r A')) (hq : Fq σ1 y) (hw : WA (10 * (k + 1)) A') : ∃ v s2, y = some (.inl v, s2) ∧ gI s2 8 0 = kod Lr r ∧ (∀ u, r = .inr u → v = u) ∧ s2.2 = σ1.2 ∧ J CC SS (k + 1) s2 A' := by
  obtain ⟨m1, b1, n1, n2⟩ := h.cls hc hu
  obtain ⟨o, s2, e, ⟨z1, z2⟩, ⟨v, rfl⟩, z3, z4⟩ := okR_ref (hy m1) hq
  refine ⟨v, s2, e, ?_, fun u hu => ?_, z3, J.ref hc b1 n1 n2 z1 hw z3 z4⟩
  · cases r with
    | inl c => exact z2.1
    | inr u => exact z2.1
  · subst hu
    have := z2.2
    cases this
    rfl
/-- an operation with an int's answer -/
theorem z_I {x : Res Int32} {y : Mem → Res Int32} {r : Nat ⊕ Int32} (h : J CC SS k σ A) (hx : okR x (cl σ r A')) (hy : ∀ s, MK s A → okR (y s) (ml Lr r A')) (hq : ∀ s, Fq s (y s)) (hL : Cdo L Lr r) (hw : WA (10 * (k + 1)) A') : ∃ v1 s1 v2 s2, wI L x = some (.inl v1, s1) ∧ y s1 = some (.inl v2, s2) ∧ gI s2 8 0 = v1 ∧ (v1 = 0 → gJ s2 9 0 = v2.toInt64) ∧ J CC SS (k + 1) s2 A' := by
  obtain ⟨s1, e1, c1, u1, w1⟩ := w_I hx hL
  obtain ⟨v, s2, e2, g2, w2, z2, j2⟩ := J.two (α := Int32) h c1 u1 (hy s1) (hq s1) hw
  refine ⟨_, s1, v, s2, e1, e2, g2, fun e => ?_, j2⟩
  obtain ⟨a, rfl⟩ := kod_0 hL e
  rw [show gJ s2 9 0 = gJ s1 9 0 by unfold gJ; rw [z2], w1 a rfl, w2 a rfl]
/-- .. with a boolean's -/
theorem z_Z {x : Res Int32} {y : Mem → Res Int32} {r : Nat ⊕ Int32} (h : J CC SS k σ A) (hx : okR x (cl σ r A')) (hy : ∀ s, MK s A → okR (y s) (ml Lr r A')) (hq : ∀ s, Fq s (y s)) (hL : Cdo L Lr r) (hw : WA (10 * (k + 1)) A') : ∃ v1 s1 v2 s2, wZ L x = some (.inl v1, s1) ∧ y s1 = some (.inl v2, s2) ∧ gI s2 8 0 = v1 ∧ (v1 = 0 → gJ s2 9 0 = if v2 = 0 then 0 else 1) ∧ J CC SS (k + 1) s2 A' := by
  obtain ⟨s1, e1, c1, u1, w1⟩ := w_Z hx hL
  obtain ⟨v, s2, e2, g2, w2, z2, j2⟩ := J.two (α := Int32) h c1 u1 (hy s1) (hq s1) hw
  refine ⟨_, s1, v, s2, e1, e2, g2, fun e => ?_, j2⟩
  obtain ⟨a, rfl⟩ := kod_0 hL e
  rw [show gJ s2 9 0 = gJ s1 9 0 by unfold gJ; rw [z2], w1 a rfl, w2 a rfl]
theorem z_D {x : Res UInt64} {y : Mem → Res UInt64} {r : Nat ⊕ UInt64} (h : J CC SS k σ A) (hx : okR x (cl σ r A')) (hy : ∀ s, MK s A → okR (y s) (ml Lr r A')) (hq : ∀ s, Fq s (y s)) (hL : Cdo L Lr r) (hw : WA (10 * (k + 1)) A') : ∃ v1 s1 v2 s2, wD L x = some (.inl v1, s1) ∧ y s1 = some (.inl v2, s2) ∧ gI s2 8 0 = v1 ∧ (v1 = 0 → gD s2 10 0 = v2 ∧ r = .inr v2) ∧ J CC SS (k + 1) s2 A' := by
  obtain ⟨s1, e1, c1, u1, w1⟩ := w_D hx hL
  obtain ⟨v, s2, e2, g2, w2, z2, j2⟩ := J.two (α := UInt64) h c1 u1 (hy s1) (hq s1) hw
  refine ⟨_, s1, v, s2, e1, e2, g2, fun e => ?_, j2⟩
  obtain ⟨a, rfl⟩ := kod_0 hL e
  rw [show gD s2 10 0 = gD s1 10 0 by unfold gD; rw [z2], w1 a rfl, w2 a rfl]
  exact ⟨rfl, rfl⟩
theorem z_F {x : Res UInt32} {y : Mem → Res UInt32} {r : Nat ⊕ UInt32} (h : J CC SS k σ A) (hx : okR x (cl σ r A')) (hy : ∀ s, MK s A → okR (y s) (ml Lr r A')) (hq : ∀ s, Fq s (y s)) (hL : Cdo L Lr r) (hn : ∀ v, r = .inr v → np64 (FP.f2d v)) (hw : WA (10 * (k + 1)) A') : ∃ v1 s1 v2 s2, wF L x = some (.inl v1, s1) ∧ y s1 = some (.inl v2, s2) ∧ gI s2 8 0 = v1 ∧ (v1 = 0 → gD s2 10 0 = FP.f2d v2 ∧ r = .inr v2) ∧ J CC SS (k + 1) s2 A' := by
  obtain ⟨s1, e1, c1, u1, w1⟩ := w_F hx hL hn
  obtain ⟨v, s2, e2, g2, w2, z2, j2⟩ := J.two (α := UInt32) h c1 u1 (hy s1) (hq s1) hw
  refine ⟨_, s1, v, s2, e1, e2, g2, fun e => ?_, j2⟩
  obtain ⟨a, rfl⟩ := kod_0 hL e
  rw [show gD s2 10 0 = gD s1 10 0 by unfold gD; rw [z2], w1 a rfl, w2 a rfl]
  exact ⟨rfl, rfl⟩
/-- a question that throws nothing, pure in the class -/
theorem z_P {α : Type} {v : α} {y : Mem → Res α} (h : J CC SS k σ A) (hy : ∀ s, MK s A → okR (y s) (ml (α := α) [] (.inr v) A)) (hq : ∀ s, Fq s (y s)) : ∃ s2, y σ = some (.inl v, s2) ∧ J CC SS (k + 1) s2 A := by
  obtain ⟨w, s2, e2, g2, w2, z2, j2⟩ := J.two (α := α) h h.1 (Ku.refl.up (by decide)) (hy σ) (hq σ) (h.2.2.1.up (by omega))
  rw [w2 v rfl] at e2
  exact ⟨s2, e2, j2⟩
/-- .. that writes in the class -/
theorem z_R {x : Res Int32} {v : Int32} {y : Mem → Res Int32} (h : J CC SS k σ A) (hx : okR x (cl σ (.inr v) A')) (hy : ∀ s, MK s A → okR (y s) (ml [] (.inr v) A')) (hq : ∀ s, Fq s (y s)) (hw : WA (10 * (k + 1)) A') : ∃ s1 s2, x = some (.inl v, s1) ∧ y s1 = some (.inl v, s2) ∧ J CC SS (k + 1) s2 A' := by
  obtain ⟨o, s1, e1, rfl, c1, u1⟩ := hx
  obtain ⟨w, s2, e2, g2, w2, z2, j2⟩ := J.two (α := Int32) h c1 u1 (hy s1) (hq s1) hw
  rw [w2 v rfl] at e2
  exact ⟨s1, s2, e1, e2, j2⟩
end
/-! every refusal has its handler: each operation -/
theorem cdo_ch {A : Ab} {kind : Nat} {p q : Int32} {L : List String} (hk : kind < 12) (h : ∀ c, (c = 1 ∨ c = 2 ∨ c = 3 ∨ c = 4) → 1 ≤ (pcl kind).getD c 0 → cd L 1 (xn c) = some (nI ((pcl kind).getD c 0))) : Cdo L (pcl kind) (chA A kind p q).1 := by
  intro c e
  unfold chA at e
  cases e2 : rs (aT A) kind p q with
  | inr ab => obtain ⟨a, b⟩ := ab; rw [e2] at e; cases e
  | inl c' =>
    rw [e2] at e
    cases e
    have h1 := rs_pc hk e2
    exact ⟨h c (rs_cd e2) h1.1, h1⟩
theorem cdo_of {α : Type} {L : List String} {Lr : List Nat} {r : Nat ⊕ α} {P : Nat → Prop} (h1 : ∀ c, r = .inl c → P c) (h2 : ∀ c, P c → cd L 1 (xn c) = some (nI (Lr.getD c 0)) ∧ 1 ≤ Lr.getD c 0 ∧ Lr.getD c 0 ≤ 3) : Cdo L Lr r := fun c e => h2 c (h1 c e)
section
variable {α : Type} {T : Th} {p q : Int32} {c : Nat}
theorem rowQ_l {g : Nat → Nat ⊕ α} {P : Nat → Prop} (h2 : P 2) (hg : ∀ r c, g r = .inl c → P c) (h : rowQ T p g = .inl c) : P c := by
  unfold rowQ at h
  cases e : rwp T p with
  | none => rw [e] at h; cases h; exact h2
  | some r => rw [e] at h; exact hg r c h
theorem actQ_l {g : Nat → Nat ⊕ α} {P : Nat → Prop} (h2 : P 1) (hg : ∀ r c, g r = .inl c → P c) (h : actQ T p g = .inl c) : P c := by
  unfold actQ at h
  cases e : sltp T p with
  | none => rw [e] at h; cases h; exact h2
  | some r => rw [e] at h; exact hg r c h
theorem rkQ_l {g : Nat → Nat ⊕ α} {P : Nat → Prop} (h2 : P 1) (hg : ∀ r c, g r = .inl c → P c) (h : rkQ T p g = .inl c) : P c := by
  unfold rkQ at h
  cases e : rkp T p with
  | none => rw [e] at h; cases h; exact h2
  | some r => rw [e] at h; exact hg r c h
theorem boxQ_l {g : Nat → Nat ⊕ α} {P : Nat → Prop} (h2 : P 3) (hg : ∀ r c, g r = .inl c → P c) (h : boxQ p g = .inl c) : P c := by
  unfold boxQ at h
  cases e : bxp p with
  | none => rw [e] at h; cases h; exact h2
  | some r => rw [e] at h; exact hg r c h
theorem rngQ_l {g : Nat → Nat → Nat ⊕ α} {P : Nat → Prop} (h2 : P 2) (h3 : P 3) (hg : ∀ a b c, g a b = .inl c → P c) (h : rngQ T p q g = .inl c) : P c := by
  unfold rngQ at h
  cases e : rwp T p with
  | none => rw [e] at h; cases h; exact h2
  | some a =>
    rw [e] at h
    cases e2 : rwp T q with
    | none => rw [e2] at h; cases h; exact h2
    | some b =>
      rw [e2] at h
      dsimp only at h
      by_cases z : a ≤ b
      · rw [if_pos z] at h; exact hg a b c h
      · rw [if_neg z] at h; cases h; exact h3
end
