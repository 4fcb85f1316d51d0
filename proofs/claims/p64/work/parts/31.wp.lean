/-! ===== what a computation surely gives ===== -/
def okO {α : Type} (p : Option α) (Q : α → Prop) : Prop := ∃ v, p = some v ∧ Q v
def okR {α : Type} (r : Res α) (Q : α ⊕ String → Mem → Prop) : Prop := ∃ o s, r = some (o, s) ∧ Q o s
theorem okO_some {α : Type} {v : α} {Q : α → Prop} : okO (some v) Q ↔ Q v := ⟨fun ⟨_, h, q⟩ => by cases h; exact q, fun q => ⟨_, rfl, q⟩⟩
theorem okO_none {α : Type} {Q : α → Prop} : okO (none : Option α) Q ↔ False := ⟨fun ⟨_, h, _⟩ => (nomatch h), fun h => h.elim⟩
theorem okO_if {α : Type} {c : Prop} {_ : Decidable c} {a b : Option α} {Q : α → Prop} : okO (if c then a else b) Q ↔ (c → okO a Q) ∧ (¬ c → okO b Q) := by
  by_cases h : c
  · rw [if_pos h]; exact ⟨fun q => ⟨fun _ => q, fun z => absurd h z⟩, fun q => q.1 h⟩
  · rw [if_neg h]; exact ⟨fun q => ⟨fun z => absurd z h, fun _ => q⟩, fun q => q.2 h⟩
theorem okO_bindO {α β : Type} {p : Option β} {f : β → Option α} {Q : α → Prop} : okO (bindO p f) Q ↔ okO p (fun v => okO (f v) Q) := by
  cases p with
  | none => exact ⟨fun ⟨_, h, _⟩ => (nomatch h), fun ⟨_, h, _⟩ => (nomatch h)⟩
  | some v => exact (okO_some (v := v) (Q := fun v => okO (f v) Q)).symm
theorem okO_vl {α γ : Type} {x : γ} {f : γ → Option α} {Q : α → Prop} : okO (vl x f) Q ↔ okO (f x) Q := Iff.rfl
theorem okO_mono {α : Type} {p : Option α} {Q Q' : α → Prop} (h : okO p Q) (k : ∀ v, Q v → Q' v) : okO p Q' := by
  obtain ⟨v, h1, h2⟩ := h
  exact ⟨v, h1, k _ h2⟩
theorem okO_eq {α : Type} {p : Option α} {v : α} (h : p = some v) {Q : α → Prop} (q : Q v) : okO p Q := ⟨v, h, q⟩
theorem okR_some {α : Type} {o : α ⊕ String} {s : Mem} {Q : α ⊕ String → Mem → Prop} : okR (some (o, s)) Q ↔ Q o s := ⟨fun ⟨_, _, h, q⟩ => by cases h; exact q, fun q => ⟨_, _, rfl, q⟩⟩
theorem okR_none {α : Type} {Q : α ⊕ String → Mem → Prop} : okR (none : Res α) Q ↔ False := ⟨fun ⟨_, _, h, _⟩ => (nomatch h), fun h => h.elim⟩
theorem okR_if {α : Type} {c : Prop} {_ : Decidable c} {a b : Res α} {Q : α ⊕ String → Mem → Prop} : okR (if c then a else b) Q ↔ (c → okR a Q) ∧ (¬ c → okR b Q) := by
  by_cases h : c
  · rw [if_pos h]; exact ⟨fun q => ⟨fun _ => q, fun z => absurd h z⟩, fun q => q.1 h⟩
  · rw [if_neg h]; exact ⟨fun q => ⟨fun z => absurd z h, fun _ => q⟩, fun q => q.2 h⟩
theorem okR_bindP {α β : Type} {p : Option β} {f : β → Res α} {Q : α ⊕ String → Mem → Prop} : okR (bindP p f) Q ↔ okO p (fun v => okR (f v) Q) := by
  cases p with
  | none => exact ⟨fun ⟨_, _, h, _⟩ => (nomatch h), fun ⟨_, h, _⟩ => (nomatch h)⟩
  | some v => exact (okO_some (v := v) (Q := fun v => okR (f v) Q)).symm
/-- what follows a call: its answer goes on, its throw goes through -/
def thn {α β : Type} (f : β → Mem → Res α) (Q : α ⊕ String → Mem → Prop) : β ⊕ String → Mem → Prop := fun o s => match o with
  | .inl v => okR (f v s) Q
  | .inr E => Q (.inr E) s
theorem okR_bindR {α β : Type} {x : Res β} {f : β → Mem → Res α} {Q : α ⊕ String → Mem → Prop} : okR (bindR x f) Q ↔ okR x (thn f Q) := by
  cases x with
  | none => exact ⟨fun ⟨_, _, h, _⟩ => (nomatch h), fun ⟨_, _, h, _⟩ => (nomatch h)⟩
  | some o =>
    obtain ⟨o, s⟩ := o
    rw [okR_some]
    cases o with
    | inl v => exact Iff.rfl
    | inr E => exact okR_some
theorem thn_l {α β : Type} {f : β → Mem → Res α} {Q : α ⊕ String → Mem → Prop} {v : β} {s : Mem} : thn f Q (.inl v) s ↔ okR (f v s) Q := Iff.rfl
theorem thn_r {α β : Type} {f : β → Mem → Res α} {Q : α ⊕ String → Mem → Prop} {E : String} {s : Mem} : thn f Q (.inr E) s ↔ Q (.inr E) s := Iff.rfl
theorem okR_vl {α γ : Type} {x : γ} {f : γ → Res α} {Q : α ⊕ String → Mem → Prop} : okR (vl x f) Q ↔ okR (f x) Q := Iff.rfl
theorem okR_mono {α : Type} {r : Res α} {Q Q' : α ⊕ String → Mem → Prop} (h : okR r Q) (k : ∀ o s, Q o s → Q' o s) : okR r Q' := by
  obtain ⟨o, s, h1, h2⟩ := h
  exact ⟨o, s, h1, k _ _ h2⟩
theorem okR_eq {α : Type} {r : Res α} {o : α ⊕ String} {s : Mem} (h : r = some (o, s)) {Q : α ⊕ String → Mem → Prop} (q : Q o s) : okR r Q := ⟨o, s, h, q⟩
theorem okR_ref {α : Type} {r : Res α} {σ : Mem} {Q : α ⊕ String → Mem → Prop} (h : okR r Q) (hf : Fq σ r) : okR r (fun o s => Q o s ∧ (∃ v, o = .inl v) ∧ s.2 = σ.2 ∧ ∀ c, c % 64 ≠ 8 → ∀ j, gI s c j = gI σ c j) := by
  obtain ⟨o, s, h1, h2⟩ := h
  exact ⟨o, s, h1, h2, hf _ h1⟩
/-! loops -/
theorem lpO_det {α β : Type} {body : (α → Option β) → α → Option β} {v : β} (st : Nat → α) (I : Nat → Prop) (n : Nat)
    (h : ∀ k, k ≤ n → I k → ∀ kf, body kf (st k) = some v ∨ (k < n ∧ I (k + 1) ∧ body kf (st k) = kf (st (k + 1)))) : ∀ j k, n - k < j → k ≤ n → I k → lpO body j (st k) = some v
  | 0, _, hj, _, _ => absurd hj (Nat.not_lt_zero _)
  | j + 1, k, hj, hk, hI => by
    show body (lpO body j) (st k) = some v
    rcases h k hk hI (lpO body j) with q | ⟨q1, q2, q3⟩
    · exact q
    · rw [q3]
      exact lpO_det st I n h j (k + 1) (by omega) q1 q2
theorem lpO_d {α β : Type} {body : (α → Option β) → α → Option β} {v : β} (st : Nat → α) (I : Nat → Prop) (n : Nat) {a : α} (ha : a = st 0) (h0 : I 0) (hn : n < 4096)
    (h : ∀ k, k ≤ n → I k → ∀ kf, body kf (st k) = some v ∨ (k < n ∧ I (k + 1) ∧ body kf (st k) = kf (st (k + 1)))) : lpO body FUEL a = some v := by
  rw [ha]
  exact lpO_det st I n h FUEL 0 (by unfold FUEL; omega) (Nat.zero_le _) h0
theorem lp_det {α β : Type} {body : (α → Res β) → α → Res β} {v : (β ⊕ String) × Mem} (st : Nat → α) (I : Nat → Prop) (n : Nat)
    (h : ∀ k, k ≤ n → I k → ∀ kf, body kf (st k) = some v ∨ (k < n ∧ I (k + 1) ∧ body kf (st k) = kf (st (k + 1)))) : ∀ j k, n - k < j → k ≤ n → I k → lp body j (st k) = some v
  | 0, _, hj, _, _ => absurd hj (Nat.not_lt_zero _)
  | j + 1, k, hj, hk, hI => by
    show body (lp body j) (st k) = some v
    rcases h k hk hI (lp body j) with q | ⟨q1, q2, q3⟩
    · exact q
    · rw [q3]
      exact lp_det st I n h j (k + 1) (by omega) q1 q2
theorem lp_d {α β : Type} {body : (α → Res β) → α → Res β} {v : (β ⊕ String) × Mem} (st : Nat → α) (I : Nat → Prop) (n : Nat) {a : α} (ha : a = st 0) (h0 : I 0) (hn : n < 4096)
    (h : ∀ k, k ≤ n → I k → ∀ kf, body kf (st k) = some v ∨ (k < n ∧ I (k + 1) ∧ body kf (st k) = kf (st (k + 1)))) : lp body FUEL a = some v := by
  rw [ha]
  exact lp_det st I n h FUEL 0 (by unfold FUEL; omega) (Nat.zero_le _) h0
theorem lp_inv {α β : Type} {body : (α → Res β) → α → Res β} {Q : β ⊕ String → Mem → Prop} (I : Nat → α → Prop) (n : Nat)
    (h : ∀ k a kf, k ≤ n → I k a → (∀ a', k < n → I (k + 1) a' → okR (kf a') Q) → okR (body kf a) Q) : ∀ j k a, n - k < j → k ≤ n → I k a → okR (lp body j a) Q
  | 0, _, _, hj, _, _ => absurd hj (Nat.not_lt_zero _)
  | j + 1, k, a, hj, hk, hI => h k a (lp body j) hk hI (fun a' q1 q2 => lp_inv I n h j (k + 1) a' (by omega) q1 q2)
theorem lp_i {α β : Type} {body : (α → Res β) → α → Res β} {Q : β ⊕ String → Mem → Prop} (I : Nat → α → Prop) (n : Nat) {a : α} (h0 : I 0 a) (hn : n < 4096)
    (h : ∀ k a kf, k ≤ n → I k a → (∀ a', k < n → I (k + 1) a' → okR (kf a') Q) → okR (body kf a) Q) : okR (lp body FUEL a) Q :=
  lp_inv I n h FUEL 0 a (by unfold FUEL; omega) (Nat.zero_le _) h0
/-! small numbers -/
theorem ltI (n : Nat) : (no_index (OfNat.ofNat n) : Int32) = nI (@OfNat.ofNat Nat n (instOfNatNat n)) := rfl
theorem ltJ (n : Nat) : (no_index (OfNat.ofNat n) : Int64) = lN (@OfNat.ofNat Nat n (instOfNatNat n)) := rfl
def m1 : Int32 := -1
theorem ltm : -nI 1 = m1 := rfl
theorem m1_eq {a : Nat} (h : a < 2 ^ 31) : (nI a = m1) = False := by
  apply propext
  refine ⟨fun q => ?_, False.elim⟩
  have := congrArg Int32.toInt q
  rw [nI_toInt h, show m1.toInt = -1 from rfl] at this
  omega
theorem eq_m1 {a : Nat} (h : a < 2 ^ 31) : (m1 = nI a) = False := by
  rw [← m1_eq h]
  exact propext ⟨Eq.symm, Eq.symm⟩
theorem nN {a : Nat} (h : a < 2 ^ 31) : (nI a).toNatClampNeg = a := nI_clamp h
theorem nE {a b : Nat} (ha : a < 2 ^ 31) (hb : b < 2 ^ 31) : (nI a = nI b) = (a = b) := propext (nI_eq ha hb)
theorem nL {a b : Nat} (ha : a < 2 ^ 31) (hb : b < 2 ^ 31) : (nI a < nI b) = (a < b) := propext (nI_ltI ha hb)
theorem nLe {a b : Nat} (ha : a < 2 ^ 31) (hb : b < 2 ^ 31) : (nI a ≤ nI b) = (a ≤ b) := propext (nI_leI ha hb)
theorem nS' {a b : Nat} (h : b ≤ a) : nI a - nI b = nI (a - b) := pk_sub h
theorem nM (a b : Nat) : nI a * nI b = nI (a * b) := pk_mul a b
theorem nIb {a N : Nat} (h : a < 2 ^ 31) : ib (nI a) N = (a < N) := by
  apply propext
  unfold ib
  rw [nN h]
  constructor
  · intro q
    exact Nat.not_le.mp fun z => q (Or.inr z)
  · intro q z
    rcases z with z | z
    · exact nI_pos h z
    · omega
/-- a number that may be wanting, and as the class has it: -1 where it is -/
def eo : Option Nat → Int32
  | none => m1
  | some k => nI k
/-- .. and as the reference has it: 0 where it is wanting, else one more -/
def e1 : Option Nat → Int32
  | none => nI 0
  | some k => nI (k + 1)
def bI (b : Bool) : Int32 := if b then nI 1 else nI 0
/-- the first place below n -/
def fnd (P : Nat → Bool) : Nat → Option Nat
  | 0 => none
  | n + 1 => match fnd P n with
    | some k => some k
    | none => if P n then some n else none
/-- a sum -/
def sm (f : Nat → Nat) : Nat → Nat
  | 0 => 0
  | n + 1 => sm f n + f n
theorem fnd_none {P : Nat → Bool} {n : Nat} (h : ∀ k, k < n → P k = false) : fnd P n = none := by
  induction n with
  | zero => rfl
  | succ n ih => rw [fnd, ih (fun k hk => h k (by omega))]; simp [h n (by omega)]
theorem fnd_some {P : Nat → Bool} {n k : Nat} (hk : k < n) (hp : P k = true) (h : ∀ j, j < k → P j = false) : fnd P n = some k := by
  induction n with
  | zero => omega
  | succ n ih =>
    rw [fnd]
    by_cases q : k < n
    · rw [ih q]
    · have : k = n := by omega
      subst this
      rw [fnd_none h]
      simp [hp]
theorem fnd_spec {P : Nat → Bool} {n k : Nat} (h : fnd P n = some k) : k < n ∧ P k = true ∧ ∀ j, j < k → P j = false := by
  induction n with
  | zero => cases h
  | succ n ih =>
    rw [fnd] at h
    cases hf : fnd P n with
    | some j =>
      rw [hf] at h
      cases h
      obtain ⟨h1, h2⟩ := ih hf
      exact ⟨by omega, h2⟩
    | none =>
      rw [hf] at h
      have hn : ∀ j, j < n → P j = false := by
        intro j hj
        cases hq : P j with
        | false => rfl
        | true =>
          exfalso
          have : ∀ m, m ≤ n → j < m → fnd P m ≠ none := by
            intro m
            induction m with
            | zero => intro _ q; omega
            | succ m ihm =>
              intro q1 q2 q3
              rw [fnd] at q3
              cases hm : fnd P m with
              | some x => rw [hm] at q3; cases q3
              | none =>
                rw [hm] at q3
                by_cases z : j < m
                · exact ihm (by omega) z hm
                · have : j = m := by omega
                  subst this
                  simp [hq] at q3
          exact this n (Nat.le_refl _) hj hf
      by_cases hp : P n = true
      · simp [hp] at h
        subst h
        exact ⟨by omega, hp, hn⟩
      · simp [hp] at h
theorem fnd_no {P : Nat → Bool} {n : Nat} (h : fnd P n = none) : ∀ k, k < n → P k = false := by
  intro k hk
  cases hp : P k with
  | false => rfl
  | true =>
    exfalso
    have : ∀ m, k < m → fnd P m ≠ none := by
      intro m
      induction m with
      | zero => intro q; omega
      | succ m ih =>
        intro q1 q3
        rw [fnd] at q3
        cases hm : fnd P m with
        | some x => rw [hm] at q3; cases q3
        | none =>
          rw [hm] at q3
          by_cases z : k < m
          · exact ih z hm
          · have : k = m := by omega
            subst this
            simp [hp] at q3
    exact this n hk h
theorem sm_le {f : Nat → Nat} {n c : Nat} (h : ∀ k, k < n → f k ≤ c) : sm f n ≤ n * c := by
  induction n with
  | zero => exact Nat.zero_le _
  | succ n ih =>
    rw [sm, Nat.succ_mul]
    exact Nat.add_le_add (ih fun k hk => h k (by omega)) (h n (by omega))
theorem sm_congr {f g : Nat → Nat} {n : Nat} (h : ∀ k, k < n → f k = g k) : sm f n = sm g n := by
  induction n with
  | zero => rfl
  | succ n ih => rw [sm, sm, ih (fun k hk => h k (by omega)), h n (by omega)]
theorem sm_mono {f : Nat → Nat} {a b : Nat} (h : a ≤ b) : sm f a ≤ sm f b := by
  induction b with
  | zero => have : a = 0 := by omega
            subst this; exact Nat.le_refl _
  | succ b ih =>
    by_cases q : a = b + 1
    · subst q; exact Nat.le_refl _
    · exact Nat.le_trans (ih (by omega)) (Nat.le_add_right _ _)
theorem fnd_congr {P Q : Nat → Bool} {n : Nat} (h : ∀ k, k < n → P k = Q k) : fnd P n = fnd Q n := by
  induction n with
  | zero => rfl
  | succ n ih => rw [fnd, fnd, ih (fun k hk => h k (by omega)), h n (by omega)]
