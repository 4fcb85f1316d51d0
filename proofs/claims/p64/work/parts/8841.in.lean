/-! ===== the empty census: what stands before the first call ===== -/
def th0 : Th := ((0, 0, 0, 0, 0, 0, 0), (fun _ => 0), (fun _ => 0), (fun _ => false), (fun _ => none), (fun _ => 0), (fun _ => 0), (fun _ => 0), (fun _ => none))
def ab0 : Ab := (th0, (0, fun _ => th0), none, (0, fun _ => 0), (0, fun _ => 0), none, none)
/-- the memory that the constructor leaves: c cells made, n slots -/
def ini (c n : Nat) : Mem := ((fun a k => if 268 ≤ a ∧ a ≤ 278 then -1 else if (a = 0 ∧ (k = 8 ∨ k = 9)) ∨ (a = 8 ∧ (k = 13 ∨ k = 14)) then -1 else 0), (fun _ _ => 0), (fun _ _ => 0), (fun _ => (16, 0, fun _ => 0)), c, n)
theorem wt0 : WT 0 th0 := by
  refine ⟨by decide, by decide, ⟨by decide, by decide, by decide, by decide, by decide⟩, fun j k _ h => absurd h (Nat.not_lt_zero _), fun k h => absurd h (Nat.not_lt_zero _), ⟨fun _ => 0, fun k h => absurd h (Nat.not_lt_zero _)⟩, fun r h => absurd h (Nat.not_lt_zero _), fun r => ⟨Nat.zero_le _, Nat.zero_le _, fun _ => ⟨rfl, rfl⟩, fun x e => (by cases e)⟩⟩
theorem wa0 : WA 0 ab0 := ⟨wt0, by decide, fun j h => absurd h (Nat.not_lt_zero _), fun T e => (by cases e), Nat.zero_le _, Nat.zero_le _, fun k e => (by cases e), fun k e => (by cases e), fun k h => absurd h (Nat.not_lt_zero _), fun k h => absurd h (Nat.not_lt_zero _)⟩
theorem ck0 {c n : Nat} : CK (ini c n) ab0 := by
  refine ⟨⟨0, by decide, rfl, rfl, ⟨⟨rfl, rfl, rfl, rfl, rfl, rfl, rfl⟩, fun r _ => ⟨rfl, rfl, rfl, rfl⟩, fun k h => absurd h (Nat.not_lt_zero _)⟩, fun j h => absurd h (Nat.not_lt_zero _)⟩, rfl, fun T e => (by cases e), rfl, rfl, ⟨rfl, fun k h => absurd h (Nat.not_lt_zero _)⟩, ⟨rfl, fun k h => absurd h (Nat.not_lt_zero _)⟩⟩
theorem cb0 {c n : Nat} : Cb (ini c n) := ⟨by show 16 ≤ 802; decide, by show 16 ≤ 802; decide⟩
