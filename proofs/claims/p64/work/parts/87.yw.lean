/-! ===== the wrappers: what they answer, and what they leave ===== -/
def pcl (kind : Nat) : List Nat := [[0, 0, 0, 1, 2], [0, 0, 1, 2, 3], [0, 0, 1, 2, 3], [0, 0, 1, 2, 3], [0, 1, 2, 0, 3], [0, 1, 0, 0, 2], [0, 1, 0, 2, 3], [0, 1, 0, 0, 2], [0, 0, 1, 0, 2], [0, 0, 1, 0, 2], [0, 0, 2, 1, 0], [0, 0, 1, 0, 2]].getD kind []
section
variable {T : Th} {p q : Int32}
theorem rs_pc {kind c : Nat} (hk : kind < 12) (h : rs T kind p q = .inl c) : 1 ≤ (pcl kind).getD c 0 ∧ (pcl kind).getD c 0 ≤ 3 := by
  rcases (show kind = 0 ∨ kind = 1 ∨ kind = 2 ∨ kind = 3 ∨ kind = 4 ∨ kind = 5 ∨ kind = 6 ∨ kind = 7 ∨ kind = 8 ∨ kind = 9 ∨ kind = 10 ∨ kind = 11 by omega) with rfl | rfl | rfl | rfl | rfl | rfl | rfl | rfl | rfl | rfl | rfl | rfl
  · have h : rs0 T p = .inl c := h
    unfold rs0 at h
    repeat' split at h
    all_goals first | (cases h; decide) | (cases h; done)
  · have h : rs1 T p q = .inl c := h
    unfold rs1 at h
    repeat' split at h
    all_goals first | (cases h; decide) | (cases h; done)
  · have h : rs2 T p q = .inl c := h
    unfold rs2 at h
    repeat' split at h
    all_goals first | (cases h; decide) | (cases h; done)
  · have h : rs3 T p q = .inl c := h
    unfold rs3 at h
    repeat' split at h
    all_goals first | (cases h; decide) | (cases h; done)
  · have h : rs4 T p q = .inl c := h
    unfold rs4 at h
    repeat' split at h
    all_goals first | (cases h; decide) | (cases h; done)
  · have h : rs5 T p = .inl c := h
    unfold rs5 at h
    repeat' split at h
    all_goals first | (cases h; decide) | (cases h; done)
  · have h : rs6 T p q = .inl c := h
    unfold rs6 at h
    repeat' split at h
    all_goals first | (cases h; decide) | (cases h; done)
  · have h : rs7 T p = .inl c := h
    unfold rs7 at h
    repeat' split at h
    all_goals first | (cases h; decide) | (cases h; done)
  · have h : rs8 true T p = .inl c := h
    unfold rs8 at h
    repeat' split at h
    all_goals first | (cases h; decide) | (cases h; done)
  · have h : rs8 false T p = .inl c := h
    unfold rs8 at h
    repeat' split at h
    all_goals first | (cases h; decide) | (cases h; done)
  · have h : rs10 T p q = .inl c := h
    unfold rs10 at h
    repeat' split at h
    all_goals first | (cases h; decide) | (cases h; done)
  · have h : rs8 true T p = .inl c := h
    unfold rs8 at h
    repeat' split at h
    all_goals first | (cases h; decide) | (cases h; done)
end
/-- the answer of a wrapper -/
def vL (L : List String) : Nat ⊕ Int32 → Int64
  | .inr v => v.toInt64
  | .inl c => (cd L 1 (xn c)).getD 0
def vZ (L : List String) : Nat ⊕ Int32 → Int64
  | .inr v => if v = 0 then 0 else 1
  | .inl c => (cd L 1 (xn c)).getD 0
/-- every refusal has its handler -/
def Cdo {α : Type} (L : List String) (r : Nat ⊕ α) : Prop := ∀ c, r = .inl c → ∃ u, cd L 1 (xn c) = some u
theorem tJ_le (n : Nat) : tJ n ≤ -4000000000000000001 := by
  unfold tJ
  split
  · decide
  · split <;> decide
theorem cd_le {E : String} {u : Int64} : ∀ (L : List String) (n : Nat), cd L n E = some u → u ≤ -4000000000000000001
  | [], _, h => by cases h
  | x :: l, n, h => by
    unfold cd at h
    by_cases q : x = E
    · rw [if_pos q] at h; cases h; exact tJ_le n
    · rw [if_neg q] at h; exact cd_le l (n + 1) h
theorem vL_thr {L : List String} {c : Nat} (h : Cdo (α := Int32) L (.inl c)) : vL L (.inl c) ≤ -4000000000000000001 := by
  obtain ⟨u, hu⟩ := h c rfl
  show (cd L 1 (xn c)).getD 0 ≤ _
  rw [hu]
  exact cd_le L 1 hu
/-- an answer, and what is left behind it -/
def mw {α : Type} (k : Nat) (s : Mem) (x : Res α) (v : α) (A' : Ab) : Prop := ∃ s1, x = some (.inl v, s1) ∧ CK s1 A' ∧ Ku k s s1
section
variable {s s1 s2 : Mem} {A A' : Ab} {L : List String} {m n k : Nat} {p q : Int32}
theorem w_J {x : Res Int32} {r : Nat ⊕ Int32} (h : okR x (cl s r A')) (hL : Cdo L r) : mw 1 s (wJ L x) (vL L r) A' := by
  obtain ⟨o, s1, rfl, rfl, h1, h2⟩ := h
  cases r with
  | inl c =>
    obtain ⟨u, e⟩ := hL c rfl
    refine ⟨s1, ?_, h1, h2⟩
    show (cd L 1 (xn c)).map (fun u => (Sum.inl u, s1)) = some (.inl ((cd L 1 (xn c)).getD 0), s1)
    rw [e]
    rfl
  | inr v => exact ⟨s1, rfl, h1, h2⟩
theorem w_Z {x : Res Int32} {r : Nat ⊕ Int32} (h : okR x (cl s r A')) (hL : Cdo L r) : mw 1 s (wZ L x) (vZ L r) A' := by
  obtain ⟨o, s1, rfl, rfl, h1, h2⟩ := h
  cases r with
  | inl c =>
    obtain ⟨u, e⟩ := hL c rfl
    refine ⟨s1, ?_, h1, h2⟩
    show (cd L 1 (xn c)).map (fun u => (Sum.inl u, s1)) = some (.inl ((cd L 1 (xn c)).getD 0), s1)
    rw [e]
    rfl
  | inr v =>
    refine ⟨s1, ?_, h1, h2⟩
    show (if v = 0 then (some (.inl 0, s1) : Res Int64) else some (.inl 1, s1)) = some (.inl (if v = 0 then 0 else 1), s1)
    by_cases q : v = 0
    · rw [if_pos q, if_pos q]
    · rw [if_neg q, if_neg q]
theorem w_R {α : Type} {x : Res α} {v : α} (h : okR x (cl s (.inr v) A')) : mw 1 s x v A' := by
  obtain ⟨o, s1, e, rfl, h1, h2⟩ := h
  exact ⟨s1, e, h1, h2⟩
theorem cdo_ch {kind : Nat} (hk : kind < 12) (h : ∀ c, (c = 1 ∨ c = 2 ∨ c = 3 ∨ c = 4) → 1 ≤ (pcl kind).getD c 0 → (cd L 1 (xn c)).isSome = true) : Cdo L (chA A kind p q).1 := by
  intro c e
  unfold chA at e
  cases e2 : rs (aT A) kind p q with
  | inr ab => obtain ⟨a, b⟩ := ab; rw [e2] at e; cases e
  | inl c' =>
    rw [e2] at e
    cases e
    have h1 := rs_pc hk e2
    exact Option.isSome_iff_exists.mp (h c (rs_cd e2) h1.1)
theorem cdo_of {α : Type} {r : Nat ⊕ α} {P : Nat → Prop} (h1 : ∀ c, r = .inl c → P c) (h2 : ∀ c, P c → (cd L 1 (xn c)).isSome = true) : Cdo L r := fun c e => Option.isSome_iff_exists.mp (h2 c (h1 c e))
end
section
variable {α : Type} {T : Th} {p q : Int32} {c : Nat}
theorem rowQ_l {g : Nat → Nat ⊕ α} {P : Nat → Prop} (h2 : P 2) (hg : ∀ r c, g r = .inl c → P c) (h : rowQ T p g = .inl c) : P c := by
  unfold rowQ at h
  cases e : rwp T p with
  | none => rw [e] at h; cases h; exact h2
  | some r => rw [e] at h; exact hg r c h
theorem actQ_l {g : Nat → Nat ⊕ α} {P : Nat → Prop} (h2 : P 1) (hg : ∀ r c, g r = .inl c → P c) (h : actQ T p g = .inl c) : P c := by
  unfold actQ at h
  cases e : sltp T p with
  | none => rw [e] at h; cases h; exact h2
  | some r => rw [e] at h; exact hg r c h
theorem rkQ_l {g : Nat → Nat ⊕ α} {P : Nat → Prop} (h2 : P 1) (hg : ∀ r c, g r = .inl c → P c) (h : rkQ T p g = .inl c) : P c := by
  unfold rkQ at h
  cases e : rkp T p with
  | none => rw [e] at h; cases h; exact h2
  | some r => rw [e] at h; exact hg r c h
theorem boxQ_l {g : Nat → Nat ⊕ α} {P : Nat → Prop} (h2 : P 3) (hg : ∀ r c, g r = .inl c → P c) (h : boxQ p g = .inl c) : P c := by
  unfold boxQ at h
  cases e : bxp p with
  | none => rw [e] at h; cases h; exact h2
  | some r => rw [e] at h; exact hg r c h
theorem rngQ_l {g : Nat → Nat → Nat ⊕ α} {P : Nat → Prop} (h2 : P 2) (h3 : P 3) (hg : ∀ a b c, g a b = .inl c → P c) (h : rngQ T p q g = .inl c) : P c := by
  unfold rngQ at h
  cases e : rwp T p with
  | none => rw [e] at h; cases h; exact h2
  | some a =>
    rw [e] at h
    cases e2 : rwp T q with
    | none => rw [e2] at h; cases h; exact h2
    | some b =>
      rw [e2] at h
      dsimp only at h
      by_cases z : a ≤ b
      · rw [if_pos z] at h; exact hg a b c h
      · rw [if_neg z] at h; cases h; exact h3
end
section
variable {s : Mem} {A : Ab} {m : Nat} {p q : Int32}
def L_addRow : List String := ["java/lang/IllegalArgumentException", "java/lang/IllegalStateException"]
def L_addPhantoms : List String := ["java/lang/IndexOutOfBoundsException", "java/lang/IllegalArgumentException", "java/lang/IllegalStateException"]
def L_removePhantoms : List String := ["java/lang/IndexOutOfBoundsException", "java/lang/IllegalArgumentException", "java/lang/IllegalStateException"]
def L_add : List String := ["java/lang/IndexOutOfBoundsException", "java/lang/IllegalArgumentException", "java/lang/IllegalStateException"]
def L_move : List String := ["java/util/NoSuchElementException", "java/lang/IndexOutOfBoundsException", "java/lang/IllegalStateException"]
def L_remove : List String := ["java/util/NoSuchElementException", "java/lang/IllegalStateException"]
def L_setHeir : List String := ["java/util/NoSuchElementException", "java/lang/IllegalArgumentException", "java/lang/IllegalStateException"]
def L_clearHeir : List String := ["java/util/NoSuchElementException", "java/lang/IllegalStateException"]
def L_lock : List String := ["java/lang/IndexOutOfBoundsException", "java/lang/IllegalStateException"]
def L_unlock : List String := ["java/lang/IndexOutOfBoundsException", "java/lang/IllegalStateException"]
def L_nameRow : List String := ["java/lang/IllegalArgumentException", "java/lang/IndexOutOfBoundsException"]
def L_spread : List String := ["java/lang/IndexOutOfBoundsException", "java/lang/IllegalStateException"]
def L_capacity : List String := ["java/lang/IndexOutOfBoundsException"]
def L_occupancy : List String := ["java/lang/IndexOutOfBoundsException"]
def L_isLocked : List String := ["java/lang/IndexOutOfBoundsException"]
def L_isCrowded : List String := ["java/lang/IndexOutOfBoundsException"]
def L_idInRow : List String := ["java/lang/IndexOutOfBoundsException", "java/util/NoSuchElementException"]
def L_rowOf : List String := ["java/util/NoSuchElementException"]
def L_loudness : List String := ["java/util/NoSuchElementException"]
def L_positionInRow : List String := ["java/util/NoSuchElementException"]
def L_heir : List String := ["java/util/NoSuchElementException", "java/lang/IllegalStateException"]
def L_lastHeir : List String := ["java/util/NoSuchElementException"]
def L_lastHeirByDoubling : List String := ["java/util/NoSuchElementException"]
def L_stepsToLastHeir : List String := ["java/util/NoSuchElementException"]
def L_bequeathers : List String := ["java/util/NoSuchElementException"]
def L_countInRows : List String := ["java/lang/IndexOutOfBoundsException", "java/lang/IllegalArgumentException"]
def L_countInRowsByTree : List String := ["java/lang/IndexOutOfBoundsException", "java/lang/IllegalArgumentException"]
def L_idByRank : List String := ["java/util/NoSuchElementException"]
def L_idByRankByTree : List String := ["java/util/NoSuchElementException"]
def L_rank : List String := ["java/util/NoSuchElementException"]
def L_loudest : List String := ["java/util/NoSuchElementException"]
def L_namedRow : List String := ["java/lang/IllegalArgumentException", "java/util/NoSuchElementException"]
def L_boxCount : List String := ["java/lang/IndexOutOfBoundsException"]
def L_formatRow : List String := ["java/lang/IndexOutOfBoundsException"]
def L_formatEcho : List String := ["java/util/NoSuchElementException"]
def L_lineChar : List String := ["java/lang/IndexOutOfBoundsException"]
def L_append : List String := ["java/lang/IllegalArgumentException", "java/lang/IllegalStateException"]
def L_run : List String := ["java/lang/IllegalArgumentException", "java/lang/IllegalStateException"]
def L_undo : List String := ["java/lang/IllegalStateException"]
def L_restore : List String := ["java/lang/IllegalStateException"]
theorem cdo_addRow : Cdo L_addRow (chA A 0 p 0).1 := cdo_ch (by decide) (by intro c hc; rcases hc with rfl | rfl | rfl | rfl <;> decide +kernel)
theorem y_addRow (h : CK s A) (W : WA m A) (hm : m < 10000) : mw 1 s (m_L_addRow p s) (vL L_addRow (chA A 0 p 0).1) (chA A 0 p 0).2 := w_J (k_addRow h W hm) cdo_addRow
theorem cdo_addPhantoms : Cdo L_addPhantoms (chA A 1 p q).1 := cdo_ch (by decide) (by intro c hc; rcases hc with rfl | rfl | rfl | rfl <;> decide +kernel)
theorem y_addPhantoms (h : CK s A) (W : WA m A) (hm : m < 10000) : mw 1 s (m_L_addPhantoms p q s) (vL L_addPhantoms (chA A 1 p q).1) (chA A 1 p q).2 := w_J (k_addPhantoms h W hm) cdo_addPhantoms
theorem cdo_removePhantoms : Cdo L_removePhantoms (chA A 2 p q).1 := cdo_ch (by decide) (by intro c hc; rcases hc with rfl | rfl | rfl | rfl <;> decide +kernel)
theorem y_removePhantoms (h : CK s A) (W : WA m A) (hm : m < 10000) : mw 1 s (m_L_removePhantoms p q s) (vL L_removePhantoms (chA A 2 p q).1) (chA A 2 p q).2 := w_J (k_removePhantoms h W hm) cdo_removePhantoms
theorem cdo_add : Cdo L_add (chA A 3 p q).1 := cdo_ch (by decide) (by intro c hc; rcases hc with rfl | rfl | rfl | rfl <;> decide +kernel)
theorem y_add (h : CK s A) (W : WA m A) (hm : m < 10000) : mw 1 s (m_L_add p q s) (vL L_add (chA A 3 p q).1) (chA A 3 p q).2 := w_J (k_add h W hm) cdo_add
theorem cdo_move : Cdo L_move (chA A 4 p q).1 := cdo_ch (by decide) (by intro c hc; rcases hc with rfl | rfl | rfl | rfl <;> decide +kernel)
theorem y_move (h : CK s A) (W : WA m A) (hm : m < 10000) : mw 1 s (m_L_move p q s) (vL L_move (chA A 4 p q).1) (chA A 4 p q).2 := w_J (k_move h W hm) cdo_move
theorem cdo_remove : Cdo L_remove (chA A 5 p 0).1 := cdo_ch (by decide) (by intro c hc; rcases hc with rfl | rfl | rfl | rfl <;> decide +kernel)
theorem y_remove (h : CK s A) (W : WA m A) (hm : m < 10000) : mw 1 s (m_L_remove p s) (vL L_remove (chA A 5 p 0).1) (chA A 5 p 0).2 := w_J (k_remove h W hm) cdo_remove
theorem cdo_setHeir : Cdo L_setHeir (chA A 6 p q).1 := cdo_ch (by decide) (by intro c hc; rcases hc with rfl | rfl | rfl | rfl <;> decide +kernel)
theorem y_setHeir (h : CK s A) (W : WA m A) (hm : m < 10000) : mw 1 s (m_L_setHeir p q s) (vL L_setHeir (chA A 6 p q).1) (chA A 6 p q).2 := w_J (k_setHeir h W hm) cdo_setHeir
theorem cdo_clearHeir : Cdo L_clearHeir (chA A 7 p 0).1 := cdo_ch (by decide) (by intro c hc; rcases hc with rfl | rfl | rfl | rfl <;> decide +kernel)
theorem y_clearHeir (h : CK s A) (W : WA m A) (hm : m < 10000) : mw 1 s (m_L_clearHeir p s) (vL L_clearHeir (chA A 7 p 0).1) (chA A 7 p 0).2 := w_J (k_clearHeir h W hm) cdo_clearHeir
theorem cdo_lock : Cdo L_lock (chA A 8 p 0).1 := cdo_ch (by decide) (by intro c hc; rcases hc with rfl | rfl | rfl | rfl <;> decide +kernel)
theorem y_lock (h : CK s A) (W : WA m A) (hm : m < 10000) : mw 1 s (m_L_lock p s) (vL L_lock (chA A 8 p 0).1) (chA A 8 p 0).2 := w_J (k_lock h W hm) cdo_lock
theorem cdo_unlock : Cdo L_unlock (chA A 9 p 0).1 := cdo_ch (by decide) (by intro c hc; rcases hc with rfl | rfl | rfl | rfl <;> decide +kernel)
theorem y_unlock (h : CK s A) (W : WA m A) (hm : m < 10000) : mw 1 s (m_L_unlock p s) (vL L_unlock (chA A 9 p 0).1) (chA A 9 p 0).2 := w_J (k_unlock h W hm) cdo_unlock
theorem cdo_nameRow : Cdo L_nameRow (chA A 10 p q).1 := cdo_ch (by decide) (by intro c hc; rcases hc with rfl | rfl | rfl | rfl <;> decide +kernel)
theorem y_nameRow (h : CK s A) (W : WA m A) (hm : m < 10000) : mw 1 s (m_L_nameRow p q s) (vL L_nameRow (chA A 10 p q).1) (chA A 10 p q).2 := w_J (k_nameRow h W hm) cdo_nameRow
theorem cdo_spread : Cdo L_spread (chA A 11 p 0).1 := cdo_ch (by decide) (by intro c hc; rcases hc with rfl | rfl | rfl | rfl <;> decide +kernel)
theorem y_spread (h : CK s A) (W : WA m A) (hm : m < 10000) : mw 1 s (m_L_spread p s) (vL L_spread (chA A 11 p 0).1) (chA A 11 p 0).2 := w_J (k_spread h W hm) cdo_spread
theorem cdo_capacity : Cdo L_capacity (a_capacity (aT A) p) := cdo_of (P := fun c => c = 2) (fun c e => rowQ_l (P := fun c => c = 2) rfl (fun r c e => by simp at e) e) (by rintro c rfl; decide +kernel)
theorem y_capacity (h : CK s A) (w : Sz (aT A)) : mw 1 s (m_L_capacity p s) (vL L_capacity (a_capacity (aT A) p)) A := w_J (k_capacity h w) cdo_capacity
theorem cdo_occupancy : Cdo L_occupancy (a_occupancy (aT A) p) := cdo_of (P := fun c => c = 2) (fun c e => rowQ_l (P := fun c => c = 2) rfl (fun r c e => by simp at e) e) (by rintro c rfl; decide +kernel)
theorem y_occupancy (h : CK s A) (w : Sz (aT A)) : mw 1 s (m_L_occupancy p s) (vL L_occupancy (a_occupancy (aT A) p)) A := w_J (k_occupancy h w) cdo_occupancy
theorem cdo_boxCount : Cdo L_boxCount (a_boxCount (aT A) p) := cdo_of (P := fun c => c = 2) (fun c e => rowQ_l (P := fun c => c = 2) rfl (fun r c e => by simp at e) e) (by rintro c rfl; decide +kernel)
theorem y_boxCount (h : CK s A) (w : Sz (aT A)) : mw 1 s (m_L_boxCount p s) (vL L_boxCount (a_boxCount (aT A) p)) A := w_J (k_boxCount h w) cdo_boxCount
theorem cdo_isLocked : Cdo L_isLocked (a_isLocked (aT A) p) := cdo_of (P := fun c => c = 2) (fun c e => rowQ_l (P := fun c => c = 2) rfl (fun r c e => by simp at e) e) (by rintro c rfl; decide +kernel)
theorem y_isLocked (h : CK s A) (w : Sz (aT A)) : mw 1 s (m_L_isLocked p s) (vZ L_isLocked (a_isLocked (aT A) p)) A := w_Z (k_isLocked h w) cdo_isLocked
theorem cdo_isCrowded : Cdo L_isCrowded (a_isCrowded (aT A) p) := cdo_of (P := fun c => c = 2) (fun c e => rowQ_l (P := fun c => c = 2) rfl (fun r c e => by simp at e) e) (by rintro c rfl; decide +kernel)
theorem y_isCrowded (h : CK s A) (w : Sz (aT A)) : mw 1 s (m_L_isCrowded p s) (vZ L_isCrowded (a_isCrowded (aT A) p)) A := w_Z (k_isCrowded h w) cdo_isCrowded
theorem cdo_idInRow : Cdo L_idInRow (a_idInRow (aT A) p q) := cdo_of (P := fun c => c = 2 ∨ c = 1) (fun c e => rowQ_l (P := fun c => c = 2 ∨ c = 1) (Or.inl rfl) (fun r c e => by revert e; split <;> intro e <;> simp at e <;> omega) e) (by rintro c (rfl | rfl) <;> decide +kernel)
theorem y_idInRow (h : CK s A) (w : Sz (aT A)) : mw 1 s (m_L_idInRow p q s) (vL L_idInRow (a_idInRow (aT A) p q)) A := w_J (k_idInRow h w) cdo_idInRow
theorem cdo_rowOf : Cdo L_rowOf (a_rowOf (aT A) p) := cdo_of (P := fun c => c = 1) (fun c e => actQ_l (P := fun c => c = 1) rfl (fun r c e => by simp at e) e) (by rintro c rfl; decide +kernel)
theorem y_rowOf (h : CK s A) (w : Sz (aT A)) : mw 1 s (m_L_rowOf p s) (vL L_rowOf (a_rowOf (aT A) p)) A := w_J (k_rowOf h w) cdo_rowOf
theorem cdo_loudness : Cdo L_loudness (a_loudness (aT A) p) := cdo_of (P := fun c => c = 1) (fun c e => actQ_l (P := fun c => c = 1) rfl (fun r c e => by simp at e) e) (by rintro c rfl; decide +kernel)
theorem y_loudness (h : CK s A) (w : Sz (aT A)) : mw 1 s (m_L_loudness p s) (vL L_loudness (a_loudness (aT A) p)) A := w_J (k_loudness h w) cdo_loudness
theorem cdo_positionInRow : Cdo L_positionInRow (a_positionInRow (aT A) p) := cdo_of (P := fun c => c = 1) (fun c e => actQ_l (P := fun c => c = 1) rfl (fun r c e => by simp at e) e) (by rintro c rfl; decide +kernel)
theorem y_positionInRow (h : CK s A) (w : Sz (aT A)) : mw 1 s (m_L_positionInRow p s) (vL L_positionInRow (a_positionInRow (aT A) p)) A := w_J (k_positionInRow h w) cdo_positionInRow
theorem cdo_bequeathers : Cdo L_bequeathers (a_bequeathers (aT A) p) := cdo_of (P := fun c => c = 1) (fun c e => actQ_l (P := fun c => c = 1) rfl (fun r c e => by simp at e) e) (by rintro c rfl; decide +kernel)
theorem y_bequeathers (h : CK s A) (w : Sz (aT A)) : mw 1 s (m_L_bequeathers p s) (vL L_bequeathers (a_bequeathers (aT A) p)) A := w_J (k_bequeathers h w) cdo_bequeathers
theorem cdo_rank : Cdo L_rank (a_rank (aT A) p) := cdo_of (P := fun c => c = 1) (fun c e => actQ_l (P := fun c => c = 1) rfl (fun r c e => by simp at e) e) (by rintro c rfl; decide +kernel)
theorem y_rank (h : CK s A) (w : Sz (aT A)) : mw 1 s (m_L_rank p s) (vL L_rank (a_rank (aT A) p)) A := w_J (k_rank h w) cdo_rank
theorem cdo_heir : Cdo L_heir (a_heir (aT A) p) := cdo_of (P := fun c => c = 1 ∨ c = 4) (fun c e => actQ_l (P := fun c => c = 1 ∨ c = 4) (Or.inl rfl) (fun r c e => by revert e; split <;> intro e <;> simp at e <;> omega) e) (by rintro c (rfl | rfl) <;> decide +kernel)
theorem y_heir (h : CK s A) (w : Sz (aT A)) : mw 1 s (m_L_heir p s) (vL L_heir (a_heir (aT A) p)) A := w_J (k_heir h w) cdo_heir
theorem cdo_lastHeir : Cdo L_lastHeir (a_lastHeir (aT A) p) := cdo_of (P := fun c => c = 1) (fun c e => actQ_l (P := fun c => c = 1) rfl (fun r c e => by simp at e) e) (by rintro c rfl; decide +kernel)
theorem y_lastHeir (h : CK s A) (w : Sz (aT A)) (ha : Ac (aT A)) : mw 1 s (m_L_lastHeir p s) (vL L_lastHeir (a_lastHeir (aT A) p)) A := w_J (k_lastHeir h w ha) cdo_lastHeir
theorem cdo_lastHeirByDoubling : Cdo L_lastHeirByDoubling (a_lastHeir (aT A) p) := cdo_of (P := fun c => c = 1) (fun c e => actQ_l (P := fun c => c = 1) rfl (fun r c e => by simp at e) e) (by rintro c rfl; decide +kernel)
theorem y_lastHeirByDoubling (h : CK s A) (w : Sz (aT A)) (ha : Ac (aT A)) : mw 1 s (m_L_lastHeirByDoubling p s) (vL L_lastHeirByDoubling (a_lastHeir (aT A) p)) A := w_J (k_lastHeirByDoubling h w ha) cdo_lastHeirByDoubling
theorem cdo_stepsToLastHeir : Cdo L_stepsToLastHeir (a_stepsToLastHeir (aT A) p) := cdo_of (P := fun c => c = 1) (fun c e => actQ_l (P := fun c => c = 1) rfl (fun r c e => by simp at e) e) (by rintro c rfl; decide +kernel)
theorem y_stepsToLastHeir (h : CK s A) (w : Sz (aT A)) (ha : Ac (aT A)) : mw 1 s (m_L_stepsToLastHeir p s) (vL L_stepsToLastHeir (a_stepsToLastHeir (aT A) p)) A := w_J (k_stepsToLastHeir h w ha) cdo_stepsToLastHeir
theorem cdo_countInRows : Cdo L_countInRows (a_countInRows (aT A) p q) := cdo_of (P := fun c => c = 2 ∨ c = 3) (fun c e => rngQ_l (P := fun c => c = 2 ∨ c = 3) (Or.inl rfl) (Or.inr rfl) (fun a b c e => by simp at e) e) (by rintro c (rfl | rfl) <;> decide +kernel)
theorem y_countInRows (h : CK s A) (w : Sz (aT A)) : mw 1 s (m_L_countInRows p q s) (vL L_countInRows (a_countInRows (aT A) p q)) A := w_J (k_countInRows h w) cdo_countInRows
theorem cdo_countInRowsByTree : Cdo L_countInRowsByTree (a_countInRows (aT A) p q) := cdo_of (P := fun c => c = 2 ∨ c = 3) (fun c e => rngQ_l (P := fun c => c = 2 ∨ c = 3) (Or.inl rfl) (Or.inr rfl) (fun a b c e => by simp at e) e) (by rintro c (rfl | rfl) <;> decide +kernel)
theorem y_countInRowsByTree (h : CK s A) (w : Sz (aT A)) : mw 1 s (m_L_countInRowsByTree p q s) (vL L_countInRowsByTree (a_countInRows (aT A) p q)) A := w_J (k_countInRowsByTree h w) cdo_countInRowsByTree
theorem cdo_idByRank : Cdo L_idByRank (a_idByRank (aT A) p) := cdo_of (P := fun c => c = 1) (fun c e => rkQ_l (P := fun c => c = 1) rfl (fun r c e => by simp at e) e) (by rintro c rfl; decide +kernel)
theorem y_idByRank (h : CK s A) (w : Sz (aT A)) : mw 1 s (m_L_idByRank p s) (vL L_idByRank (a_idByRank (aT A) p)) A := w_J (k_idByRank h w) cdo_idByRank
theorem cdo_idByRankByTree : Cdo L_idByRankByTree (a_idByRank (aT A) p) := cdo_of (P := fun c => c = 1) (fun c e => rkQ_l (P := fun c => c = 1) rfl (fun r c e => by simp at e) e) (by rintro c rfl; decide +kernel)
theorem y_idByRankByTree (h : CK s A) (w : Sz (aT A)) : mw 1 s (m_L_idByRankByTree p s) (vL L_idByRankByTree (a_idByRank (aT A) p)) A := w_J (k_idByRankByTree h w) cdo_idByRankByTree
theorem cdo_loudest : Cdo L_loudest (a_loudest (aT A)) := cdo_of (P := fun c => c = 1) (fun c e => by revert e; unfold a_loudest; (repeat' split) <;> intro e <;> simp at e <;> omega) (by rintro c (rfl) <;> decide +kernel)
theorem y_loudest (h : CK s A) (w : Sz (aT A)) : mw 1 s (m_L_loudest s) (vL L_loudest (a_loudest (aT A))) A := w_J (k_loudest h w) cdo_loudest
theorem cdo_namedRow : Cdo L_namedRow (a_namedRow (aT A) p) := cdo_of (P := fun c => c = 3 ∨ c = 1) (fun c e => boxQ_l (P := fun c => c = 3 ∨ c = 1) (Or.inl rfl) (fun r c e => by revert e; split <;> intro e <;> simp at e <;> omega) e) (by rintro c (rfl | rfl) <;> decide +kernel)
theorem y_namedRow (h : CK s A) (w : Sz (aT A)) : mw 1 s (m_L_namedRow p s) (vL L_namedRow (a_namedRow (aT A) p)) A := w_J (k_namedRow h w) cdo_namedRow
theorem cdo_formatRow : Cdo L_formatRow (frA A p).1 := cdo_of (P := fun c => c = 2) (fun c e => by revert e; unfold frA; (repeat' split) <;> intro e <;> simp at e <;> omega) (by rintro c (rfl) <;> decide +kernel)
theorem y_formatRow (h : CK s A) (w : Sz (aT A)) : mw 1 s (m_L_formatRow p s) (vL L_formatRow (frA A p).1) (frA A p).2 := w_J (k_formatRow h w) cdo_formatRow
theorem cdo_formatEcho : Cdo L_formatEcho (feA A p).1 := cdo_of (P := fun c => c = 1) (fun c e => by revert e; unfold feA; (repeat' split) <;> intro e <;> simp at e <;> omega) (by rintro c (rfl) <;> decide +kernel)
theorem y_formatEcho (h : CK s A) (w : Sz (aT A)) : mw 1 s (m_L_formatEcho p s) (vL L_formatEcho (feA A p).1) (feA A p).2 := w_J (k_formatEcho h w) cdo_formatEcho
theorem cdo_append : Cdo L_append (apA A p).1 := cdo_of (P := fun c => c = 3 ∨ c = 4) (fun c e => by revert e; unfold apA; (repeat' split) <;> intro e <;> simp at e <;> omega) (by rintro c (rfl | rfl) <;> decide +kernel)
theorem y_append (h : CK s A) (W : WA m A) : mw 1 s (m_L_append p s) (vL L_append (apA A p).1) (apA A p).2 := w_J (k_append h W.2.2.2.2.1) cdo_append
theorem cdo_run : Cdo L_run (runA A).1 := cdo_of (P := fun c => c = 3 ∨ c = 4) (fun c e => by revert e; unfold runA; (repeat' split) <;> intro e <;> simp at e <;> omega) (by rintro c (rfl | rfl) <;> decide +kernel)
theorem y_run (h : CK s A) (W : WA m A) (hm : m + 10 < 10000) : mw 1 s (m_L_run s) (vL L_run (runA A).1) (runA A).2 := w_J (k_run h W hm) cdo_run
theorem cdo_undo : Cdo L_undo (undA A).1 := cdo_of (P := fun c => c = 4) (fun c e => by revert e; unfold undA; (repeat' split) <;> intro e <;> simp at e <;> omega) (by rintro c (rfl) <;> decide +kernel)
theorem y_undo (h : CK s A) (W : WA m A) : mw 1 s (m_L_undo s) (vL L_undo (undA A).1) (undA A).2 := w_J (k_undo h W.2.1) cdo_undo
theorem cdo_restore : Cdo L_restore (rstA A).1 := cdo_of (P := fun c => c = 4) (fun c e => by revert e; unfold rstA; (repeat' split) <;> intro e <;> simp at e <;> omega) (by rintro c (rfl) <;> decide +kernel)
theorem y_restore (h : CK s A) (W : WA m A) (hm : m < 10000) : mw 1 s (m_L_restore s) (vL L_restore (rstA A).1) (rstA A).2 := w_J (k_restore h (fun T e => (W.2.2.2.1 T e).sz (by omega))) cdo_restore
theorem y_lineChar (h : CK s A) (hx : (aL A).1 ≤ 360) (ho : TxOk (aL A)) {a : Nat} (ha : a < (aL A).1) : m_L_lineChar (nI a) s = some (.inl (nI ((aL A).2 a)).toInt64, s) := by
  have hb : BT s 7 (aL A) := h.2.2.2.2.2.1
  unfold m_L_lineChar m_X7_lineChar
  rw [hb.1]
  rw [if_neg (nI_pos (by omega))]
  simp (disch := omega) only [nL, if_pos, nIb, nN]
  rw [hb.2 a ha, if_pos (nar_char _ (ho a ha))]
  rfl
theorem y_isConsistent (h : CK s A) (w : Sz (aT A)) (W : WT m (aT A)) : mw 1 s (m_X7_isConsistent s) (nI 1) A := w_R (k_isConsistent h w W)
theorem y_save (h : CK s A) (w : Sz (aT A)) : mw 1 s (m_X7_save s) (nI (tN (aT A))) (savA A) := w_R (k_save h w)
end
