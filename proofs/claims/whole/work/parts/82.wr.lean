/-! ===== the law's wrappers: what they answer ===== -/
def wI (L : List String) (r : Res Int32) : Res Int32 := bindC r (fun v s => if ib (0 : Int32) 1 then vl (pJ s 9 (0 : Int32).toNatClampNeg v.toInt64) (fun s1 => some (.inl 0, s1)) else none) (cd L 1)
def wZ (L : List String) (r : Res Int32) : Res Int32 := bindC r (fun v s => if v = 0 then (if ib (0 : Int32) 1 then vl (pJ s 9 (0 : Int32).toNatClampNeg 0) (fun s1 => some (.inl 0, s1)) else none) else (if ib (0 : Int32) 1 then vl (pJ s 9 (0 : Int32).toNatClampNeg 1) (fun s1 => some (.inl 0, s1)) else none)) (cd L 1)
def wD (L : List String) (r : Res UInt64) : Res Int32 := bindC r (fun v s => if ib (0 : Int32) 1 then vl (pD s 10 (0 : Int32).toNatClampNeg v) (fun s1 => some (.inl 0, s1)) else none) (cd L 1)
def wF (L : List String) (r : Res UInt32) : Res Int32 := bindC r (fun v s => if np64 (FP.f2d v) then (if ib (0 : Int32) 1 then vl (pD s 10 (0 : Int32).toNatClampNeg (FP.f2d v)) (fun s1 => some (.inl 0, s1)) else none) else none) (cd L 1)
theorem mn_C {α β : Type} {σ : Mem} {x : Res β} {f : β → Mem → Res α} {g : String → Option α} (h1 : Mn σ x) (h2 : ∀ v σ1, Mn σ1 (f v σ1)) : Mn σ (bindC x f g) := by
  intro out h
  cases x with
  | none => cases h
  | some o =>
    obtain ⟨o, σ1⟩ := o
    have h3 := h1 _ rfl
    cases o with
    | inl v =>
      have h4 := h2 v σ1 out h
      exact ⟨Nat.le_trans h3.1 h4.1, Nat.le_trans h3.2 h4.2⟩
    | inr E =>
      have h : (g E).map (fun u => (Sum.inl u, σ1)) = some out := h
      cases hg : g E with
      | none => rw [hg] at h; cases h
      | some u => rw [hg] at h; cases h; exact h3
theorem mn_wI {L : List String} {σ : Mem} {r : Res Int32} (h : Mn σ r) : Mn σ (wI L r) := mn_C h fun v s => mn_if (mn_put (fun _ => mn_some)) mn_none
theorem mn_wZ {L : List String} {σ : Mem} {r : Res Int32} (h : Mn σ r) : Mn σ (wZ L r) := mn_C h fun v s => mn_if (mn_if (mn_put (fun _ => mn_some)) mn_none) (mn_if (mn_put (fun _ => mn_some)) mn_none)
theorem mn_wD {L : List String} {σ : Mem} {r : Res UInt64} (h : Mn σ r) : Mn σ (wD L r) := mn_C h fun v s => mn_if (mn_put (fun _ => mn_some)) mn_none
theorem mn_wF {L : List String} {σ : Mem} {r : Res UInt32} (h : Mn σ r) : Mn σ (wF L r) := mn_C h fun v s => mn_if (mn_if (mn_put (fun _ => mn_some)) mn_none) mn_none
theorem wlE13 : Cond.classLink RL 13 "java/lang/IllegalArgumentException" ∈ gw := gwt2 (List.mem_of_getElem? (i := 168) rfl) (by decide +kernel)
theorem wcE13 : Cond.castable "java/lang/IllegalArgumentException" "java/lang/IllegalArgumentException" ∈ wdL := by decide +kernel
theorem wlE15 : Cond.classLink RL 15 "java/lang/IllegalStateException" ∈ gw := gwt2 (List.mem_of_getElem? (i := 169) rfl) (by decide +kernel)
theorem wcE15 : Cond.castable "java/lang/IllegalStateException" "java/lang/IllegalStateException" ∈ wdL := by decide +kernel
theorem wlE21 : Cond.classLink RL 21 "java/lang/IndexOutOfBoundsException" ∈ gw := gwt3 (List.mem_of_getElem? (i := 189) rfl) (by decide +kernel)
theorem wcE21 : Cond.castable "java/lang/IndexOutOfBoundsException" "java/lang/IndexOutOfBoundsException" ∈ wdL := by decide +kernel
theorem wlE32 : Cond.classLink RL 32 "java/util/NoSuchElementException" ∈ gw := gwt3 (List.mem_of_getElem? (i := 231) rfl) (by decide +kernel)
theorem wcE32 : Cond.castable "java/util/NoSuchElementException" "java/util/NoSuchElementException" ∈ wdL := by decide +kernel
theorem wlE145 : Cond.classLink RL 145 "java/lang/ArithmeticException" ∈ gw := gwt5 (List.mem_of_getElem? (i := 62) rfl) (by decide +kernel)
theorem wcE145 : Cond.castable "java/lang/ArithmeticException" "java/lang/ArithmeticException" ∈ wdL := by decide +kernel
theorem ncsE : ∀ a b, (a = "java/util/NoSuchElementException" ∨ a = "java/lang/IndexOutOfBoundsException" ∨ a = "java/lang/IllegalArgumentException" ∨ a = "java/lang/IllegalStateException" ∨ a = "java/lang/ArithmeticException") → (b = "java/util/NoSuchElementException" ∨ b = "java/lang/IndexOutOfBoundsException" ∨ b = "java/lang/IllegalArgumentException" ∨ b = "java/lang/IllegalStateException" ∨ b = "java/lang/ArithmeticException") → a ≠ b → (a, b) ∈ ncsL := by
  intro a b ha hb
  rcases ha with rfl | rfl | rfl | rfl | rfl <;> rcases hb with rfl | rfl | rfl | rfl | rfl <;> first | (intro h; exact absurd rfl h) | (intro _; decide +kernel)
theorem cw_X7_addRow : Cond.code yX7_addRow cX7_addRow 2 (some .int) ∈ gw := gwt2 (List.mem_of_getElem? (i := 173) rfl) (by decide +kernel)
theorem ci_X7_addRow : Cond.initialized yX7_addRow.cls ∈ gw := gwt1 (List.mem_of_getElem? (i := 1) rfl) (by decide +kernel)
theorem cs_X7_addRow : Cond.instanceMethod yX7_addRow ∈ gw := gwt2 (List.mem_of_getElem? (i := 171) rfl) (by decide +kernel)
theorem ce_X7_addRow : Cond.selects RX7 yX7_addRow yX7_addRow ∈ gw := gwt2 (List.mem_of_getElem? (i := 172) rfl) (by decide +kernel)
theorem cd_X7_addRow : yX7_addRow.cls ≠ "java/lang/invoke/MethodHandle" ∧ yX7_addRow.cls ≠ "java/lang/invoke/VarHandle" ∧ (parseMethodDescriptor yX7_addRow.desc).map (fun d => d.parameters.length) = some 1 := ⟨by decide, by decide, by decide +kernel⟩
theorem cw_X7_addPhantoms : Cond.code yX7_addPhantoms cX7_addPhantoms 3 (some .int) ∈ gw := gwt3 (List.mem_of_getElem? (i := 213) rfl) (by decide +kernel)
theorem ci_X7_addPhantoms : Cond.initialized yX7_addPhantoms.cls ∈ gw := gwt1 (List.mem_of_getElem? (i := 1) rfl) (by decide +kernel)
theorem cs_X7_addPhantoms : Cond.instanceMethod yX7_addPhantoms ∈ gw := gwt3 (List.mem_of_getElem? (i := 211) rfl) (by decide +kernel)
theorem ce_X7_addPhantoms : Cond.selects RX7 yX7_addPhantoms yX7_addPhantoms ∈ gw := gwt3 (List.mem_of_getElem? (i := 212) rfl) (by decide +kernel)
theorem cd_X7_addPhantoms : yX7_addPhantoms.cls ≠ "java/lang/invoke/MethodHandle" ∧ yX7_addPhantoms.cls ≠ "java/lang/invoke/VarHandle" ∧ (parseMethodDescriptor yX7_addPhantoms.desc).map (fun d => d.parameters.length) = some 2 := ⟨by decide, by decide, by decide +kernel⟩
theorem cw_X7_removePhantoms : Cond.code yX7_removePhantoms cX7_removePhantoms 3 (some .int) ∈ gw := gwt3 (List.mem_of_getElem? (i := 220) rfl) (by decide +kernel)
theorem ci_X7_removePhantoms : Cond.initialized yX7_removePhantoms.cls ∈ gw := gwt1 (List.mem_of_getElem? (i := 1) rfl) (by decide +kernel)
theorem cs_X7_removePhantoms : Cond.instanceMethod yX7_removePhantoms ∈ gw := gwt3 (List.mem_of_getElem? (i := 218) rfl) (by decide +kernel)
theorem ce_X7_removePhantoms : Cond.selects RX7 yX7_removePhantoms yX7_removePhantoms ∈ gw := gwt3 (List.mem_of_getElem? (i := 219) rfl) (by decide +kernel)
theorem cd_X7_removePhantoms : yX7_removePhantoms.cls ≠ "java/lang/invoke/MethodHandle" ∧ yX7_removePhantoms.cls ≠ "java/lang/invoke/VarHandle" ∧ (parseMethodDescriptor yX7_removePhantoms.desc).map (fun d => d.parameters.length) = some 2 := ⟨by decide, by decide, by decide +kernel⟩
theorem cw_X7_add : Cond.code yX7_add cX7_add 3 (some .int) ∈ gw := gwt3 (List.mem_of_getElem? (i := 227) rfl) (by decide +kernel)
theorem ci_X7_add : Cond.initialized yX7_add.cls ∈ gw := gwt1 (List.mem_of_getElem? (i := 1) rfl) (by decide +kernel)
theorem cs_X7_add : Cond.instanceMethod yX7_add ∈ gw := gwt3 (List.mem_of_getElem? (i := 225) rfl) (by decide +kernel)
theorem ce_X7_add : Cond.selects RX7 yX7_add yX7_add ∈ gw := gwt3 (List.mem_of_getElem? (i := 226) rfl) (by decide +kernel)
theorem cd_X7_add : yX7_add.cls ≠ "java/lang/invoke/MethodHandle" ∧ yX7_add.cls ≠ "java/lang/invoke/VarHandle" ∧ (parseMethodDescriptor yX7_add.desc).map (fun d => d.parameters.length) = some 2 := ⟨by decide, by decide, by decide +kernel⟩
theorem cw_X7_move : Cond.code yX7_move cX7_move 3 (some .int) ∈ gw := gwt3 (List.mem_of_getElem? (i := 235) rfl) (by decide +kernel)
theorem ci_X7_move : Cond.initialized yX7_move.cls ∈ gw := gwt1 (List.mem_of_getElem? (i := 1) rfl) (by decide +kernel)
theorem cs_X7_move : Cond.instanceMethod yX7_move ∈ gw := gwt3 (List.mem_of_getElem? (i := 233) rfl) (by decide +kernel)
theorem ce_X7_move : Cond.selects RX7 yX7_move yX7_move ∈ gw := gwt3 (List.mem_of_getElem? (i := 234) rfl) (by decide +kernel)
theorem cd_X7_move : yX7_move.cls ≠ "java/lang/invoke/MethodHandle" ∧ yX7_move.cls ≠ "java/lang/invoke/VarHandle" ∧ (parseMethodDescriptor yX7_move.desc).map (fun d => d.parameters.length) = some 2 := ⟨by decide, by decide, by decide +kernel⟩
theorem cw_X7_remove : Cond.code yX7_remove cX7_remove 2 (some .int) ∈ gw := gwt4 (List.mem_of_getElem? (i := 2) rfl) (by decide +kernel)
theorem ci_X7_remove : Cond.initialized yX7_remove.cls ∈ gw := gwt1 (List.mem_of_getElem? (i := 1) rfl) (by decide +kernel)
theorem cs_X7_remove : Cond.instanceMethod yX7_remove ∈ gw := gwt4 (List.mem_of_getElem? (i := 0) rfl) (by decide +kernel)
theorem ce_X7_remove : Cond.selects RX7 yX7_remove yX7_remove ∈ gw := gwt4 (List.mem_of_getElem? (i := 1) rfl) (by decide +kernel)
theorem cd_X7_remove : yX7_remove.cls ≠ "java/lang/invoke/MethodHandle" ∧ yX7_remove.cls ≠ "java/lang/invoke/VarHandle" ∧ (parseMethodDescriptor yX7_remove.desc).map (fun d => d.parameters.length) = some 1 := ⟨by decide, by decide, by decide +kernel⟩
theorem cw_X7_setHeir : Cond.code yX7_setHeir cX7_setHeir 3 (some .int) ∈ gw := gwt4 (List.mem_of_getElem? (i := 9) rfl) (by decide +kernel)
theorem ci_X7_setHeir : Cond.initialized yX7_setHeir.cls ∈ gw := gwt1 (List.mem_of_getElem? (i := 1) rfl) (by decide +kernel)
theorem cs_X7_setHeir : Cond.instanceMethod yX7_setHeir ∈ gw := gwt4 (List.mem_of_getElem? (i := 7) rfl) (by decide +kernel)
theorem ce_X7_setHeir : Cond.selects RX7 yX7_setHeir yX7_setHeir ∈ gw := gwt4 (List.mem_of_getElem? (i := 8) rfl) (by decide +kernel)
theorem cd_X7_setHeir : yX7_setHeir.cls ≠ "java/lang/invoke/MethodHandle" ∧ yX7_setHeir.cls ≠ "java/lang/invoke/VarHandle" ∧ (parseMethodDescriptor yX7_setHeir.desc).map (fun d => d.parameters.length) = some 2 := ⟨by decide, by decide, by decide +kernel⟩
theorem cw_X7_clearHeir : Cond.code yX7_clearHeir cX7_clearHeir 2 (some .int) ∈ gw := gwt4 (List.mem_of_getElem? (i := 16) rfl) (by decide +kernel)
theorem ci_X7_clearHeir : Cond.initialized yX7_clearHeir.cls ∈ gw := gwt1 (List.mem_of_getElem? (i := 1) rfl) (by decide +kernel)
theorem cs_X7_clearHeir : Cond.instanceMethod yX7_clearHeir ∈ gw := gwt4 (List.mem_of_getElem? (i := 14) rfl) (by decide +kernel)
theorem ce_X7_clearHeir : Cond.selects RX7 yX7_clearHeir yX7_clearHeir ∈ gw := gwt4 (List.mem_of_getElem? (i := 15) rfl) (by decide +kernel)
theorem cd_X7_clearHeir : yX7_clearHeir.cls ≠ "java/lang/invoke/MethodHandle" ∧ yX7_clearHeir.cls ≠ "java/lang/invoke/VarHandle" ∧ (parseMethodDescriptor yX7_clearHeir.desc).map (fun d => d.parameters.length) = some 1 := ⟨by decide, by decide, by decide +kernel⟩
theorem cw_X7_lock : Cond.code yX7_lock cX7_lock 2 (some .int) ∈ gw := gwt4 (List.mem_of_getElem? (i := 23) rfl) (by decide +kernel)
theorem ci_X7_lock : Cond.initialized yX7_lock.cls ∈ gw := gwt1 (List.mem_of_getElem? (i := 1) rfl) (by decide +kernel)
theorem cs_X7_lock : Cond.instanceMethod yX7_lock ∈ gw := gwt4 (List.mem_of_getElem? (i := 21) rfl) (by decide +kernel)
theorem ce_X7_lock : Cond.selects RX7 yX7_lock yX7_lock ∈ gw := gwt4 (List.mem_of_getElem? (i := 22) rfl) (by decide +kernel)
theorem cd_X7_lock : yX7_lock.cls ≠ "java/lang/invoke/MethodHandle" ∧ yX7_lock.cls ≠ "java/lang/invoke/VarHandle" ∧ (parseMethodDescriptor yX7_lock.desc).map (fun d => d.parameters.length) = some 1 := ⟨by decide, by decide, by decide +kernel⟩
theorem cw_X7_unlock : Cond.code yX7_unlock cX7_unlock 2 (some .int) ∈ gw := gwt4 (List.mem_of_getElem? (i := 30) rfl) (by decide +kernel)
theorem ci_X7_unlock : Cond.initialized yX7_unlock.cls ∈ gw := gwt1 (List.mem_of_getElem? (i := 1) rfl) (by decide +kernel)
theorem cs_X7_unlock : Cond.instanceMethod yX7_unlock ∈ gw := gwt4 (List.mem_of_getElem? (i := 28) rfl) (by decide +kernel)
theorem ce_X7_unlock : Cond.selects RX7 yX7_unlock yX7_unlock ∈ gw := gwt4 (List.mem_of_getElem? (i := 29) rfl) (by decide +kernel)
theorem cd_X7_unlock : yX7_unlock.cls ≠ "java/lang/invoke/MethodHandle" ∧ yX7_unlock.cls ≠ "java/lang/invoke/VarHandle" ∧ (parseMethodDescriptor yX7_unlock.desc).map (fun d => d.parameters.length) = some 1 := ⟨by decide, by decide, by decide +kernel⟩
theorem cw_X7_nameRow : Cond.code yX7_nameRow cX7_nameRow 3 (some .int) ∈ gw := gwt4 (List.mem_of_getElem? (i := 37) rfl) (by decide +kernel)
theorem ci_X7_nameRow : Cond.initialized yX7_nameRow.cls ∈ gw := gwt1 (List.mem_of_getElem? (i := 1) rfl) (by decide +kernel)
theorem cs_X7_nameRow : Cond.instanceMethod yX7_nameRow ∈ gw := gwt4 (List.mem_of_getElem? (i := 35) rfl) (by decide +kernel)
theorem ce_X7_nameRow : Cond.selects RX7 yX7_nameRow yX7_nameRow ∈ gw := gwt4 (List.mem_of_getElem? (i := 36) rfl) (by decide +kernel)
theorem cd_X7_nameRow : yX7_nameRow.cls ≠ "java/lang/invoke/MethodHandle" ∧ yX7_nameRow.cls ≠ "java/lang/invoke/VarHandle" ∧ (parseMethodDescriptor yX7_nameRow.desc).map (fun d => d.parameters.length) = some 2 := ⟨by decide, by decide, by decide +kernel⟩
theorem cw_X7_spread : Cond.code yX7_spread cX7_spread 2 (some .int) ∈ gw := gwt4 (List.mem_of_getElem? (i := 44) rfl) (by decide +kernel)
theorem ci_X7_spread : Cond.initialized yX7_spread.cls ∈ gw := gwt1 (List.mem_of_getElem? (i := 1) rfl) (by decide +kernel)
theorem cs_X7_spread : Cond.instanceMethod yX7_spread ∈ gw := gwt4 (List.mem_of_getElem? (i := 42) rfl) (by decide +kernel)
theorem ce_X7_spread : Cond.selects RX7 yX7_spread yX7_spread ∈ gw := gwt4 (List.mem_of_getElem? (i := 43) rfl) (by decide +kernel)
theorem cd_X7_spread : yX7_spread.cls ≠ "java/lang/invoke/MethodHandle" ∧ yX7_spread.cls ≠ "java/lang/invoke/VarHandle" ∧ (parseMethodDescriptor yX7_spread.desc).map (fun d => d.parameters.length) = some 1 := ⟨by decide, by decide, by decide +kernel⟩
theorem cw_X7_capacity : Cond.code yX7_capacity cX7_capacity 2 (some .int) ∈ gw := gwt4 (List.mem_of_getElem? (i := 51) rfl) (by decide +kernel)
theorem ci_X7_capacity : Cond.initialized yX7_capacity.cls ∈ gw := gwt1 (List.mem_of_getElem? (i := 1) rfl) (by decide +kernel)
theorem cs_X7_capacity : Cond.instanceMethod yX7_capacity ∈ gw := gwt4 (List.mem_of_getElem? (i := 49) rfl) (by decide +kernel)
theorem ce_X7_capacity : Cond.selects RX7 yX7_capacity yX7_capacity ∈ gw := gwt4 (List.mem_of_getElem? (i := 50) rfl) (by decide +kernel)
theorem cd_X7_capacity : yX7_capacity.cls ≠ "java/lang/invoke/MethodHandle" ∧ yX7_capacity.cls ≠ "java/lang/invoke/VarHandle" ∧ (parseMethodDescriptor yX7_capacity.desc).map (fun d => d.parameters.length) = some 1 := ⟨by decide, by decide, by decide +kernel⟩
theorem cw_X7_phantoms : Cond.code yX7_phantoms cX7_phantoms 2 (some .int) ∈ gw := gwt4 (List.mem_of_getElem? (i := 63) rfl) (by decide +kernel)
theorem ci_X7_phantoms : Cond.initialized yX7_phantoms.cls ∈ gw := gwt1 (List.mem_of_getElem? (i := 1) rfl) (by decide +kernel)
theorem cs_X7_phantoms : Cond.instanceMethod yX7_phantoms ∈ gw := gwt4 (List.mem_of_getElem? (i := 61) rfl) (by decide +kernel)
theorem ce_X7_phantoms : Cond.selects RX7 yX7_phantoms yX7_phantoms ∈ gw := gwt4 (List.mem_of_getElem? (i := 62) rfl) (by decide +kernel)
theorem cd_X7_phantoms : yX7_phantoms.cls ≠ "java/lang/invoke/MethodHandle" ∧ yX7_phantoms.cls ≠ "java/lang/invoke/VarHandle" ∧ (parseMethodDescriptor yX7_phantoms.desc).map (fun d => d.parameters.length) = some 1 := ⟨by decide, by decide, by decide +kernel⟩
theorem cw_X7_occupancy : Cond.code yX7_occupancy cX7_occupancy 2 (some .int) ∈ gw := gwt4 (List.mem_of_getElem? (i := 70) rfl) (by decide +kernel)
theorem ci_X7_occupancy : Cond.initialized yX7_occupancy.cls ∈ gw := gwt1 (List.mem_of_getElem? (i := 1) rfl) (by decide +kernel)
theorem cs_X7_occupancy : Cond.instanceMethod yX7_occupancy ∈ gw := gwt4 (List.mem_of_getElem? (i := 68) rfl) (by decide +kernel)
theorem ce_X7_occupancy : Cond.selects RX7 yX7_occupancy yX7_occupancy ∈ gw := gwt4 (List.mem_of_getElem? (i := 69) rfl) (by decide +kernel)
theorem cd_X7_occupancy : yX7_occupancy.cls ≠ "java/lang/invoke/MethodHandle" ∧ yX7_occupancy.cls ≠ "java/lang/invoke/VarHandle" ∧ (parseMethodDescriptor yX7_occupancy.desc).map (fun d => d.parameters.length) = some 1 := ⟨by decide, by decide, by decide +kernel⟩
theorem cw_X7_freeSeats : Cond.code yX7_freeSeats cX7_freeSeats 2 (some .int) ∈ gw := gwt4 (List.mem_of_getElem? (i := 78) rfl) (by decide +kernel)
theorem ci_X7_freeSeats : Cond.initialized yX7_freeSeats.cls ∈ gw := gwt1 (List.mem_of_getElem? (i := 1) rfl) (by decide +kernel)
theorem cs_X7_freeSeats : Cond.instanceMethod yX7_freeSeats ∈ gw := gwt4 (List.mem_of_getElem? (i := 76) rfl) (by decide +kernel)
theorem ce_X7_freeSeats : Cond.selects RX7 yX7_freeSeats yX7_freeSeats ∈ gw := gwt4 (List.mem_of_getElem? (i := 77) rfl) (by decide +kernel)
theorem cd_X7_freeSeats : yX7_freeSeats.cls ≠ "java/lang/invoke/MethodHandle" ∧ yX7_freeSeats.cls ≠ "java/lang/invoke/VarHandle" ∧ (parseMethodDescriptor yX7_freeSeats.desc).map (fun d => d.parameters.length) = some 1 := ⟨by decide, by decide, by decide +kernel⟩
theorem cw_X7_rowLoudness : Cond.code yX7_rowLoudness cX7_rowLoudness 2 (some .int) ∈ gw := gwt4 (List.mem_of_getElem? (i := 86) rfl) (by decide +kernel)
theorem ci_X7_rowLoudness : Cond.initialized yX7_rowLoudness.cls ∈ gw := gwt1 (List.mem_of_getElem? (i := 1) rfl) (by decide +kernel)
theorem cs_X7_rowLoudness : Cond.instanceMethod yX7_rowLoudness ∈ gw := gwt4 (List.mem_of_getElem? (i := 84) rfl) (by decide +kernel)
theorem ce_X7_rowLoudness : Cond.selects RX7 yX7_rowLoudness yX7_rowLoudness ∈ gw := gwt4 (List.mem_of_getElem? (i := 85) rfl) (by decide +kernel)
theorem cd_X7_rowLoudness : yX7_rowLoudness.cls ≠ "java/lang/invoke/MethodHandle" ∧ yX7_rowLoudness.cls ≠ "java/lang/invoke/VarHandle" ∧ (parseMethodDescriptor yX7_rowLoudness.desc).map (fun d => d.parameters.length) = some 1 := ⟨by decide, by decide, by decide +kernel⟩
theorem cw_X7_isLocked : Cond.code yX7_isLocked cX7_isLocked 2 (some .boolean) ∈ gw := gwt4 (List.mem_of_getElem? (i := 97) rfl) (by decide +kernel)
theorem ci_X7_isLocked : Cond.initialized yX7_isLocked.cls ∈ gw := gwt1 (List.mem_of_getElem? (i := 1) rfl) (by decide +kernel)
theorem cs_X7_isLocked : Cond.instanceMethod yX7_isLocked ∈ gw := gwt4 (List.mem_of_getElem? (i := 95) rfl) (by decide +kernel)
theorem ce_X7_isLocked : Cond.selects RX7 yX7_isLocked yX7_isLocked ∈ gw := gwt4 (List.mem_of_getElem? (i := 96) rfl) (by decide +kernel)
theorem cd_X7_isLocked : yX7_isLocked.cls ≠ "java/lang/invoke/MethodHandle" ∧ yX7_isLocked.cls ≠ "java/lang/invoke/VarHandle" ∧ (parseMethodDescriptor yX7_isLocked.desc).map (fun d => d.parameters.length) = some 1 := ⟨by decide, by decide, by decide +kernel⟩
theorem cw_X7_isCrowded : Cond.code yX7_isCrowded cX7_isCrowded 2 (some .boolean) ∈ gw := gwt4 (List.mem_of_getElem? (i := 104) rfl) (by decide +kernel)
theorem ci_X7_isCrowded : Cond.initialized yX7_isCrowded.cls ∈ gw := gwt1 (List.mem_of_getElem? (i := 1) rfl) (by decide +kernel)
theorem cs_X7_isCrowded : Cond.instanceMethod yX7_isCrowded ∈ gw := gwt4 (List.mem_of_getElem? (i := 102) rfl) (by decide +kernel)
theorem ce_X7_isCrowded : Cond.selects RX7 yX7_isCrowded yX7_isCrowded ∈ gw := gwt4 (List.mem_of_getElem? (i := 103) rfl) (by decide +kernel)
theorem cd_X7_isCrowded : yX7_isCrowded.cls ≠ "java/lang/invoke/MethodHandle" ∧ yX7_isCrowded.cls ≠ "java/lang/invoke/VarHandle" ∧ (parseMethodDescriptor yX7_isCrowded.desc).map (fun d => d.parameters.length) = some 1 := ⟨by decide, by decide, by decide +kernel⟩
theorem cw_X7_idInRow : Cond.code yX7_idInRow cX7_idInRow 4 (some .int) ∈ gw := gwt4 (List.mem_of_getElem? (i := 112) rfl) (by decide +kernel)
theorem ci_X7_idInRow : Cond.initialized yX7_idInRow.cls ∈ gw := gwt1 (List.mem_of_getElem? (i := 1) rfl) (by decide +kernel)
theorem cs_X7_idInRow : Cond.instanceMethod yX7_idInRow ∈ gw := gwt4 (List.mem_of_getElem? (i := 110) rfl) (by decide +kernel)
theorem ce_X7_idInRow : Cond.selects RX7 yX7_idInRow yX7_idInRow ∈ gw := gwt4 (List.mem_of_getElem? (i := 111) rfl) (by decide +kernel)
theorem cd_X7_idInRow : yX7_idInRow.cls ≠ "java/lang/invoke/MethodHandle" ∧ yX7_idInRow.cls ≠ "java/lang/invoke/VarHandle" ∧ (parseMethodDescriptor yX7_idInRow.desc).map (fun d => d.parameters.length) = some 2 := ⟨by decide, by decide, by decide +kernel⟩
theorem cw_X7_rowOf : Cond.code yX7_rowOf cX7_rowOf 2 (some .int) ∈ gw := gwt4 (List.mem_of_getElem? (i := 120) rfl) (by decide +kernel)
theorem ci_X7_rowOf : Cond.initialized yX7_rowOf.cls ∈ gw := gwt1 (List.mem_of_getElem? (i := 1) rfl) (by decide +kernel)
theorem cs_X7_rowOf : Cond.instanceMethod yX7_rowOf ∈ gw := gwt4 (List.mem_of_getElem? (i := 118) rfl) (by decide +kernel)
theorem ce_X7_rowOf : Cond.selects RX7 yX7_rowOf yX7_rowOf ∈ gw := gwt4 (List.mem_of_getElem? (i := 119) rfl) (by decide +kernel)
theorem cd_X7_rowOf : yX7_rowOf.cls ≠ "java/lang/invoke/MethodHandle" ∧ yX7_rowOf.cls ≠ "java/lang/invoke/VarHandle" ∧ (parseMethodDescriptor yX7_rowOf.desc).map (fun d => d.parameters.length) = some 1 := ⟨by decide, by decide, by decide +kernel⟩
theorem cw_X7_loudness : Cond.code yX7_loudness cX7_loudness 2 (some .int) ∈ gw := gwt4 (List.mem_of_getElem? (i := 131) rfl) (by decide +kernel)
theorem ci_X7_loudness : Cond.initialized yX7_loudness.cls ∈ gw := gwt1 (List.mem_of_getElem? (i := 1) rfl) (by decide +kernel)
theorem cs_X7_loudness : Cond.instanceMethod yX7_loudness ∈ gw := gwt4 (List.mem_of_getElem? (i := 129) rfl) (by decide +kernel)
theorem ce_X7_loudness : Cond.selects RX7 yX7_loudness yX7_loudness ∈ gw := gwt4 (List.mem_of_getElem? (i := 130) rfl) (by decide +kernel)
theorem cd_X7_loudness : yX7_loudness.cls ≠ "java/lang/invoke/MethodHandle" ∧ yX7_loudness.cls ≠ "java/lang/invoke/VarHandle" ∧ (parseMethodDescriptor yX7_loudness.desc).map (fun d => d.parameters.length) = some 1 := ⟨by decide, by decide, by decide +kernel⟩
theorem cw_X7_positionInRow : Cond.code yX7_positionInRow cX7_positionInRow 2 (some .int) ∈ gw := gwt4 (List.mem_of_getElem? (i := 138) rfl) (by decide +kernel)
theorem ci_X7_positionInRow : Cond.initialized yX7_positionInRow.cls ∈ gw := gwt1 (List.mem_of_getElem? (i := 1) rfl) (by decide +kernel)
theorem cs_X7_positionInRow : Cond.instanceMethod yX7_positionInRow ∈ gw := gwt4 (List.mem_of_getElem? (i := 136) rfl) (by decide +kernel)
theorem ce_X7_positionInRow : Cond.selects RX7 yX7_positionInRow yX7_positionInRow ∈ gw := gwt4 (List.mem_of_getElem? (i := 137) rfl) (by decide +kernel)
theorem cd_X7_positionInRow : yX7_positionInRow.cls ≠ "java/lang/invoke/MethodHandle" ∧ yX7_positionInRow.cls ≠ "java/lang/invoke/VarHandle" ∧ (parseMethodDescriptor yX7_positionInRow.desc).map (fun d => d.parameters.length) = some 1 := ⟨by decide, by decide, by decide +kernel⟩
theorem cw_X7_hasHeir : Cond.code yX7_hasHeir cX7_hasHeir 2 (some .boolean) ∈ gw := gwt4 (List.mem_of_getElem? (i := 149) rfl) (by decide +kernel)
theorem ci_X7_hasHeir : Cond.initialized yX7_hasHeir.cls ∈ gw := gwt1 (List.mem_of_getElem? (i := 1) rfl) (by decide +kernel)
theorem cs_X7_hasHeir : Cond.instanceMethod yX7_hasHeir ∈ gw := gwt4 (List.mem_of_getElem? (i := 147) rfl) (by decide +kernel)
theorem ce_X7_hasHeir : Cond.selects RX7 yX7_hasHeir yX7_hasHeir ∈ gw := gwt4 (List.mem_of_getElem? (i := 148) rfl) (by decide +kernel)
theorem cd_X7_hasHeir : yX7_hasHeir.cls ≠ "java/lang/invoke/MethodHandle" ∧ yX7_hasHeir.cls ≠ "java/lang/invoke/VarHandle" ∧ (parseMethodDescriptor yX7_hasHeir.desc).map (fun d => d.parameters.length) = some 1 := ⟨by decide, by decide, by decide +kernel⟩
theorem cw_X7_heir : Cond.code yX7_heir cX7_heir 3 (some .int) ∈ gw := gwt4 (List.mem_of_getElem? (i := 156) rfl) (by decide +kernel)
theorem ci_X7_heir : Cond.initialized yX7_heir.cls ∈ gw := gwt1 (List.mem_of_getElem? (i := 1) rfl) (by decide +kernel)
theorem cs_X7_heir : Cond.instanceMethod yX7_heir ∈ gw := gwt4 (List.mem_of_getElem? (i := 154) rfl) (by decide +kernel)
theorem ce_X7_heir : Cond.selects RX7 yX7_heir yX7_heir ∈ gw := gwt4 (List.mem_of_getElem? (i := 155) rfl) (by decide +kernel)
theorem cd_X7_heir : yX7_heir.cls ≠ "java/lang/invoke/MethodHandle" ∧ yX7_heir.cls ≠ "java/lang/invoke/VarHandle" ∧ (parseMethodDescriptor yX7_heir.desc).map (fun d => d.parameters.length) = some 1 := ⟨by decide, by decide, by decide +kernel⟩
theorem cw_X7_lastHeir : Cond.code yX7_lastHeir cX7_lastHeir 3 (some .int) ∈ gw := gwt4 (List.mem_of_getElem? (i := 164) rfl) (by decide +kernel)
theorem ci_X7_lastHeir : Cond.initialized yX7_lastHeir.cls ∈ gw := gwt1 (List.mem_of_getElem? (i := 1) rfl) (by decide +kernel)
theorem cs_X7_lastHeir : Cond.instanceMethod yX7_lastHeir ∈ gw := gwt4 (List.mem_of_getElem? (i := 162) rfl) (by decide +kernel)
theorem ce_X7_lastHeir : Cond.selects RX7 yX7_lastHeir yX7_lastHeir ∈ gw := gwt4 (List.mem_of_getElem? (i := 163) rfl) (by decide +kernel)
theorem cd_X7_lastHeir : yX7_lastHeir.cls ≠ "java/lang/invoke/MethodHandle" ∧ yX7_lastHeir.cls ≠ "java/lang/invoke/VarHandle" ∧ (parseMethodDescriptor yX7_lastHeir.desc).map (fun d => d.parameters.length) = some 1 := ⟨by decide, by decide, by decide +kernel⟩
theorem cw_X7_lastHeirByDoubling : Cond.code yX7_lastHeirByDoubling cX7_lastHeirByDoubling 4 (some .int) ∈ gw := gwt4 (List.mem_of_getElem? (i := 171) rfl) (by decide +kernel)
theorem ci_X7_lastHeirByDoubling : Cond.initialized yX7_lastHeirByDoubling.cls ∈ gw := gwt1 (List.mem_of_getElem? (i := 1) rfl) (by decide +kernel)
theorem cs_X7_lastHeirByDoubling : Cond.instanceMethod yX7_lastHeirByDoubling ∈ gw := gwt4 (List.mem_of_getElem? (i := 169) rfl) (by decide +kernel)
theorem ce_X7_lastHeirByDoubling : Cond.selects RX7 yX7_lastHeirByDoubling yX7_lastHeirByDoubling ∈ gw := gwt4 (List.mem_of_getElem? (i := 170) rfl) (by decide +kernel)
theorem cd_X7_lastHeirByDoubling : yX7_lastHeirByDoubling.cls ≠ "java/lang/invoke/MethodHandle" ∧ yX7_lastHeirByDoubling.cls ≠ "java/lang/invoke/VarHandle" ∧ (parseMethodDescriptor yX7_lastHeirByDoubling.desc).map (fun d => d.parameters.length) = some 1 := ⟨by decide, by decide, by decide +kernel⟩
theorem cw_X7_stepsToLastHeir : Cond.code yX7_stepsToLastHeir cX7_stepsToLastHeir 2 (some .int) ∈ gw := gwt4 (List.mem_of_getElem? (i := 178) rfl) (by decide +kernel)
theorem ci_X7_stepsToLastHeir : Cond.initialized yX7_stepsToLastHeir.cls ∈ gw := gwt1 (List.mem_of_getElem? (i := 1) rfl) (by decide +kernel)
theorem cs_X7_stepsToLastHeir : Cond.instanceMethod yX7_stepsToLastHeir ∈ gw := gwt4 (List.mem_of_getElem? (i := 176) rfl) (by decide +kernel)
theorem ce_X7_stepsToLastHeir : Cond.selects RX7 yX7_stepsToLastHeir yX7_stepsToLastHeir ∈ gw := gwt4 (List.mem_of_getElem? (i := 177) rfl) (by decide +kernel)
theorem cd_X7_stepsToLastHeir : yX7_stepsToLastHeir.cls ≠ "java/lang/invoke/MethodHandle" ∧ yX7_stepsToLastHeir.cls ≠ "java/lang/invoke/VarHandle" ∧ (parseMethodDescriptor yX7_stepsToLastHeir.desc).map (fun d => d.parameters.length) = some 1 := ⟨by decide, by decide, by decide +kernel⟩
theorem cw_X7_bequeathers : Cond.code yX7_bequeathers cX7_bequeathers 3 (some .int) ∈ gw := gwt4 (List.mem_of_getElem? (i := 189) rfl) (by decide +kernel)
theorem ci_X7_bequeathers : Cond.initialized yX7_bequeathers.cls ∈ gw := gwt1 (List.mem_of_getElem? (i := 1) rfl) (by decide +kernel)
theorem cs_X7_bequeathers : Cond.instanceMethod yX7_bequeathers ∈ gw := gwt4 (List.mem_of_getElem? (i := 187) rfl) (by decide +kernel)
theorem ce_X7_bequeathers : Cond.selects RX7 yX7_bequeathers yX7_bequeathers ∈ gw := gwt4 (List.mem_of_getElem? (i := 188) rfl) (by decide +kernel)
theorem cd_X7_bequeathers : yX7_bequeathers.cls ≠ "java/lang/invoke/MethodHandle" ∧ yX7_bequeathers.cls ≠ "java/lang/invoke/VarHandle" ∧ (parseMethodDescriptor yX7_bequeathers.desc).map (fun d => d.parameters.length) = some 1 := ⟨by decide, by decide, by decide +kernel⟩
theorem cw_X7_countInRows : Cond.code yX7_countInRows cX7_countInRows 3 (some .int) ∈ gw := gwt4 (List.mem_of_getElem? (i := 200) rfl) (by decide +kernel)
theorem ci_X7_countInRows : Cond.initialized yX7_countInRows.cls ∈ gw := gwt1 (List.mem_of_getElem? (i := 1) rfl) (by decide +kernel)
theorem cs_X7_countInRows : Cond.instanceMethod yX7_countInRows ∈ gw := gwt4 (List.mem_of_getElem? (i := 198) rfl) (by decide +kernel)
theorem ce_X7_countInRows : Cond.selects RX7 yX7_countInRows yX7_countInRows ∈ gw := gwt4 (List.mem_of_getElem? (i := 199) rfl) (by decide +kernel)
theorem cd_X7_countInRows : yX7_countInRows.cls ≠ "java/lang/invoke/MethodHandle" ∧ yX7_countInRows.cls ≠ "java/lang/invoke/VarHandle" ∧ (parseMethodDescriptor yX7_countInRows.desc).map (fun d => d.parameters.length) = some 2 := ⟨by decide, by decide, by decide +kernel⟩
theorem cw_X7_countInRowsByTree : Cond.code yX7_countInRowsByTree cX7_countInRowsByTree 3 (some .int) ∈ gw := gwt4 (List.mem_of_getElem? (i := 212) rfl) (by decide +kernel)
theorem ci_X7_countInRowsByTree : Cond.initialized yX7_countInRowsByTree.cls ∈ gw := gwt1 (List.mem_of_getElem? (i := 1) rfl) (by decide +kernel)
theorem cs_X7_countInRowsByTree : Cond.instanceMethod yX7_countInRowsByTree ∈ gw := gwt4 (List.mem_of_getElem? (i := 210) rfl) (by decide +kernel)
theorem ce_X7_countInRowsByTree : Cond.selects RX7 yX7_countInRowsByTree yX7_countInRowsByTree ∈ gw := gwt4 (List.mem_of_getElem? (i := 211) rfl) (by decide +kernel)
theorem cd_X7_countInRowsByTree : yX7_countInRowsByTree.cls ≠ "java/lang/invoke/MethodHandle" ∧ yX7_countInRowsByTree.cls ≠ "java/lang/invoke/VarHandle" ∧ (parseMethodDescriptor yX7_countInRowsByTree.desc).map (fun d => d.parameters.length) = some 2 := ⟨by decide, by decide, by decide +kernel⟩
theorem cw_X7_idByRank : Cond.code yX7_idByRank cX7_idByRank 2 (some .int) ∈ gw := gwt4 (List.mem_of_getElem? (i := 219) rfl) (by decide +kernel)
theorem ci_X7_idByRank : Cond.initialized yX7_idByRank.cls ∈ gw := gwt1 (List.mem_of_getElem? (i := 1) rfl) (by decide +kernel)
theorem cs_X7_idByRank : Cond.instanceMethod yX7_idByRank ∈ gw := gwt4 (List.mem_of_getElem? (i := 217) rfl) (by decide +kernel)
theorem ce_X7_idByRank : Cond.selects RX7 yX7_idByRank yX7_idByRank ∈ gw := gwt4 (List.mem_of_getElem? (i := 218) rfl) (by decide +kernel)
theorem cd_X7_idByRank : yX7_idByRank.cls ≠ "java/lang/invoke/MethodHandle" ∧ yX7_idByRank.cls ≠ "java/lang/invoke/VarHandle" ∧ (parseMethodDescriptor yX7_idByRank.desc).map (fun d => d.parameters.length) = some 1 := ⟨by decide, by decide, by decide +kernel⟩
theorem cw_X7_idByRankByTree : Cond.code yX7_idByRankByTree cX7_idByRankByTree 3 (some .int) ∈ gw := gwt4 (List.mem_of_getElem? (i := 231) rfl) (by decide +kernel)
theorem ci_X7_idByRankByTree : Cond.initialized yX7_idByRankByTree.cls ∈ gw := gwt1 (List.mem_of_getElem? (i := 1) rfl) (by decide +kernel)
theorem cs_X7_idByRankByTree : Cond.instanceMethod yX7_idByRankByTree ∈ gw := gwt4 (List.mem_of_getElem? (i := 229) rfl) (by decide +kernel)
theorem ce_X7_idByRankByTree : Cond.selects RX7 yX7_idByRankByTree yX7_idByRankByTree ∈ gw := gwt4 (List.mem_of_getElem? (i := 230) rfl) (by decide +kernel)
theorem cd_X7_idByRankByTree : yX7_idByRankByTree.cls ≠ "java/lang/invoke/MethodHandle" ∧ yX7_idByRankByTree.cls ≠ "java/lang/invoke/VarHandle" ∧ (parseMethodDescriptor yX7_idByRankByTree.desc).map (fun d => d.parameters.length) = some 1 := ⟨by decide, by decide, by decide +kernel⟩
theorem cw_X7_rank : Cond.code yX7_rank cX7_rank 2 (some .int) ∈ gw := gwt4 (List.mem_of_getElem? (i := 238) rfl) (by decide +kernel)
theorem ci_X7_rank : Cond.initialized yX7_rank.cls ∈ gw := gwt1 (List.mem_of_getElem? (i := 1) rfl) (by decide +kernel)
theorem cs_X7_rank : Cond.instanceMethod yX7_rank ∈ gw := gwt4 (List.mem_of_getElem? (i := 236) rfl) (by decide +kernel)
theorem ce_X7_rank : Cond.selects RX7 yX7_rank yX7_rank ∈ gw := gwt4 (List.mem_of_getElem? (i := 237) rfl) (by decide +kernel)
theorem cd_X7_rank : yX7_rank.cls ≠ "java/lang/invoke/MethodHandle" ∧ yX7_rank.cls ≠ "java/lang/invoke/VarHandle" ∧ (parseMethodDescriptor yX7_rank.desc).map (fun d => d.parameters.length) = some 1 := ⟨by decide, by decide, by decide +kernel⟩
theorem cw_X7_loudest : Cond.code yX7_loudest cX7_loudest 3 (some .int) ∈ gw := gwt5 (List.mem_of_getElem? (i := 11) rfl) (by decide +kernel)
theorem ci_X7_loudest : Cond.initialized yX7_loudest.cls ∈ gw := gwt1 (List.mem_of_getElem? (i := 1) rfl) (by decide +kernel)
theorem cs_X7_loudest : Cond.instanceMethod yX7_loudest ∈ gw := gwt5 (List.mem_of_getElem? (i := 9) rfl) (by decide +kernel)
theorem ce_X7_loudest : Cond.selects RX7 yX7_loudest yX7_loudest ∈ gw := gwt5 (List.mem_of_getElem? (i := 10) rfl) (by decide +kernel)
theorem cd_X7_loudest : yX7_loudest.cls ≠ "java/lang/invoke/MethodHandle" ∧ yX7_loudest.cls ≠ "java/lang/invoke/VarHandle" ∧ (parseMethodDescriptor yX7_loudest.desc).map (fun d => d.parameters.length) = some 0 := ⟨by decide, by decide, by decide +kernel⟩
theorem cw_X7_quietestRow : Cond.code yX7_quietestRow cX7_quietestRow 2 (some .int) ∈ gw := gwt5 (List.mem_of_getElem? (i := 20) rfl) (by decide +kernel)
theorem ci_X7_quietestRow : Cond.initialized yX7_quietestRow.cls ∈ gw := gwt1 (List.mem_of_getElem? (i := 1) rfl) (by decide +kernel)
theorem cs_X7_quietestRow : Cond.instanceMethod yX7_quietestRow ∈ gw := gwt5 (List.mem_of_getElem? (i := 18) rfl) (by decide +kernel)
theorem ce_X7_quietestRow : Cond.selects RX7 yX7_quietestRow yX7_quietestRow ∈ gw := gwt5 (List.mem_of_getElem? (i := 19) rfl) (by decide +kernel)
theorem cd_X7_quietestRow : yX7_quietestRow.cls ≠ "java/lang/invoke/MethodHandle" ∧ yX7_quietestRow.cls ≠ "java/lang/invoke/VarHandle" ∧ (parseMethodDescriptor yX7_quietestRow.desc).map (fun d => d.parameters.length) = some 0 := ⟨by decide, by decide, by decide +kernel⟩
theorem cw_X7_isNamed : Cond.code yX7_isNamed cX7_isNamed 2 (some .boolean) ∈ gw := gwt5 (List.mem_of_getElem? (i := 33) rfl) (by decide +kernel)
theorem ci_X7_isNamed : Cond.initialized yX7_isNamed.cls ∈ gw := gwt1 (List.mem_of_getElem? (i := 1) rfl) (by decide +kernel)
theorem cs_X7_isNamed : Cond.instanceMethod yX7_isNamed ∈ gw := gwt5 (List.mem_of_getElem? (i := 31) rfl) (by decide +kernel)
theorem ce_X7_isNamed : Cond.selects RX7 yX7_isNamed yX7_isNamed ∈ gw := gwt5 (List.mem_of_getElem? (i := 32) rfl) (by decide +kernel)
theorem cd_X7_isNamed : yX7_isNamed.cls ≠ "java/lang/invoke/MethodHandle" ∧ yX7_isNamed.cls ≠ "java/lang/invoke/VarHandle" ∧ (parseMethodDescriptor yX7_isNamed.desc).map (fun d => d.parameters.length) = some 1 := ⟨by decide, by decide, by decide +kernel⟩
theorem cw_X7_namedRow : Cond.code yX7_namedRow cX7_namedRow 3 (some .int) ∈ gw := gwt5 (List.mem_of_getElem? (i := 46) rfl) (by decide +kernel)
theorem ci_X7_namedRow : Cond.initialized yX7_namedRow.cls ∈ gw := gwt1 (List.mem_of_getElem? (i := 1) rfl) (by decide +kernel)
theorem cs_X7_namedRow : Cond.instanceMethod yX7_namedRow ∈ gw := gwt5 (List.mem_of_getElem? (i := 44) rfl) (by decide +kernel)
theorem ce_X7_namedRow : Cond.selects RX7 yX7_namedRow yX7_namedRow ∈ gw := gwt5 (List.mem_of_getElem? (i := 45) rfl) (by decide +kernel)
theorem cd_X7_namedRow : yX7_namedRow.cls ≠ "java/lang/invoke/MethodHandle" ∧ yX7_namedRow.cls ≠ "java/lang/invoke/VarHandle" ∧ (parseMethodDescriptor yX7_namedRow.desc).map (fun d => d.parameters.length) = some 1 := ⟨by decide, by decide, by decide +kernel⟩
theorem cw_X7_boxCount : Cond.code yX7_boxCount cX7_boxCount 2 (some .int) ∈ gw := gwt5 (List.mem_of_getElem? (i := 54) rfl) (by decide +kernel)
theorem ci_X7_boxCount : Cond.initialized yX7_boxCount.cls ∈ gw := gwt1 (List.mem_of_getElem? (i := 1) rfl) (by decide +kernel)
theorem cs_X7_boxCount : Cond.instanceMethod yX7_boxCount ∈ gw := gwt5 (List.mem_of_getElem? (i := 52) rfl) (by decide +kernel)
theorem ce_X7_boxCount : Cond.selects RX7 yX7_boxCount yX7_boxCount ∈ gw := gwt5 (List.mem_of_getElem? (i := 53) rfl) (by decide +kernel)
theorem cd_X7_boxCount : yX7_boxCount.cls ≠ "java/lang/invoke/MethodHandle" ∧ yX7_boxCount.cls ≠ "java/lang/invoke/VarHandle" ∧ (parseMethodDescriptor yX7_boxCount.desc).map (fun d => d.parameters.length) = some 1 := ⟨by decide, by decide, by decide +kernel⟩
theorem cw_X7_meanOccupancy : Cond.code yX7_meanOccupancy cX7_meanOccupancy 2 (some .double) ∈ gw := gwt5 (List.mem_of_getElem? (i := 79) rfl) (by decide +kernel)
theorem ci_X7_meanOccupancy : Cond.initialized yX7_meanOccupancy.cls ∈ gw := gwt1 (List.mem_of_getElem? (i := 1) rfl) (by decide +kernel)
theorem cs_X7_meanOccupancy : Cond.instanceMethod yX7_meanOccupancy ∈ gw := gwt5 (List.mem_of_getElem? (i := 77) rfl) (by decide +kernel)
theorem ce_X7_meanOccupancy : Cond.selects RX7 yX7_meanOccupancy yX7_meanOccupancy ∈ gw := gwt5 (List.mem_of_getElem? (i := 78) rfl) (by decide +kernel)
theorem cd_X7_meanOccupancy : yX7_meanOccupancy.cls ≠ "java/lang/invoke/MethodHandle" ∧ yX7_meanOccupancy.cls ≠ "java/lang/invoke/VarHandle" ∧ (parseMethodDescriptor yX7_meanOccupancy.desc).map (fun d => d.parameters.length) = some 0 := ⟨by decide, by decide, by decide +kernel⟩
theorem cw_X7_realShare : Cond.code yX7_realShare cX7_realShare 3 (some .float) ∈ gw := gwt5 (List.mem_of_getElem? (i := 88) rfl) (by decide +kernel)
theorem ci_X7_realShare : Cond.initialized yX7_realShare.cls ∈ gw := gwt1 (List.mem_of_getElem? (i := 1) rfl) (by decide +kernel)
theorem cs_X7_realShare : Cond.instanceMethod yX7_realShare ∈ gw := gwt5 (List.mem_of_getElem? (i := 86) rfl) (by decide +kernel)
theorem ce_X7_realShare : Cond.selects RX7 yX7_realShare yX7_realShare ∈ gw := gwt5 (List.mem_of_getElem? (i := 87) rfl) (by decide +kernel)
theorem cd_X7_realShare : yX7_realShare.cls ≠ "java/lang/invoke/MethodHandle" ∧ yX7_realShare.cls ≠ "java/lang/invoke/VarHandle" ∧ (parseMethodDescriptor yX7_realShare.desc).map (fun d => d.parameters.length) = some 0 := ⟨by decide, by decide, by decide +kernel⟩
theorem cw_X7_formatRow : Cond.code yX7_formatRow cX7_formatRow 3 (some .int) ∈ gw := gwt5 (List.mem_of_getElem? (i := 99) rfl) (by decide +kernel)
theorem ci_X7_formatRow : Cond.initialized yX7_formatRow.cls ∈ gw := gwt1 (List.mem_of_getElem? (i := 1) rfl) (by decide +kernel)
theorem cs_X7_formatRow : Cond.instanceMethod yX7_formatRow ∈ gw := gwt5 (List.mem_of_getElem? (i := 97) rfl) (by decide +kernel)
theorem ce_X7_formatRow : Cond.selects RX7 yX7_formatRow yX7_formatRow ∈ gw := gwt5 (List.mem_of_getElem? (i := 98) rfl) (by decide +kernel)
theorem cd_X7_formatRow : yX7_formatRow.cls ≠ "java/lang/invoke/MethodHandle" ∧ yX7_formatRow.cls ≠ "java/lang/invoke/VarHandle" ∧ (parseMethodDescriptor yX7_formatRow.desc).map (fun d => d.parameters.length) = some 1 := ⟨by decide, by decide, by decide +kernel⟩
theorem cw_X7_formatEcho : Cond.code yX7_formatEcho cX7_formatEcho 4 (some .int) ∈ gw := gwt6 (List.mem_of_getElem? (i := 149) rfl) (by decide +kernel)
theorem ci_X7_formatEcho : Cond.initialized yX7_formatEcho.cls ∈ gw := gwt1 (List.mem_of_getElem? (i := 1) rfl) (by decide +kernel)
theorem cs_X7_formatEcho : Cond.instanceMethod yX7_formatEcho ∈ gw := gwt6 (List.mem_of_getElem? (i := 147) rfl) (by decide +kernel)
theorem ce_X7_formatEcho : Cond.selects RX7 yX7_formatEcho yX7_formatEcho ∈ gw := gwt6 (List.mem_of_getElem? (i := 148) rfl) (by decide +kernel)
theorem cd_X7_formatEcho : yX7_formatEcho.cls ≠ "java/lang/invoke/MethodHandle" ∧ yX7_formatEcho.cls ≠ "java/lang/invoke/VarHandle" ∧ (parseMethodDescriptor yX7_formatEcho.desc).map (fun d => d.parameters.length) = some 1 := ⟨by decide, by decide, by decide +kernel⟩
theorem cw_X7_lineChar : Cond.code yX7_lineChar cX7_lineChar 2 (some .char) ∈ gw := gwt6 (List.mem_of_getElem? (i := 156) rfl) (by decide +kernel)
theorem ci_X7_lineChar : Cond.initialized yX7_lineChar.cls ∈ gw := gwt1 (List.mem_of_getElem? (i := 1) rfl) (by decide +kernel)
theorem cs_X7_lineChar : Cond.instanceMethod yX7_lineChar ∈ gw := gwt6 (List.mem_of_getElem? (i := 154) rfl) (by decide +kernel)
theorem ce_X7_lineChar : Cond.selects RX7 yX7_lineChar yX7_lineChar ∈ gw := gwt6 (List.mem_of_getElem? (i := 155) rfl) (by decide +kernel)
theorem cd_X7_lineChar : yX7_lineChar.cls ≠ "java/lang/invoke/MethodHandle" ∧ yX7_lineChar.cls ≠ "java/lang/invoke/VarHandle" ∧ (parseMethodDescriptor yX7_lineChar.desc).map (fun d => d.parameters.length) = some 1 := ⟨by decide, by decide, by decide +kernel⟩
theorem cw_X7_append : Cond.code yX7_append cX7_append 2 (some .int) ∈ gw := gwt6 (List.mem_of_getElem? (i := 174) rfl) (by decide +kernel)
theorem ci_X7_append : Cond.initialized yX7_append.cls ∈ gw := gwt1 (List.mem_of_getElem? (i := 1) rfl) (by decide +kernel)
theorem cs_X7_append : Cond.instanceMethod yX7_append ∈ gw := gwt6 (List.mem_of_getElem? (i := 172) rfl) (by decide +kernel)
theorem ce_X7_append : Cond.selects RX7 yX7_append yX7_append ∈ gw := gwt6 (List.mem_of_getElem? (i := 173) rfl) (by decide +kernel)
theorem cd_X7_append : yX7_append.cls ≠ "java/lang/invoke/MethodHandle" ∧ yX7_append.cls ≠ "java/lang/invoke/VarHandle" ∧ (parseMethodDescriptor yX7_append.desc).map (fun d => d.parameters.length) = some 1 := ⟨by decide, by decide, by decide +kernel⟩
theorem cw_X7_run : Cond.code yX7_run cX7_run 3 (some .int) ∈ gw := gwt6 (List.mem_of_getElem? (i := 183) rfl) (by decide +kernel)
theorem ci_X7_run : Cond.initialized yX7_run.cls ∈ gw := gwt1 (List.mem_of_getElem? (i := 1) rfl) (by decide +kernel)
theorem cs_X7_run : Cond.instanceMethod yX7_run ∈ gw := gwt6 (List.mem_of_getElem? (i := 181) rfl) (by decide +kernel)
theorem ce_X7_run : Cond.selects RX7 yX7_run yX7_run ∈ gw := gwt6 (List.mem_of_getElem? (i := 182) rfl) (by decide +kernel)
theorem cd_X7_run : yX7_run.cls ≠ "java/lang/invoke/MethodHandle" ∧ yX7_run.cls ≠ "java/lang/invoke/VarHandle" ∧ (parseMethodDescriptor yX7_run.desc).map (fun d => d.parameters.length) = some 0 := ⟨by decide, by decide, by decide +kernel⟩
theorem cw_X7_errorPosition : Cond.code yX7_errorPosition cX7_errorPosition 1 (some .int) ∈ gw := gwt7 (List.mem_of_getElem? (i := 38) rfl) (by decide +kernel)
theorem ci_X7_errorPosition : Cond.initialized yX7_errorPosition.cls ∈ gw := gwt1 (List.mem_of_getElem? (i := 1) rfl) (by decide +kernel)
theorem cs_X7_errorPosition : Cond.instanceMethod yX7_errorPosition ∈ gw := gwt7 (List.mem_of_getElem? (i := 36) rfl) (by decide +kernel)
theorem ce_X7_errorPosition : Cond.selects RX7 yX7_errorPosition yX7_errorPosition ∈ gw := gwt7 (List.mem_of_getElem? (i := 37) rfl) (by decide +kernel)
theorem cd_X7_errorPosition : yX7_errorPosition.cls ≠ "java/lang/invoke/MethodHandle" ∧ yX7_errorPosition.cls ≠ "java/lang/invoke/VarHandle" ∧ (parseMethodDescriptor yX7_errorPosition.desc).map (fun d => d.parameters.length) = some 0 := ⟨by decide, by decide, by decide +kernel⟩
theorem cw_X7_failedCommand : Cond.code yX7_failedCommand cX7_failedCommand 1 (some .int) ∈ gw := gwt7 (List.mem_of_getElem? (i := 46) rfl) (by decide +kernel)
theorem ci_X7_failedCommand : Cond.initialized yX7_failedCommand.cls ∈ gw := gwt1 (List.mem_of_getElem? (i := 1) rfl) (by decide +kernel)
theorem cs_X7_failedCommand : Cond.instanceMethod yX7_failedCommand ∈ gw := gwt7 (List.mem_of_getElem? (i := 44) rfl) (by decide +kernel)
theorem ce_X7_failedCommand : Cond.selects RX7 yX7_failedCommand yX7_failedCommand ∈ gw := gwt7 (List.mem_of_getElem? (i := 45) rfl) (by decide +kernel)
theorem cd_X7_failedCommand : yX7_failedCommand.cls ≠ "java/lang/invoke/MethodHandle" ∧ yX7_failedCommand.cls ≠ "java/lang/invoke/VarHandle" ∧ (parseMethodDescriptor yX7_failedCommand.desc).map (fun d => d.parameters.length) = some 0 := ⟨by decide, by decide, by decide +kernel⟩
theorem cw_X7_undo : Cond.code yX7_undo cX7_undo 1 (some .int) ∈ gw := gwt7 (List.mem_of_getElem? (i := 54) rfl) (by decide +kernel)
theorem ci_X7_undo : Cond.initialized yX7_undo.cls ∈ gw := gwt1 (List.mem_of_getElem? (i := 1) rfl) (by decide +kernel)
theorem cs_X7_undo : Cond.instanceMethod yX7_undo ∈ gw := gwt7 (List.mem_of_getElem? (i := 52) rfl) (by decide +kernel)
theorem ce_X7_undo : Cond.selects RX7 yX7_undo yX7_undo ∈ gw := gwt7 (List.mem_of_getElem? (i := 53) rfl) (by decide +kernel)
theorem cd_X7_undo : yX7_undo.cls ≠ "java/lang/invoke/MethodHandle" ∧ yX7_undo.cls ≠ "java/lang/invoke/VarHandle" ∧ (parseMethodDescriptor yX7_undo.desc).map (fun d => d.parameters.length) = some 0 := ⟨by decide, by decide, by decide +kernel⟩
theorem cw_X7_restore : Cond.code yX7_restore cX7_restore 1 (some .int) ∈ gw := gwt7 (List.mem_of_getElem? (i := 66) rfl) (by decide +kernel)
theorem ci_X7_restore : Cond.initialized yX7_restore.cls ∈ gw := gwt1 (List.mem_of_getElem? (i := 1) rfl) (by decide +kernel)
theorem cs_X7_restore : Cond.instanceMethod yX7_restore ∈ gw := gwt7 (List.mem_of_getElem? (i := 64) rfl) (by decide +kernel)
theorem ce_X7_restore : Cond.selects RX7 yX7_restore yX7_restore ∈ gw := gwt7 (List.mem_of_getElem? (i := 65) rfl) (by decide +kernel)
theorem cd_X7_restore : yX7_restore.cls ≠ "java/lang/invoke/MethodHandle" ∧ yX7_restore.cls ≠ "java/lang/invoke/VarHandle" ∧ (parseMethodDescriptor yX7_restore.desc).map (fun d => d.parameters.length) = some 0 := ⟨by decide, by decide, by decide +kernel⟩
theorem cw_X8_addRow : Cond.code yX8_addRow cX8_addRow 3 (some .int) ∈ gw := gwt7 (List.mem_of_getElem? (i := 141) rfl) (by decide +kernel)
theorem ci_X8_addRow : Cond.initialized yX8_addRow.cls ∈ gw := gwt1 (List.mem_of_getElem? (i := 11) rfl) (by decide +kernel)
theorem cs_X8_addRow : Cond.instanceMethod yX8_addRow ∈ gw := gwt7 (List.mem_of_getElem? (i := 139) rfl) (by decide +kernel)
theorem ce_X8_addRow : Cond.selects RX8 yX8_addRow yX8_addRow ∈ gw := gwt7 (List.mem_of_getElem? (i := 140) rfl) (by decide +kernel)
theorem cd_X8_addRow : yX8_addRow.cls ≠ "java/lang/invoke/MethodHandle" ∧ yX8_addRow.cls ≠ "java/lang/invoke/VarHandle" ∧ (parseMethodDescriptor yX8_addRow.desc).map (fun d => d.parameters.length) = some 1 := ⟨by decide, by decide, by decide +kernel⟩
theorem cw_X8_thrown : Cond.code yX8_thrown cX8_thrown 1 (some .int) ∈ gw := gwt7 (List.mem_of_getElem? (i := 137) rfl) (by decide +kernel)
theorem ci_X8_thrown : Cond.initialized yX8_thrown.cls ∈ gw := gwt1 (List.mem_of_getElem? (i := 11) rfl) (by decide +kernel)
theorem cs_X8_thrown : Cond.instanceMethod yX8_thrown ∈ gw := gwt7 (List.mem_of_getElem? (i := 135) rfl) (by decide +kernel)
theorem ce_X8_thrown : Cond.selects RX8 yX8_thrown yX8_thrown ∈ gw := gwt7 (List.mem_of_getElem? (i := 136) rfl) (by decide +kernel)
theorem cd_X8_thrown : yX8_thrown.cls ≠ "java/lang/invoke/MethodHandle" ∧ yX8_thrown.cls ≠ "java/lang/invoke/VarHandle" ∧ (parseMethodDescriptor yX8_thrown.desc).map (fun d => d.parameters.length) = some 0 := ⟨by decide, by decide, by decide +kernel⟩
theorem cw_X8_addPhantoms : Cond.code yX8_addPhantoms cX8_addPhantoms 4 (some .int) ∈ gw := gwt7 (List.mem_of_getElem? (i := 176) rfl) (by decide +kernel)
theorem ci_X8_addPhantoms : Cond.initialized yX8_addPhantoms.cls ∈ gw := gwt1 (List.mem_of_getElem? (i := 11) rfl) (by decide +kernel)
theorem cs_X8_addPhantoms : Cond.instanceMethod yX8_addPhantoms ∈ gw := gwt7 (List.mem_of_getElem? (i := 174) rfl) (by decide +kernel)
theorem ce_X8_addPhantoms : Cond.selects RX8 yX8_addPhantoms yX8_addPhantoms ∈ gw := gwt7 (List.mem_of_getElem? (i := 175) rfl) (by decide +kernel)
theorem cd_X8_addPhantoms : yX8_addPhantoms.cls ≠ "java/lang/invoke/MethodHandle" ∧ yX8_addPhantoms.cls ≠ "java/lang/invoke/VarHandle" ∧ (parseMethodDescriptor yX8_addPhantoms.desc).map (fun d => d.parameters.length) = some 2 := ⟨by decide, by decide, by decide +kernel⟩
theorem cw_X8_removePhantoms : Cond.code yX8_removePhantoms cX8_removePhantoms 4 (some .int) ∈ gw := gwt7 (List.mem_of_getElem? (i := 200) rfl) (by decide +kernel)
theorem ci_X8_removePhantoms : Cond.initialized yX8_removePhantoms.cls ∈ gw := gwt1 (List.mem_of_getElem? (i := 11) rfl) (by decide +kernel)
theorem cs_X8_removePhantoms : Cond.instanceMethod yX8_removePhantoms ∈ gw := gwt7 (List.mem_of_getElem? (i := 198) rfl) (by decide +kernel)
theorem ce_X8_removePhantoms : Cond.selects RX8 yX8_removePhantoms yX8_removePhantoms ∈ gw := gwt7 (List.mem_of_getElem? (i := 199) rfl) (by decide +kernel)
theorem cd_X8_removePhantoms : yX8_removePhantoms.cls ≠ "java/lang/invoke/MethodHandle" ∧ yX8_removePhantoms.cls ≠ "java/lang/invoke/VarHandle" ∧ (parseMethodDescriptor yX8_removePhantoms.desc).map (fun d => d.parameters.length) = some 2 := ⟨by decide, by decide, by decide +kernel⟩
theorem cw_X8_add : Cond.code yX8_add cX8_add 4 (some .int) ∈ gw := gwt7 (List.mem_of_getElem? (i := 220) rfl) (by decide +kernel)
theorem ci_X8_add : Cond.initialized yX8_add.cls ∈ gw := gwt1 (List.mem_of_getElem? (i := 11) rfl) (by decide +kernel)
theorem cs_X8_add : Cond.instanceMethod yX8_add ∈ gw := gwt7 (List.mem_of_getElem? (i := 218) rfl) (by decide +kernel)
theorem ce_X8_add : Cond.selects RX8 yX8_add yX8_add ∈ gw := gwt7 (List.mem_of_getElem? (i := 219) rfl) (by decide +kernel)
theorem cd_X8_add : yX8_add.cls ≠ "java/lang/invoke/MethodHandle" ∧ yX8_add.cls ≠ "java/lang/invoke/VarHandle" ∧ (parseMethodDescriptor yX8_add.desc).map (fun d => d.parameters.length) = some 2 := ⟨by decide, by decide, by decide +kernel⟩
theorem cw_X8_move : Cond.code yX8_move cX8_move 4 (some .int) ∈ gw := gwt7 (List.mem_of_getElem? (i := 236) rfl) (by decide +kernel)
theorem ci_X8_move : Cond.initialized yX8_move.cls ∈ gw := gwt1 (List.mem_of_getElem? (i := 11) rfl) (by decide +kernel)
theorem cs_X8_move : Cond.instanceMethod yX8_move ∈ gw := gwt7 (List.mem_of_getElem? (i := 234) rfl) (by decide +kernel)
theorem ce_X8_move : Cond.selects RX8 yX8_move yX8_move ∈ gw := gwt7 (List.mem_of_getElem? (i := 235) rfl) (by decide +kernel)
theorem cd_X8_move : yX8_move.cls ≠ "java/lang/invoke/MethodHandle" ∧ yX8_move.cls ≠ "java/lang/invoke/VarHandle" ∧ (parseMethodDescriptor yX8_move.desc).map (fun d => d.parameters.length) = some 2 := ⟨by decide, by decide, by decide +kernel⟩
theorem cw_X8_remove : Cond.code yX8_remove cX8_remove 3 (some .int) ∈ gw := gwt8 (List.mem_of_getElem? (i := 12) rfl) (by decide +kernel)
theorem ci_X8_remove : Cond.initialized yX8_remove.cls ∈ gw := gwt1 (List.mem_of_getElem? (i := 11) rfl) (by decide +kernel)
theorem cs_X8_remove : Cond.instanceMethod yX8_remove ∈ gw := gwt8 (List.mem_of_getElem? (i := 10) rfl) (by decide +kernel)
theorem ce_X8_remove : Cond.selects RX8 yX8_remove yX8_remove ∈ gw := gwt8 (List.mem_of_getElem? (i := 11) rfl) (by decide +kernel)
theorem cd_X8_remove : yX8_remove.cls ≠ "java/lang/invoke/MethodHandle" ∧ yX8_remove.cls ≠ "java/lang/invoke/VarHandle" ∧ (parseMethodDescriptor yX8_remove.desc).map (fun d => d.parameters.length) = some 1 := ⟨by decide, by decide, by decide +kernel⟩
theorem cw_X8_setHeir : Cond.code yX8_setHeir cX8_setHeir 4 (some .int) ∈ gw := gwt8 (List.mem_of_getElem? (i := 28) rfl) (by decide +kernel)
theorem ci_X8_setHeir : Cond.initialized yX8_setHeir.cls ∈ gw := gwt1 (List.mem_of_getElem? (i := 11) rfl) (by decide +kernel)
theorem cs_X8_setHeir : Cond.instanceMethod yX8_setHeir ∈ gw := gwt8 (List.mem_of_getElem? (i := 26) rfl) (by decide +kernel)
theorem ce_X8_setHeir : Cond.selects RX8 yX8_setHeir yX8_setHeir ∈ gw := gwt8 (List.mem_of_getElem? (i := 27) rfl) (by decide +kernel)
theorem cd_X8_setHeir : yX8_setHeir.cls ≠ "java/lang/invoke/MethodHandle" ∧ yX8_setHeir.cls ≠ "java/lang/invoke/VarHandle" ∧ (parseMethodDescriptor yX8_setHeir.desc).map (fun d => d.parameters.length) = some 2 := ⟨by decide, by decide, by decide +kernel⟩
theorem cw_X8_clearHeir : Cond.code yX8_clearHeir cX8_clearHeir 3 (some .int) ∈ gw := gwt8 (List.mem_of_getElem? (i := 44) rfl) (by decide +kernel)
theorem ci_X8_clearHeir : Cond.initialized yX8_clearHeir.cls ∈ gw := gwt1 (List.mem_of_getElem? (i := 11) rfl) (by decide +kernel)
theorem cs_X8_clearHeir : Cond.instanceMethod yX8_clearHeir ∈ gw := gwt8 (List.mem_of_getElem? (i := 42) rfl) (by decide +kernel)
theorem ce_X8_clearHeir : Cond.selects RX8 yX8_clearHeir yX8_clearHeir ∈ gw := gwt8 (List.mem_of_getElem? (i := 43) rfl) (by decide +kernel)
theorem cd_X8_clearHeir : yX8_clearHeir.cls ≠ "java/lang/invoke/MethodHandle" ∧ yX8_clearHeir.cls ≠ "java/lang/invoke/VarHandle" ∧ (parseMethodDescriptor yX8_clearHeir.desc).map (fun d => d.parameters.length) = some 1 := ⟨by decide, by decide, by decide +kernel⟩
theorem cw_X8_lock : Cond.code yX8_lock cX8_lock 2 (some .int) ∈ gw := gwt8 (List.mem_of_getElem? (i := 52) rfl) (by decide +kernel)
theorem ci_X8_lock : Cond.initialized yX8_lock.cls ∈ gw := gwt1 (List.mem_of_getElem? (i := 11) rfl) (by decide +kernel)
theorem cs_X8_lock : Cond.instanceMethod yX8_lock ∈ gw := gwt8 (List.mem_of_getElem? (i := 50) rfl) (by decide +kernel)
theorem ce_X8_lock : Cond.selects RX8 yX8_lock yX8_lock ∈ gw := gwt8 (List.mem_of_getElem? (i := 51) rfl) (by decide +kernel)
theorem cd_X8_lock : yX8_lock.cls ≠ "java/lang/invoke/MethodHandle" ∧ yX8_lock.cls ≠ "java/lang/invoke/VarHandle" ∧ (parseMethodDescriptor yX8_lock.desc).map (fun d => d.parameters.length) = some 1 := ⟨by decide, by decide, by decide +kernel⟩
theorem cw_X8_unlock : Cond.code yX8_unlock cX8_unlock 2 (some .int) ∈ gw := gwt8 (List.mem_of_getElem? (i := 72) rfl) (by decide +kernel)
theorem ci_X8_unlock : Cond.initialized yX8_unlock.cls ∈ gw := gwt1 (List.mem_of_getElem? (i := 11) rfl) (by decide +kernel)
theorem cs_X8_unlock : Cond.instanceMethod yX8_unlock ∈ gw := gwt8 (List.mem_of_getElem? (i := 70) rfl) (by decide +kernel)
theorem ce_X8_unlock : Cond.selects RX8 yX8_unlock yX8_unlock ∈ gw := gwt8 (List.mem_of_getElem? (i := 71) rfl) (by decide +kernel)
theorem cd_X8_unlock : yX8_unlock.cls ≠ "java/lang/invoke/MethodHandle" ∧ yX8_unlock.cls ≠ "java/lang/invoke/VarHandle" ∧ (parseMethodDescriptor yX8_unlock.desc).map (fun d => d.parameters.length) = some 1 := ⟨by decide, by decide, by decide +kernel⟩
theorem cw_X8_nameRow : Cond.code yX8_nameRow cX8_nameRow 4 (some .int) ∈ gw := gwt8 (List.mem_of_getElem? (i := 76) rfl) (by decide +kernel)
theorem ci_X8_nameRow : Cond.initialized yX8_nameRow.cls ∈ gw := gwt1 (List.mem_of_getElem? (i := 11) rfl) (by decide +kernel)
theorem cs_X8_nameRow : Cond.instanceMethod yX8_nameRow ∈ gw := gwt8 (List.mem_of_getElem? (i := 74) rfl) (by decide +kernel)
theorem ce_X8_nameRow : Cond.selects RX8 yX8_nameRow yX8_nameRow ∈ gw := gwt8 (List.mem_of_getElem? (i := 75) rfl) (by decide +kernel)
theorem cd_X8_nameRow : yX8_nameRow.cls ≠ "java/lang/invoke/MethodHandle" ∧ yX8_nameRow.cls ≠ "java/lang/invoke/VarHandle" ∧ (parseMethodDescriptor yX8_nameRow.desc).map (fun d => d.parameters.length) = some 2 := ⟨by decide, by decide, by decide +kernel⟩
theorem cw_X8_spread : Cond.code yX8_spread cX8_spread 3 (some .int) ∈ gw := gwt8 (List.mem_of_getElem? (i := 91) rfl) (by decide +kernel)
theorem ci_X8_spread : Cond.initialized yX8_spread.cls ∈ gw := gwt1 (List.mem_of_getElem? (i := 11) rfl) (by decide +kernel)
theorem cs_X8_spread : Cond.instanceMethod yX8_spread ∈ gw := gwt8 (List.mem_of_getElem? (i := 89) rfl) (by decide +kernel)
theorem ce_X8_spread : Cond.selects RX8 yX8_spread yX8_spread ∈ gw := gwt8 (List.mem_of_getElem? (i := 90) rfl) (by decide +kernel)
theorem cd_X8_spread : yX8_spread.cls ≠ "java/lang/invoke/MethodHandle" ∧ yX8_spread.cls ≠ "java/lang/invoke/VarHandle" ∧ (parseMethodDescriptor yX8_spread.desc).map (fun d => d.parameters.length) = some 1 := ⟨by decide, by decide, by decide +kernel⟩
theorem cw_X7_rowCount : Cond.code yX7_rowCount cX7_rowCount 1 (some .int) ∈ gw := gwt2 (List.mem_of_getElem? (i := 23) rfl) (by decide +kernel)
theorem ci_X7_rowCount : Cond.initialized yX7_rowCount.cls ∈ gw := gwt1 (List.mem_of_getElem? (i := 1) rfl) (by decide +kernel)
theorem cs_X7_rowCount : Cond.instanceMethod yX7_rowCount ∈ gw := gwt2 (List.mem_of_getElem? (i := 21) rfl) (by decide +kernel)
theorem ce_X7_rowCount : Cond.selects RX7 yX7_rowCount yX7_rowCount ∈ gw := gwt2 (List.mem_of_getElem? (i := 22) rfl) (by decide +kernel)
theorem cd_X7_rowCount : yX7_rowCount.cls ≠ "java/lang/invoke/MethodHandle" ∧ yX7_rowCount.cls ≠ "java/lang/invoke/VarHandle" ∧ (parseMethodDescriptor yX7_rowCount.desc).map (fun d => d.parameters.length) = some 0 := ⟨by decide, by decide, by decide +kernel⟩
theorem cw_X8_rowCount : Cond.code yX8_rowCount cX8_rowCount 1 (some .int) ∈ gw := gwt8 (List.mem_of_getElem? (i := 115) rfl) (by decide +kernel)
theorem ci_X8_rowCount : Cond.initialized yX8_rowCount.cls ∈ gw := gwt1 (List.mem_of_getElem? (i := 11) rfl) (by decide +kernel)
theorem cs_X8_rowCount : Cond.instanceMethod yX8_rowCount ∈ gw := gwt8 (List.mem_of_getElem? (i := 113) rfl) (by decide +kernel)
theorem ce_X8_rowCount : Cond.selects RX8 yX8_rowCount yX8_rowCount ∈ gw := gwt8 (List.mem_of_getElem? (i := 114) rfl) (by decide +kernel)
theorem cd_X8_rowCount : yX8_rowCount.cls ≠ "java/lang/invoke/MethodHandle" ∧ yX8_rowCount.cls ≠ "java/lang/invoke/VarHandle" ∧ (parseMethodDescriptor yX8_rowCount.desc).map (fun d => d.parameters.length) = some 0 := ⟨by decide, by decide, by decide +kernel⟩
theorem cw_X8_capacity : Cond.code yX8_capacity cX8_capacity 2 (some .int) ∈ gw := gwt8 (List.mem_of_getElem? (i := 119) rfl) (by decide +kernel)
theorem ci_X8_capacity : Cond.initialized yX8_capacity.cls ∈ gw := gwt1 (List.mem_of_getElem? (i := 11) rfl) (by decide +kernel)
theorem cs_X8_capacity : Cond.instanceMethod yX8_capacity ∈ gw := gwt8 (List.mem_of_getElem? (i := 117) rfl) (by decide +kernel)
theorem ce_X8_capacity : Cond.selects RX8 yX8_capacity yX8_capacity ∈ gw := gwt8 (List.mem_of_getElem? (i := 118) rfl) (by decide +kernel)
theorem cd_X8_capacity : yX8_capacity.cls ≠ "java/lang/invoke/MethodHandle" ∧ yX8_capacity.cls ≠ "java/lang/invoke/VarHandle" ∧ (parseMethodDescriptor yX8_capacity.desc).map (fun d => d.parameters.length) = some 1 := ⟨by decide, by decide, by decide +kernel⟩
theorem cw_X8_phantoms : Cond.code yX8_phantoms cX8_phantoms 2 (some .int) ∈ gw := gwt8 (List.mem_of_getElem? (i := 123) rfl) (by decide +kernel)
theorem ci_X8_phantoms : Cond.initialized yX8_phantoms.cls ∈ gw := gwt1 (List.mem_of_getElem? (i := 11) rfl) (by decide +kernel)
theorem cs_X8_phantoms : Cond.instanceMethod yX8_phantoms ∈ gw := gwt8 (List.mem_of_getElem? (i := 121) rfl) (by decide +kernel)
theorem ce_X8_phantoms : Cond.selects RX8 yX8_phantoms yX8_phantoms ∈ gw := gwt8 (List.mem_of_getElem? (i := 122) rfl) (by decide +kernel)
theorem cd_X8_phantoms : yX8_phantoms.cls ≠ "java/lang/invoke/MethodHandle" ∧ yX8_phantoms.cls ≠ "java/lang/invoke/VarHandle" ∧ (parseMethodDescriptor yX8_phantoms.desc).map (fun d => d.parameters.length) = some 1 := ⟨by decide, by decide, by decide +kernel⟩
theorem cw_X8_occupancy : Cond.code yX8_occupancy cX8_occupancy 2 (some .int) ∈ gw := gwt8 (List.mem_of_getElem? (i := 127) rfl) (by decide +kernel)
theorem ci_X8_occupancy : Cond.initialized yX8_occupancy.cls ∈ gw := gwt1 (List.mem_of_getElem? (i := 11) rfl) (by decide +kernel)
theorem cs_X8_occupancy : Cond.instanceMethod yX8_occupancy ∈ gw := gwt8 (List.mem_of_getElem? (i := 125) rfl) (by decide +kernel)
theorem ce_X8_occupancy : Cond.selects RX8 yX8_occupancy yX8_occupancy ∈ gw := gwt8 (List.mem_of_getElem? (i := 126) rfl) (by decide +kernel)
theorem cd_X8_occupancy : yX8_occupancy.cls ≠ "java/lang/invoke/MethodHandle" ∧ yX8_occupancy.cls ≠ "java/lang/invoke/VarHandle" ∧ (parseMethodDescriptor yX8_occupancy.desc).map (fun d => d.parameters.length) = some 1 := ⟨by decide, by decide, by decide +kernel⟩
theorem cw_X8_freeSeats : Cond.code yX8_freeSeats cX8_freeSeats 2 (some .int) ∈ gw := gwt8 (List.mem_of_getElem? (i := 131) rfl) (by decide +kernel)
theorem ci_X8_freeSeats : Cond.initialized yX8_freeSeats.cls ∈ gw := gwt1 (List.mem_of_getElem? (i := 11) rfl) (by decide +kernel)
theorem cs_X8_freeSeats : Cond.instanceMethod yX8_freeSeats ∈ gw := gwt8 (List.mem_of_getElem? (i := 129) rfl) (by decide +kernel)
theorem ce_X8_freeSeats : Cond.selects RX8 yX8_freeSeats yX8_freeSeats ∈ gw := gwt8 (List.mem_of_getElem? (i := 130) rfl) (by decide +kernel)
theorem cd_X8_freeSeats : yX8_freeSeats.cls ≠ "java/lang/invoke/MethodHandle" ∧ yX8_freeSeats.cls ≠ "java/lang/invoke/VarHandle" ∧ (parseMethodDescriptor yX8_freeSeats.desc).map (fun d => d.parameters.length) = some 1 := ⟨by decide, by decide, by decide +kernel⟩
theorem cw_X8_rowLoudness : Cond.code yX8_rowLoudness cX8_rowLoudness 2 (some .int) ∈ gw := gwt8 (List.mem_of_getElem? (i := 135) rfl) (by decide +kernel)
theorem ci_X8_rowLoudness : Cond.initialized yX8_rowLoudness.cls ∈ gw := gwt1 (List.mem_of_getElem? (i := 11) rfl) (by decide +kernel)
theorem cs_X8_rowLoudness : Cond.instanceMethod yX8_rowLoudness ∈ gw := gwt8 (List.mem_of_getElem? (i := 133) rfl) (by decide +kernel)
theorem ce_X8_rowLoudness : Cond.selects RX8 yX8_rowLoudness yX8_rowLoudness ∈ gw := gwt8 (List.mem_of_getElem? (i := 134) rfl) (by decide +kernel)
theorem cd_X8_rowLoudness : yX8_rowLoudness.cls ≠ "java/lang/invoke/MethodHandle" ∧ yX8_rowLoudness.cls ≠ "java/lang/invoke/VarHandle" ∧ (parseMethodDescriptor yX8_rowLoudness.desc).map (fun d => d.parameters.length) = some 1 := ⟨by decide, by decide, by decide +kernel⟩
theorem cw_X8_isLocked : Cond.code yX8_isLocked cX8_isLocked 2 (some .boolean) ∈ gw := gwt8 (List.mem_of_getElem? (i := 143) rfl) (by decide +kernel)
theorem ci_X8_isLocked : Cond.initialized yX8_isLocked.cls ∈ gw := gwt1 (List.mem_of_getElem? (i := 11) rfl) (by decide +kernel)
theorem cs_X8_isLocked : Cond.instanceMethod yX8_isLocked ∈ gw := gwt8 (List.mem_of_getElem? (i := 141) rfl) (by decide +kernel)
theorem ce_X8_isLocked : Cond.selects RX8 yX8_isLocked yX8_isLocked ∈ gw := gwt8 (List.mem_of_getElem? (i := 142) rfl) (by decide +kernel)
theorem cd_X8_isLocked : yX8_isLocked.cls ≠ "java/lang/invoke/MethodHandle" ∧ yX8_isLocked.cls ≠ "java/lang/invoke/VarHandle" ∧ (parseMethodDescriptor yX8_isLocked.desc).map (fun d => d.parameters.length) = some 1 := ⟨by decide, by decide, by decide +kernel⟩
theorem cw_X8_isCrowded : Cond.code yX8_isCrowded cX8_isCrowded 2 (some .boolean) ∈ gw := gwt8 (List.mem_of_getElem? (i := 147) rfl) (by decide +kernel)
theorem ci_X8_isCrowded : Cond.initialized yX8_isCrowded.cls ∈ gw := gwt1 (List.mem_of_getElem? (i := 11) rfl) (by decide +kernel)
theorem cs_X8_isCrowded : Cond.instanceMethod yX8_isCrowded ∈ gw := gwt8 (List.mem_of_getElem? (i := 145) rfl) (by decide +kernel)
theorem ce_X8_isCrowded : Cond.selects RX8 yX8_isCrowded yX8_isCrowded ∈ gw := gwt8 (List.mem_of_getElem? (i := 146) rfl) (by decide +kernel)
theorem cd_X8_isCrowded : yX8_isCrowded.cls ≠ "java/lang/invoke/MethodHandle" ∧ yX8_isCrowded.cls ≠ "java/lang/invoke/VarHandle" ∧ (parseMethodDescriptor yX8_isCrowded.desc).map (fun d => d.parameters.length) = some 1 := ⟨by decide, by decide, by decide +kernel⟩
theorem cw_X8_idInRow : Cond.code yX8_idInRow cX8_idInRow 4 (some .int) ∈ gw := gwt8 (List.mem_of_getElem? (i := 151) rfl) (by decide +kernel)
theorem ci_X8_idInRow : Cond.initialized yX8_idInRow.cls ∈ gw := gwt1 (List.mem_of_getElem? (i := 11) rfl) (by decide +kernel)
theorem cs_X8_idInRow : Cond.instanceMethod yX8_idInRow ∈ gw := gwt8 (List.mem_of_getElem? (i := 149) rfl) (by decide +kernel)
theorem ce_X8_idInRow : Cond.selects RX8 yX8_idInRow yX8_idInRow ∈ gw := gwt8 (List.mem_of_getElem? (i := 150) rfl) (by decide +kernel)
theorem cd_X8_idInRow : yX8_idInRow.cls ≠ "java/lang/invoke/MethodHandle" ∧ yX8_idInRow.cls ≠ "java/lang/invoke/VarHandle" ∧ (parseMethodDescriptor yX8_idInRow.desc).map (fun d => d.parameters.length) = some 2 := ⟨by decide, by decide, by decide +kernel⟩
theorem cw_X7_echoCount : Cond.code yX7_echoCount cX7_echoCount 1 (some .int) ∈ gw := gwt2 (List.mem_of_getElem? (i := 31) rfl) (by decide +kernel)
theorem ci_X7_echoCount : Cond.initialized yX7_echoCount.cls ∈ gw := gwt1 (List.mem_of_getElem? (i := 1) rfl) (by decide +kernel)
theorem cs_X7_echoCount : Cond.instanceMethod yX7_echoCount ∈ gw := gwt2 (List.mem_of_getElem? (i := 29) rfl) (by decide +kernel)
theorem ce_X7_echoCount : Cond.selects RX7 yX7_echoCount yX7_echoCount ∈ gw := gwt2 (List.mem_of_getElem? (i := 30) rfl) (by decide +kernel)
theorem cd_X7_echoCount : yX7_echoCount.cls ≠ "java/lang/invoke/MethodHandle" ∧ yX7_echoCount.cls ≠ "java/lang/invoke/VarHandle" ∧ (parseMethodDescriptor yX7_echoCount.desc).map (fun d => d.parameters.length) = some 0 := ⟨by decide, by decide, by decide +kernel⟩
theorem cw_X8_echoCount : Cond.code yX8_echoCount cX8_echoCount 1 (some .int) ∈ gw := gwt8 (List.mem_of_getElem? (i := 159) rfl) (by decide +kernel)
theorem ci_X8_echoCount : Cond.initialized yX8_echoCount.cls ∈ gw := gwt1 (List.mem_of_getElem? (i := 11) rfl) (by decide +kernel)
theorem cs_X8_echoCount : Cond.instanceMethod yX8_echoCount ∈ gw := gwt8 (List.mem_of_getElem? (i := 157) rfl) (by decide +kernel)
theorem ce_X8_echoCount : Cond.selects RX8 yX8_echoCount yX8_echoCount ∈ gw := gwt8 (List.mem_of_getElem? (i := 158) rfl) (by decide +kernel)
theorem cd_X8_echoCount : yX8_echoCount.cls ≠ "java/lang/invoke/MethodHandle" ∧ yX8_echoCount.cls ≠ "java/lang/invoke/VarHandle" ∧ (parseMethodDescriptor yX8_echoCount.desc).map (fun d => d.parameters.length) = some 0 := ⟨by decide, by decide, by decide +kernel⟩
theorem cw_X7_isActive : Cond.code yX7_isActive cX7_isActive 2 (some .boolean) ∈ gw := gwt2 (List.mem_of_getElem? (i := 35) rfl) (by decide +kernel)
theorem ci_X7_isActive : Cond.initialized yX7_isActive.cls ∈ gw := gwt1 (List.mem_of_getElem? (i := 1) rfl) (by decide +kernel)
theorem cs_X7_isActive : Cond.instanceMethod yX7_isActive ∈ gw := gwt2 (List.mem_of_getElem? (i := 33) rfl) (by decide +kernel)
theorem ce_X7_isActive : Cond.selects RX7 yX7_isActive yX7_isActive ∈ gw := gwt2 (List.mem_of_getElem? (i := 34) rfl) (by decide +kernel)
theorem cd_X7_isActive : yX7_isActive.cls ≠ "java/lang/invoke/MethodHandle" ∧ yX7_isActive.cls ≠ "java/lang/invoke/VarHandle" ∧ (parseMethodDescriptor yX7_isActive.desc).map (fun d => d.parameters.length) = some 1 := ⟨by decide, by decide, by decide +kernel⟩
theorem cw_X8_isActive : Cond.code yX8_isActive cX8_isActive 2 (some .boolean) ∈ gw := gwt8 (List.mem_of_getElem? (i := 163) rfl) (by decide +kernel)
theorem ci_X8_isActive : Cond.initialized yX8_isActive.cls ∈ gw := gwt1 (List.mem_of_getElem? (i := 11) rfl) (by decide +kernel)
theorem cs_X8_isActive : Cond.instanceMethod yX8_isActive ∈ gw := gwt8 (List.mem_of_getElem? (i := 161) rfl) (by decide +kernel)
theorem ce_X8_isActive : Cond.selects RX8 yX8_isActive yX8_isActive ∈ gw := gwt8 (List.mem_of_getElem? (i := 162) rfl) (by decide +kernel)
theorem cd_X8_isActive : yX8_isActive.cls ≠ "java/lang/invoke/MethodHandle" ∧ yX8_isActive.cls ≠ "java/lang/invoke/VarHandle" ∧ (parseMethodDescriptor yX8_isActive.desc).map (fun d => d.parameters.length) = some 1 := ⟨by decide, by decide, by decide +kernel⟩
theorem cw_X8_rowOf : Cond.code yX8_rowOf cX8_rowOf 2 (some .int) ∈ gw := gwt8 (List.mem_of_getElem? (i := 167) rfl) (by decide +kernel)
theorem ci_X8_rowOf : Cond.initialized yX8_rowOf.cls ∈ gw := gwt1 (List.mem_of_getElem? (i := 11) rfl) (by decide +kernel)
theorem cs_X8_rowOf : Cond.instanceMethod yX8_rowOf ∈ gw := gwt8 (List.mem_of_getElem? (i := 165) rfl) (by decide +kernel)
theorem ce_X8_rowOf : Cond.selects RX8 yX8_rowOf yX8_rowOf ∈ gw := gwt8 (List.mem_of_getElem? (i := 166) rfl) (by decide +kernel)
theorem cd_X8_rowOf : yX8_rowOf.cls ≠ "java/lang/invoke/MethodHandle" ∧ yX8_rowOf.cls ≠ "java/lang/invoke/VarHandle" ∧ (parseMethodDescriptor yX8_rowOf.desc).map (fun d => d.parameters.length) = some 1 := ⟨by decide, by decide, by decide +kernel⟩
theorem cw_X8_loudness : Cond.code yX8_loudness cX8_loudness 2 (some .int) ∈ gw := gwt8 (List.mem_of_getElem? (i := 175) rfl) (by decide +kernel)
theorem ci_X8_loudness : Cond.initialized yX8_loudness.cls ∈ gw := gwt1 (List.mem_of_getElem? (i := 11) rfl) (by decide +kernel)
theorem cs_X8_loudness : Cond.instanceMethod yX8_loudness ∈ gw := gwt8 (List.mem_of_getElem? (i := 173) rfl) (by decide +kernel)
theorem ce_X8_loudness : Cond.selects RX8 yX8_loudness yX8_loudness ∈ gw := gwt8 (List.mem_of_getElem? (i := 174) rfl) (by decide +kernel)
theorem cd_X8_loudness : yX8_loudness.cls ≠ "java/lang/invoke/MethodHandle" ∧ yX8_loudness.cls ≠ "java/lang/invoke/VarHandle" ∧ (parseMethodDescriptor yX8_loudness.desc).map (fun d => d.parameters.length) = some 1 := ⟨by decide, by decide, by decide +kernel⟩
theorem cw_X8_positionInRow : Cond.code yX8_positionInRow cX8_positionInRow 2 (some .int) ∈ gw := gwt8 (List.mem_of_getElem? (i := 179) rfl) (by decide +kernel)
theorem ci_X8_positionInRow : Cond.initialized yX8_positionInRow.cls ∈ gw := gwt1 (List.mem_of_getElem? (i := 11) rfl) (by decide +kernel)
theorem cs_X8_positionInRow : Cond.instanceMethod yX8_positionInRow ∈ gw := gwt8 (List.mem_of_getElem? (i := 177) rfl) (by decide +kernel)
theorem ce_X8_positionInRow : Cond.selects RX8 yX8_positionInRow yX8_positionInRow ∈ gw := gwt8 (List.mem_of_getElem? (i := 178) rfl) (by decide +kernel)
theorem cd_X8_positionInRow : yX8_positionInRow.cls ≠ "java/lang/invoke/MethodHandle" ∧ yX8_positionInRow.cls ≠ "java/lang/invoke/VarHandle" ∧ (parseMethodDescriptor yX8_positionInRow.desc).map (fun d => d.parameters.length) = some 1 := ⟨by decide, by decide, by decide +kernel⟩
theorem cw_X8_hasHeir : Cond.code yX8_hasHeir cX8_hasHeir 2 (some .boolean) ∈ gw := gwt8 (List.mem_of_getElem? (i := 187) rfl) (by decide +kernel)
theorem ci_X8_hasHeir : Cond.initialized yX8_hasHeir.cls ∈ gw := gwt1 (List.mem_of_getElem? (i := 11) rfl) (by decide +kernel)
theorem cs_X8_hasHeir : Cond.instanceMethod yX8_hasHeir ∈ gw := gwt8 (List.mem_of_getElem? (i := 185) rfl) (by decide +kernel)
theorem ce_X8_hasHeir : Cond.selects RX8 yX8_hasHeir yX8_hasHeir ∈ gw := gwt8 (List.mem_of_getElem? (i := 186) rfl) (by decide +kernel)
theorem cd_X8_hasHeir : yX8_hasHeir.cls ≠ "java/lang/invoke/MethodHandle" ∧ yX8_hasHeir.cls ≠ "java/lang/invoke/VarHandle" ∧ (parseMethodDescriptor yX8_hasHeir.desc).map (fun d => d.parameters.length) = some 1 := ⟨by decide, by decide, by decide +kernel⟩
theorem cw_X8_heir : Cond.code yX8_heir cX8_heir 3 (some .int) ∈ gw := gwt8 (List.mem_of_getElem? (i := 191) rfl) (by decide +kernel)
theorem ci_X8_heir : Cond.initialized yX8_heir.cls ∈ gw := gwt1 (List.mem_of_getElem? (i := 11) rfl) (by decide +kernel)
theorem cs_X8_heir : Cond.instanceMethod yX8_heir ∈ gw := gwt8 (List.mem_of_getElem? (i := 189) rfl) (by decide +kernel)
theorem ce_X8_heir : Cond.selects RX8 yX8_heir yX8_heir ∈ gw := gwt8 (List.mem_of_getElem? (i := 190) rfl) (by decide +kernel)
theorem cd_X8_heir : yX8_heir.cls ≠ "java/lang/invoke/MethodHandle" ∧ yX8_heir.cls ≠ "java/lang/invoke/VarHandle" ∧ (parseMethodDescriptor yX8_heir.desc).map (fun d => d.parameters.length) = some 1 := ⟨by decide, by decide, by decide +kernel⟩
theorem cw_X8_lastHeirByDoubling : Cond.code yX8_lastHeirByDoubling cX8_lastHeirByDoubling 2 (some .int) ∈ gw := gwt8 (List.mem_of_getElem? (i := 203) rfl) (by decide +kernel)
theorem ci_X8_lastHeirByDoubling : Cond.initialized yX8_lastHeirByDoubling.cls ∈ gw := gwt1 (List.mem_of_getElem? (i := 11) rfl) (by decide +kernel)
theorem cs_X8_lastHeirByDoubling : Cond.instanceMethod yX8_lastHeirByDoubling ∈ gw := gwt8 (List.mem_of_getElem? (i := 201) rfl) (by decide +kernel)
theorem ce_X8_lastHeirByDoubling : Cond.selects RX8 yX8_lastHeirByDoubling yX8_lastHeirByDoubling ∈ gw := gwt8 (List.mem_of_getElem? (i := 202) rfl) (by decide +kernel)
theorem cd_X8_lastHeirByDoubling : yX8_lastHeirByDoubling.cls ≠ "java/lang/invoke/MethodHandle" ∧ yX8_lastHeirByDoubling.cls ≠ "java/lang/invoke/VarHandle" ∧ (parseMethodDescriptor yX8_lastHeirByDoubling.desc).map (fun d => d.parameters.length) = some 1 := ⟨by decide, by decide, by decide +kernel⟩
theorem cw_X8_stepsToLastHeir : Cond.code yX8_stepsToLastHeir cX8_stepsToLastHeir 4 (some .int) ∈ gw := gwt8 (List.mem_of_getElem? (i := 208) rfl) (by decide +kernel)
theorem ci_X8_stepsToLastHeir : Cond.initialized yX8_stepsToLastHeir.cls ∈ gw := gwt1 (List.mem_of_getElem? (i := 11) rfl) (by decide +kernel)
theorem cs_X8_stepsToLastHeir : Cond.instanceMethod yX8_stepsToLastHeir ∈ gw := gwt8 (List.mem_of_getElem? (i := 206) rfl) (by decide +kernel)
theorem ce_X8_stepsToLastHeir : Cond.selects RX8 yX8_stepsToLastHeir yX8_stepsToLastHeir ∈ gw := gwt8 (List.mem_of_getElem? (i := 207) rfl) (by decide +kernel)
theorem cd_X8_stepsToLastHeir : yX8_stepsToLastHeir.cls ≠ "java/lang/invoke/MethodHandle" ∧ yX8_stepsToLastHeir.cls ≠ "java/lang/invoke/VarHandle" ∧ (parseMethodDescriptor yX8_stepsToLastHeir.desc).map (fun d => d.parameters.length) = some 1 := ⟨by decide, by decide, by decide +kernel⟩
theorem cw_X8_bequeathers : Cond.code yX8_bequeathers cX8_bequeathers 4 (some .int) ∈ gw := gwt8 (List.mem_of_getElem? (i := 212) rfl) (by decide +kernel)
theorem ci_X8_bequeathers : Cond.initialized yX8_bequeathers.cls ∈ gw := gwt1 (List.mem_of_getElem? (i := 11) rfl) (by decide +kernel)
theorem cs_X8_bequeathers : Cond.instanceMethod yX8_bequeathers ∈ gw := gwt8 (List.mem_of_getElem? (i := 210) rfl) (by decide +kernel)
theorem ce_X8_bequeathers : Cond.selects RX8 yX8_bequeathers yX8_bequeathers ∈ gw := gwt8 (List.mem_of_getElem? (i := 211) rfl) (by decide +kernel)
theorem cd_X8_bequeathers : yX8_bequeathers.cls ≠ "java/lang/invoke/MethodHandle" ∧ yX8_bequeathers.cls ≠ "java/lang/invoke/VarHandle" ∧ (parseMethodDescriptor yX8_bequeathers.desc).map (fun d => d.parameters.length) = some 1 := ⟨by decide, by decide, by decide +kernel⟩
theorem cw_X8_countInRowsByTree : Cond.code yX8_countInRowsByTree cX8_countInRowsByTree 3 (some .int) ∈ gw := gwt8 (List.mem_of_getElem? (i := 220) rfl) (by decide +kernel)
theorem ci_X8_countInRowsByTree : Cond.initialized yX8_countInRowsByTree.cls ∈ gw := gwt1 (List.mem_of_getElem? (i := 11) rfl) (by decide +kernel)
theorem cs_X8_countInRowsByTree : Cond.instanceMethod yX8_countInRowsByTree ∈ gw := gwt8 (List.mem_of_getElem? (i := 218) rfl) (by decide +kernel)
theorem ce_X8_countInRowsByTree : Cond.selects RX8 yX8_countInRowsByTree yX8_countInRowsByTree ∈ gw := gwt8 (List.mem_of_getElem? (i := 219) rfl) (by decide +kernel)
theorem cd_X8_countInRowsByTree : yX8_countInRowsByTree.cls ≠ "java/lang/invoke/MethodHandle" ∧ yX8_countInRowsByTree.cls ≠ "java/lang/invoke/VarHandle" ∧ (parseMethodDescriptor yX8_countInRowsByTree.desc).map (fun d => d.parameters.length) = some 2 := ⟨by decide, by decide, by decide +kernel⟩
theorem cw_X8_idByRankByTree : Cond.code yX8_idByRankByTree cX8_idByRankByTree 2 (some .int) ∈ gw := gwt8 (List.mem_of_getElem? (i := 233) rfl) (by decide +kernel)
theorem ci_X8_idByRankByTree : Cond.initialized yX8_idByRankByTree.cls ∈ gw := gwt1 (List.mem_of_getElem? (i := 11) rfl) (by decide +kernel)
theorem cs_X8_idByRankByTree : Cond.instanceMethod yX8_idByRankByTree ∈ gw := gwt8 (List.mem_of_getElem? (i := 231) rfl) (by decide +kernel)
theorem ce_X8_idByRankByTree : Cond.selects RX8 yX8_idByRankByTree yX8_idByRankByTree ∈ gw := gwt8 (List.mem_of_getElem? (i := 232) rfl) (by decide +kernel)
theorem cd_X8_idByRankByTree : yX8_idByRankByTree.cls ≠ "java/lang/invoke/MethodHandle" ∧ yX8_idByRankByTree.cls ≠ "java/lang/invoke/VarHandle" ∧ (parseMethodDescriptor yX8_idByRankByTree.desc).map (fun d => d.parameters.length) = some 1 := ⟨by decide, by decide, by decide +kernel⟩
theorem cw_X8_rank : Cond.code yX8_rank cX8_rank 2 (some .int) ∈ gw := gwt8 (List.mem_of_getElem? (i := 238) rfl) (by decide +kernel)
theorem ci_X8_rank : Cond.initialized yX8_rank.cls ∈ gw := gwt1 (List.mem_of_getElem? (i := 11) rfl) (by decide +kernel)
theorem cs_X8_rank : Cond.instanceMethod yX8_rank ∈ gw := gwt8 (List.mem_of_getElem? (i := 236) rfl) (by decide +kernel)
theorem ce_X8_rank : Cond.selects RX8 yX8_rank yX8_rank ∈ gw := gwt8 (List.mem_of_getElem? (i := 237) rfl) (by decide +kernel)
theorem cd_X8_rank : yX8_rank.cls ≠ "java/lang/invoke/MethodHandle" ∧ yX8_rank.cls ≠ "java/lang/invoke/VarHandle" ∧ (parseMethodDescriptor yX8_rank.desc).map (fun d => d.parameters.length) = some 1 := ⟨by decide, by decide, by decide +kernel⟩
theorem cw_X8_loudest : Cond.code yX8_loudest cX8_loudest 2 (some .int) ∈ gw := gwt9 (List.mem_of_getElem? (i := 2) rfl) (by decide +kernel)
theorem ci_X8_loudest : Cond.initialized yX8_loudest.cls ∈ gw := gwt1 (List.mem_of_getElem? (i := 11) rfl) (by decide +kernel)
theorem cs_X8_loudest : Cond.instanceMethod yX8_loudest ∈ gw := gwt9 (List.mem_of_getElem? (i := 0) rfl) (by decide +kernel)
theorem ce_X8_loudest : Cond.selects RX8 yX8_loudest yX8_loudest ∈ gw := gwt9 (List.mem_of_getElem? (i := 1) rfl) (by decide +kernel)
theorem cd_X8_loudest : yX8_loudest.cls ≠ "java/lang/invoke/MethodHandle" ∧ yX8_loudest.cls ≠ "java/lang/invoke/VarHandle" ∧ (parseMethodDescriptor yX8_loudest.desc).map (fun d => d.parameters.length) = some 0 := ⟨by decide, by decide, by decide +kernel⟩
theorem cw_X8_quietestRow : Cond.code yX8_quietestRow cX8_quietestRow 3 (some .int) ∈ gw := gwt9 (List.mem_of_getElem? (i := 6) rfl) (by decide +kernel)
theorem ci_X8_quietestRow : Cond.initialized yX8_quietestRow.cls ∈ gw := gwt1 (List.mem_of_getElem? (i := 11) rfl) (by decide +kernel)
theorem cs_X8_quietestRow : Cond.instanceMethod yX8_quietestRow ∈ gw := gwt9 (List.mem_of_getElem? (i := 4) rfl) (by decide +kernel)
theorem ce_X8_quietestRow : Cond.selects RX8 yX8_quietestRow yX8_quietestRow ∈ gw := gwt9 (List.mem_of_getElem? (i := 5) rfl) (by decide +kernel)
theorem cd_X8_quietestRow : yX8_quietestRow.cls ≠ "java/lang/invoke/MethodHandle" ∧ yX8_quietestRow.cls ≠ "java/lang/invoke/VarHandle" ∧ (parseMethodDescriptor yX8_quietestRow.desc).map (fun d => d.parameters.length) = some 0 := ⟨by decide, by decide, by decide +kernel⟩
theorem cw_X8_isNamed : Cond.code yX8_isNamed cX8_isNamed 2 (some .boolean) ∈ gw := gwt9 (List.mem_of_getElem? (i := 10) rfl) (by decide +kernel)
theorem ci_X8_isNamed : Cond.initialized yX8_isNamed.cls ∈ gw := gwt1 (List.mem_of_getElem? (i := 11) rfl) (by decide +kernel)
theorem cs_X8_isNamed : Cond.instanceMethod yX8_isNamed ∈ gw := gwt9 (List.mem_of_getElem? (i := 8) rfl) (by decide +kernel)
theorem ce_X8_isNamed : Cond.selects RX8 yX8_isNamed yX8_isNamed ∈ gw := gwt9 (List.mem_of_getElem? (i := 9) rfl) (by decide +kernel)
theorem cd_X8_isNamed : yX8_isNamed.cls ≠ "java/lang/invoke/MethodHandle" ∧ yX8_isNamed.cls ≠ "java/lang/invoke/VarHandle" ∧ (parseMethodDescriptor yX8_isNamed.desc).map (fun d => d.parameters.length) = some 1 := ⟨by decide, by decide, by decide +kernel⟩
theorem cw_X8_namedRow : Cond.code yX8_namedRow cX8_namedRow 3 (some .int) ∈ gw := gwt9 (List.mem_of_getElem? (i := 14) rfl) (by decide +kernel)
theorem ci_X8_namedRow : Cond.initialized yX8_namedRow.cls ∈ gw := gwt1 (List.mem_of_getElem? (i := 11) rfl) (by decide +kernel)
theorem cs_X8_namedRow : Cond.instanceMethod yX8_namedRow ∈ gw := gwt9 (List.mem_of_getElem? (i := 12) rfl) (by decide +kernel)
theorem ce_X8_namedRow : Cond.selects RX8 yX8_namedRow yX8_namedRow ∈ gw := gwt9 (List.mem_of_getElem? (i := 13) rfl) (by decide +kernel)
theorem cd_X8_namedRow : yX8_namedRow.cls ≠ "java/lang/invoke/MethodHandle" ∧ yX8_namedRow.cls ≠ "java/lang/invoke/VarHandle" ∧ (parseMethodDescriptor yX8_namedRow.desc).map (fun d => d.parameters.length) = some 1 := ⟨by decide, by decide, by decide +kernel⟩
theorem cw_X8_boxCount : Cond.code yX8_boxCount cX8_boxCount 4 (some .int) ∈ gw := gwt9 (List.mem_of_getElem? (i := 18) rfl) (by decide +kernel)
theorem ci_X8_boxCount : Cond.initialized yX8_boxCount.cls ∈ gw := gwt1 (List.mem_of_getElem? (i := 11) rfl) (by decide +kernel)
theorem cs_X8_boxCount : Cond.instanceMethod yX8_boxCount ∈ gw := gwt9 (List.mem_of_getElem? (i := 16) rfl) (by decide +kernel)
theorem ce_X8_boxCount : Cond.selects RX8 yX8_boxCount yX8_boxCount ∈ gw := gwt9 (List.mem_of_getElem? (i := 17) rfl) (by decide +kernel)
theorem cd_X8_boxCount : yX8_boxCount.cls ≠ "java/lang/invoke/MethodHandle" ∧ yX8_boxCount.cls ≠ "java/lang/invoke/VarHandle" ∧ (parseMethodDescriptor yX8_boxCount.desc).map (fun d => d.parameters.length) = some 1 := ⟨by decide, by decide, by decide +kernel⟩
theorem cw_X7_moveCount : Cond.code yX7_moveCount cX7_moveCount 1 (some .int) ∈ gw := gwt2 (List.mem_of_getElem? (i := 43) rfl) (by decide +kernel)
theorem ci_X7_moveCount : Cond.initialized yX7_moveCount.cls ∈ gw := gwt1 (List.mem_of_getElem? (i := 1) rfl) (by decide +kernel)
theorem cs_X7_moveCount : Cond.instanceMethod yX7_moveCount ∈ gw := gwt2 (List.mem_of_getElem? (i := 41) rfl) (by decide +kernel)
theorem ce_X7_moveCount : Cond.selects RX7 yX7_moveCount yX7_moveCount ∈ gw := gwt2 (List.mem_of_getElem? (i := 42) rfl) (by decide +kernel)
theorem cd_X7_moveCount : yX7_moveCount.cls ≠ "java/lang/invoke/MethodHandle" ∧ yX7_moveCount.cls ≠ "java/lang/invoke/VarHandle" ∧ (parseMethodDescriptor yX7_moveCount.desc).map (fun d => d.parameters.length) = some 0 := ⟨by decide, by decide, by decide +kernel⟩
theorem cw_X8_moveCount : Cond.code yX8_moveCount cX8_moveCount 1 (some .int) ∈ gw := gwt9 (List.mem_of_getElem? (i := 22) rfl) (by decide +kernel)
theorem ci_X8_moveCount : Cond.initialized yX8_moveCount.cls ∈ gw := gwt1 (List.mem_of_getElem? (i := 11) rfl) (by decide +kernel)
theorem cs_X8_moveCount : Cond.instanceMethod yX8_moveCount ∈ gw := gwt9 (List.mem_of_getElem? (i := 20) rfl) (by decide +kernel)
theorem ce_X8_moveCount : Cond.selects RX8 yX8_moveCount yX8_moveCount ∈ gw := gwt9 (List.mem_of_getElem? (i := 21) rfl) (by decide +kernel)
theorem cd_X8_moveCount : yX8_moveCount.cls ≠ "java/lang/invoke/MethodHandle" ∧ yX8_moveCount.cls ≠ "java/lang/invoke/VarHandle" ∧ (parseMethodDescriptor yX8_moveCount.desc).map (fun d => d.parameters.length) = some 0 := ⟨by decide, by decide, by decide +kernel⟩
theorem cw_X7_removeCount : Cond.code yX7_removeCount cX7_removeCount 1 (some .int) ∈ gw := gwt2 (List.mem_of_getElem? (i := 47) rfl) (by decide +kernel)
theorem ci_X7_removeCount : Cond.initialized yX7_removeCount.cls ∈ gw := gwt1 (List.mem_of_getElem? (i := 1) rfl) (by decide +kernel)
theorem cs_X7_removeCount : Cond.instanceMethod yX7_removeCount ∈ gw := gwt2 (List.mem_of_getElem? (i := 45) rfl) (by decide +kernel)
theorem ce_X7_removeCount : Cond.selects RX7 yX7_removeCount yX7_removeCount ∈ gw := gwt2 (List.mem_of_getElem? (i := 46) rfl) (by decide +kernel)
theorem cd_X7_removeCount : yX7_removeCount.cls ≠ "java/lang/invoke/MethodHandle" ∧ yX7_removeCount.cls ≠ "java/lang/invoke/VarHandle" ∧ (parseMethodDescriptor yX7_removeCount.desc).map (fun d => d.parameters.length) = some 0 := ⟨by decide, by decide, by decide +kernel⟩
theorem cw_X8_removeCount : Cond.code yX8_removeCount cX8_removeCount 1 (some .int) ∈ gw := gwt9 (List.mem_of_getElem? (i := 26) rfl) (by decide +kernel)
theorem ci_X8_removeCount : Cond.initialized yX8_removeCount.cls ∈ gw := gwt1 (List.mem_of_getElem? (i := 11) rfl) (by decide +kernel)
theorem cs_X8_removeCount : Cond.instanceMethod yX8_removeCount ∈ gw := gwt9 (List.mem_of_getElem? (i := 24) rfl) (by decide +kernel)
theorem ce_X8_removeCount : Cond.selects RX8 yX8_removeCount yX8_removeCount ∈ gw := gwt9 (List.mem_of_getElem? (i := 25) rfl) (by decide +kernel)
theorem cd_X8_removeCount : yX8_removeCount.cls ≠ "java/lang/invoke/MethodHandle" ∧ yX8_removeCount.cls ≠ "java/lang/invoke/VarHandle" ∧ (parseMethodDescriptor yX8_removeCount.desc).map (fun d => d.parameters.length) = some 0 := ⟨by decide, by decide, by decide +kernel⟩
theorem cw_X7_addedLoudness : Cond.code yX7_addedLoudness cX7_addedLoudness 1 (some .long) ∈ gw := gwt2 (List.mem_of_getElem? (i := 51) rfl) (by decide +kernel)
theorem ci_X7_addedLoudness : Cond.initialized yX7_addedLoudness.cls ∈ gw := gwt1 (List.mem_of_getElem? (i := 1) rfl) (by decide +kernel)
theorem cs_X7_addedLoudness : Cond.instanceMethod yX7_addedLoudness ∈ gw := gwt2 (List.mem_of_getElem? (i := 49) rfl) (by decide +kernel)
theorem ce_X7_addedLoudness : Cond.selects RX7 yX7_addedLoudness yX7_addedLoudness ∈ gw := gwt2 (List.mem_of_getElem? (i := 50) rfl) (by decide +kernel)
theorem cd_X7_addedLoudness : yX7_addedLoudness.cls ≠ "java/lang/invoke/MethodHandle" ∧ yX7_addedLoudness.cls ≠ "java/lang/invoke/VarHandle" ∧ (parseMethodDescriptor yX7_addedLoudness.desc).map (fun d => d.parameters.length) = some 0 := ⟨by decide, by decide, by decide +kernel⟩
theorem cw_X8_addedLoudness : Cond.code yX8_addedLoudness cX8_addedLoudness 1 (some .long) ∈ gw := gwt9 (List.mem_of_getElem? (i := 30) rfl) (by decide +kernel)
theorem ci_X8_addedLoudness : Cond.initialized yX8_addedLoudness.cls ∈ gw := gwt1 (List.mem_of_getElem? (i := 11) rfl) (by decide +kernel)
theorem cs_X8_addedLoudness : Cond.instanceMethod yX8_addedLoudness ∈ gw := gwt9 (List.mem_of_getElem? (i := 28) rfl) (by decide +kernel)
theorem ce_X8_addedLoudness : Cond.selects RX8 yX8_addedLoudness yX8_addedLoudness ∈ gw := gwt9 (List.mem_of_getElem? (i := 29) rfl) (by decide +kernel)
theorem cd_X8_addedLoudness : yX8_addedLoudness.cls ≠ "java/lang/invoke/MethodHandle" ∧ yX8_addedLoudness.cls ≠ "java/lang/invoke/VarHandle" ∧ (parseMethodDescriptor yX8_addedLoudness.desc).map (fun d => d.parameters.length) = some 0 := ⟨by decide, by decide, by decide +kernel⟩
theorem cw_X7_lostLoudness : Cond.code yX7_lostLoudness cX7_lostLoudness 1 (some .long) ∈ gw := gwt2 (List.mem_of_getElem? (i := 55) rfl) (by decide +kernel)
theorem ci_X7_lostLoudness : Cond.initialized yX7_lostLoudness.cls ∈ gw := gwt1 (List.mem_of_getElem? (i := 1) rfl) (by decide +kernel)
theorem cs_X7_lostLoudness : Cond.instanceMethod yX7_lostLoudness ∈ gw := gwt2 (List.mem_of_getElem? (i := 53) rfl) (by decide +kernel)
theorem ce_X7_lostLoudness : Cond.selects RX7 yX7_lostLoudness yX7_lostLoudness ∈ gw := gwt2 (List.mem_of_getElem? (i := 54) rfl) (by decide +kernel)
theorem cd_X7_lostLoudness : yX7_lostLoudness.cls ≠ "java/lang/invoke/MethodHandle" ∧ yX7_lostLoudness.cls ≠ "java/lang/invoke/VarHandle" ∧ (parseMethodDescriptor yX7_lostLoudness.desc).map (fun d => d.parameters.length) = some 0 := ⟨by decide, by decide, by decide +kernel⟩
theorem cw_X8_lostLoudness : Cond.code yX8_lostLoudness cX8_lostLoudness 1 (some .long) ∈ gw := gwt9 (List.mem_of_getElem? (i := 34) rfl) (by decide +kernel)
theorem ci_X8_lostLoudness : Cond.initialized yX8_lostLoudness.cls ∈ gw := gwt1 (List.mem_of_getElem? (i := 11) rfl) (by decide +kernel)
theorem cs_X8_lostLoudness : Cond.instanceMethod yX8_lostLoudness ∈ gw := gwt9 (List.mem_of_getElem? (i := 32) rfl) (by decide +kernel)
theorem ce_X8_lostLoudness : Cond.selects RX8 yX8_lostLoudness yX8_lostLoudness ∈ gw := gwt9 (List.mem_of_getElem? (i := 33) rfl) (by decide +kernel)
theorem cd_X8_lostLoudness : yX8_lostLoudness.cls ≠ "java/lang/invoke/MethodHandle" ∧ yX8_lostLoudness.cls ≠ "java/lang/invoke/VarHandle" ∧ (parseMethodDescriptor yX8_lostLoudness.desc).map (fun d => d.parameters.length) = some 0 := ⟨by decide, by decide, by decide +kernel⟩
theorem cw_X7_activeLoudness : Cond.code yX7_activeLoudness cX7_activeLoudness 1 (some .long) ∈ gw := gwt2 (List.mem_of_getElem? (i := 59) rfl) (by decide +kernel)
theorem ci_X7_activeLoudness : Cond.initialized yX7_activeLoudness.cls ∈ gw := gwt1 (List.mem_of_getElem? (i := 1) rfl) (by decide +kernel)
theorem cs_X7_activeLoudness : Cond.instanceMethod yX7_activeLoudness ∈ gw := gwt2 (List.mem_of_getElem? (i := 57) rfl) (by decide +kernel)
theorem ce_X7_activeLoudness : Cond.selects RX7 yX7_activeLoudness yX7_activeLoudness ∈ gw := gwt2 (List.mem_of_getElem? (i := 58) rfl) (by decide +kernel)
theorem cd_X7_activeLoudness : yX7_activeLoudness.cls ≠ "java/lang/invoke/MethodHandle" ∧ yX7_activeLoudness.cls ≠ "java/lang/invoke/VarHandle" ∧ (parseMethodDescriptor yX7_activeLoudness.desc).map (fun d => d.parameters.length) = some 0 := ⟨by decide, by decide, by decide +kernel⟩
theorem cw_X8_activeLoudness : Cond.code yX8_activeLoudness cX8_activeLoudness 1 (some .long) ∈ gw := gwt9 (List.mem_of_getElem? (i := 38) rfl) (by decide +kernel)
theorem ci_X8_activeLoudness : Cond.initialized yX8_activeLoudness.cls ∈ gw := gwt1 (List.mem_of_getElem? (i := 11) rfl) (by decide +kernel)
theorem cs_X8_activeLoudness : Cond.instanceMethod yX8_activeLoudness ∈ gw := gwt9 (List.mem_of_getElem? (i := 36) rfl) (by decide +kernel)
theorem ce_X8_activeLoudness : Cond.selects RX8 yX8_activeLoudness yX8_activeLoudness ∈ gw := gwt9 (List.mem_of_getElem? (i := 37) rfl) (by decide +kernel)
theorem cd_X8_activeLoudness : yX8_activeLoudness.cls ≠ "java/lang/invoke/MethodHandle" ∧ yX8_activeLoudness.cls ≠ "java/lang/invoke/VarHandle" ∧ (parseMethodDescriptor yX8_activeLoudness.desc).map (fun d => d.parameters.length) = some 0 := ⟨by decide, by decide, by decide +kernel⟩
theorem cw_X8_meanOccupancy : Cond.code yX8_meanOccupancy cX8_meanOccupancy 1 (some .double) ∈ gw := gwt9 (List.mem_of_getElem? (i := 46) rfl) (by decide +kernel)
theorem ci_X8_meanOccupancy : Cond.initialized yX8_meanOccupancy.cls ∈ gw := gwt1 (List.mem_of_getElem? (i := 11) rfl) (by decide +kernel)
theorem cs_X8_meanOccupancy : Cond.instanceMethod yX8_meanOccupancy ∈ gw := gwt9 (List.mem_of_getElem? (i := 44) rfl) (by decide +kernel)
theorem ce_X8_meanOccupancy : Cond.selects RX8 yX8_meanOccupancy yX8_meanOccupancy ∈ gw := gwt9 (List.mem_of_getElem? (i := 45) rfl) (by decide +kernel)
theorem cd_X8_meanOccupancy : yX8_meanOccupancy.cls ≠ "java/lang/invoke/MethodHandle" ∧ yX8_meanOccupancy.cls ≠ "java/lang/invoke/VarHandle" ∧ (parseMethodDescriptor yX8_meanOccupancy.desc).map (fun d => d.parameters.length) = some 0 := ⟨by decide, by decide, by decide +kernel⟩
theorem cw_X8_realShare : Cond.code yX8_realShare cX8_realShare 3 (some .float) ∈ gw := gwt9 (List.mem_of_getElem? (i := 50) rfl) (by decide +kernel)
theorem ci_X8_realShare : Cond.initialized yX8_realShare.cls ∈ gw := gwt1 (List.mem_of_getElem? (i := 11) rfl) (by decide +kernel)
theorem cs_X8_realShare : Cond.instanceMethod yX8_realShare ∈ gw := gwt9 (List.mem_of_getElem? (i := 48) rfl) (by decide +kernel)
theorem ce_X8_realShare : Cond.selects RX8 yX8_realShare yX8_realShare ∈ gw := gwt9 (List.mem_of_getElem? (i := 49) rfl) (by decide +kernel)
theorem cd_X8_realShare : yX8_realShare.cls ≠ "java/lang/invoke/MethodHandle" ∧ yX8_realShare.cls ≠ "java/lang/invoke/VarHandle" ∧ (parseMethodDescriptor yX8_realShare.desc).map (fun d => d.parameters.length) = some 0 := ⟨by decide, by decide, by decide +kernel⟩
theorem cw_X7_isConsistent : Cond.code yX7_isConsistent cX7_isConsistent 2 (some .boolean) ∈ gw := gwt2 (List.mem_of_getElem? (i := 67) rfl) (by decide +kernel)
theorem ci_X7_isConsistent : Cond.initialized yX7_isConsistent.cls ∈ gw := gwt1 (List.mem_of_getElem? (i := 1) rfl) (by decide +kernel)
theorem cs_X7_isConsistent : Cond.instanceMethod yX7_isConsistent ∈ gw := gwt2 (List.mem_of_getElem? (i := 65) rfl) (by decide +kernel)
theorem ce_X7_isConsistent : Cond.selects RX7 yX7_isConsistent yX7_isConsistent ∈ gw := gwt2 (List.mem_of_getElem? (i := 66) rfl) (by decide +kernel)
theorem cd_X7_isConsistent : yX7_isConsistent.cls ≠ "java/lang/invoke/MethodHandle" ∧ yX7_isConsistent.cls ≠ "java/lang/invoke/VarHandle" ∧ (parseMethodDescriptor yX7_isConsistent.desc).map (fun d => d.parameters.length) = some 0 := ⟨by decide, by decide, by decide +kernel⟩
theorem cw_X8_isConsistent : Cond.code yX8_isConsistent cX8_isConsistent 2 (some .boolean) ∈ gw := gwt9 (List.mem_of_getElem? (i := 54) rfl) (by decide +kernel)
theorem ci_X8_isConsistent : Cond.initialized yX8_isConsistent.cls ∈ gw := gwt1 (List.mem_of_getElem? (i := 11) rfl) (by decide +kernel)
theorem cs_X8_isConsistent : Cond.instanceMethod yX8_isConsistent ∈ gw := gwt9 (List.mem_of_getElem? (i := 52) rfl) (by decide +kernel)
theorem ce_X8_isConsistent : Cond.selects RX8 yX8_isConsistent yX8_isConsistent ∈ gw := gwt9 (List.mem_of_getElem? (i := 53) rfl) (by decide +kernel)
theorem cd_X8_isConsistent : yX8_isConsistent.cls ≠ "java/lang/invoke/MethodHandle" ∧ yX8_isConsistent.cls ≠ "java/lang/invoke/VarHandle" ∧ (parseMethodDescriptor yX8_isConsistent.desc).map (fun d => d.parameters.length) = some 0 := ⟨by decide, by decide, by decide +kernel⟩
theorem cw_X8_formatRow : Cond.code yX8_formatRow cX8_formatRow 3 (some .int) ∈ gw := gwt9 (List.mem_of_getElem? (i := 58) rfl) (by decide +kernel)
theorem ci_X8_formatRow : Cond.initialized yX8_formatRow.cls ∈ gw := gwt1 (List.mem_of_getElem? (i := 11) rfl) (by decide +kernel)
theorem cs_X8_formatRow : Cond.instanceMethod yX8_formatRow ∈ gw := gwt9 (List.mem_of_getElem? (i := 56) rfl) (by decide +kernel)
theorem ce_X8_formatRow : Cond.selects RX8 yX8_formatRow yX8_formatRow ∈ gw := gwt9 (List.mem_of_getElem? (i := 57) rfl) (by decide +kernel)
theorem cd_X8_formatRow : yX8_formatRow.cls ≠ "java/lang/invoke/MethodHandle" ∧ yX8_formatRow.cls ≠ "java/lang/invoke/VarHandle" ∧ (parseMethodDescriptor yX8_formatRow.desc).map (fun d => d.parameters.length) = some 1 := ⟨by decide, by decide, by decide +kernel⟩
theorem cw_X8_formatEcho : Cond.code yX8_formatEcho cX8_formatEcho 3 (some .int) ∈ gw := gwt9 (List.mem_of_getElem? (i := 74) rfl) (by decide +kernel)
theorem ci_X8_formatEcho : Cond.initialized yX8_formatEcho.cls ∈ gw := gwt1 (List.mem_of_getElem? (i := 11) rfl) (by decide +kernel)
theorem cs_X8_formatEcho : Cond.instanceMethod yX8_formatEcho ∈ gw := gwt9 (List.mem_of_getElem? (i := 72) rfl) (by decide +kernel)
theorem ce_X8_formatEcho : Cond.selects RX8 yX8_formatEcho yX8_formatEcho ∈ gw := gwt9 (List.mem_of_getElem? (i := 73) rfl) (by decide +kernel)
theorem cd_X8_formatEcho : yX8_formatEcho.cls ≠ "java/lang/invoke/MethodHandle" ∧ yX8_formatEcho.cls ≠ "java/lang/invoke/VarHandle" ∧ (parseMethodDescriptor yX8_formatEcho.desc).map (fun d => d.parameters.length) = some 1 := ⟨by decide, by decide, by decide +kernel⟩
theorem cw_X8_lineChar : Cond.code yX8_lineChar cX8_lineChar 2 (some .char) ∈ gw := gwt9 (List.mem_of_getElem? (i := 78) rfl) (by decide +kernel)
theorem ci_X8_lineChar : Cond.initialized yX8_lineChar.cls ∈ gw := gwt1 (List.mem_of_getElem? (i := 11) rfl) (by decide +kernel)
theorem cs_X8_lineChar : Cond.instanceMethod yX8_lineChar ∈ gw := gwt9 (List.mem_of_getElem? (i := 76) rfl) (by decide +kernel)
theorem ce_X8_lineChar : Cond.selects RX8 yX8_lineChar yX8_lineChar ∈ gw := gwt9 (List.mem_of_getElem? (i := 77) rfl) (by decide +kernel)
theorem cd_X8_lineChar : yX8_lineChar.cls ≠ "java/lang/invoke/MethodHandle" ∧ yX8_lineChar.cls ≠ "java/lang/invoke/VarHandle" ∧ (parseMethodDescriptor yX8_lineChar.desc).map (fun d => d.parameters.length) = some 1 := ⟨by decide, by decide, by decide +kernel⟩
theorem cw_X8_append : Cond.code yX8_append cX8_append 2 (some .int) ∈ gw := gwt9 (List.mem_of_getElem? (i := 82) rfl) (by decide +kernel)
theorem ci_X8_append : Cond.initialized yX8_append.cls ∈ gw := gwt1 (List.mem_of_getElem? (i := 11) rfl) (by decide +kernel)
theorem cs_X8_append : Cond.instanceMethod yX8_append ∈ gw := gwt9 (List.mem_of_getElem? (i := 80) rfl) (by decide +kernel)
theorem ce_X8_append : Cond.selects RX8 yX8_append yX8_append ∈ gw := gwt9 (List.mem_of_getElem? (i := 81) rfl) (by decide +kernel)
theorem cd_X8_append : yX8_append.cls ≠ "java/lang/invoke/MethodHandle" ∧ yX8_append.cls ≠ "java/lang/invoke/VarHandle" ∧ (parseMethodDescriptor yX8_append.desc).map (fun d => d.parameters.length) = some 1 := ⟨by decide, by decide, by decide +kernel⟩
theorem cw_X8_run : Cond.code yX8_run cX8_run 2 (some .int) ∈ gw := gwt9 (List.mem_of_getElem? (i := 86) rfl) (by decide +kernel)
theorem ci_X8_run : Cond.initialized yX8_run.cls ∈ gw := gwt1 (List.mem_of_getElem? (i := 11) rfl) (by decide +kernel)
theorem cs_X8_run : Cond.instanceMethod yX8_run ∈ gw := gwt9 (List.mem_of_getElem? (i := 84) rfl) (by decide +kernel)
theorem ce_X8_run : Cond.selects RX8 yX8_run yX8_run ∈ gw := gwt9 (List.mem_of_getElem? (i := 85) rfl) (by decide +kernel)
theorem cd_X8_run : yX8_run.cls ≠ "java/lang/invoke/MethodHandle" ∧ yX8_run.cls ≠ "java/lang/invoke/VarHandle" ∧ (parseMethodDescriptor yX8_run.desc).map (fun d => d.parameters.length) = some 0 := ⟨by decide, by decide, by decide +kernel⟩
theorem cw_X8_errorPosition : Cond.code yX8_errorPosition cX8_errorPosition 1 (some .int) ∈ gw := gwt9 (List.mem_of_getElem? (i := 158) rfl) (by decide +kernel)
theorem ci_X8_errorPosition : Cond.initialized yX8_errorPosition.cls ∈ gw := gwt1 (List.mem_of_getElem? (i := 11) rfl) (by decide +kernel)
theorem cs_X8_errorPosition : Cond.instanceMethod yX8_errorPosition ∈ gw := gwt9 (List.mem_of_getElem? (i := 156) rfl) (by decide +kernel)
theorem ce_X8_errorPosition : Cond.selects RX8 yX8_errorPosition yX8_errorPosition ∈ gw := gwt9 (List.mem_of_getElem? (i := 157) rfl) (by decide +kernel)
theorem cd_X8_errorPosition : yX8_errorPosition.cls ≠ "java/lang/invoke/MethodHandle" ∧ yX8_errorPosition.cls ≠ "java/lang/invoke/VarHandle" ∧ (parseMethodDescriptor yX8_errorPosition.desc).map (fun d => d.parameters.length) = some 0 := ⟨by decide, by decide, by decide +kernel⟩
theorem cw_X8_failedCommand : Cond.code yX8_failedCommand cX8_failedCommand 1 (some .int) ∈ gw := gwt9 (List.mem_of_getElem? (i := 162) rfl) (by decide +kernel)
theorem ci_X8_failedCommand : Cond.initialized yX8_failedCommand.cls ∈ gw := gwt1 (List.mem_of_getElem? (i := 11) rfl) (by decide +kernel)
theorem cs_X8_failedCommand : Cond.instanceMethod yX8_failedCommand ∈ gw := gwt9 (List.mem_of_getElem? (i := 160) rfl) (by decide +kernel)
theorem ce_X8_failedCommand : Cond.selects RX8 yX8_failedCommand yX8_failedCommand ∈ gw := gwt9 (List.mem_of_getElem? (i := 161) rfl) (by decide +kernel)
theorem cd_X8_failedCommand : yX8_failedCommand.cls ≠ "java/lang/invoke/MethodHandle" ∧ yX8_failedCommand.cls ≠ "java/lang/invoke/VarHandle" ∧ (parseMethodDescriptor yX8_failedCommand.desc).map (fun d => d.parameters.length) = some 0 := ⟨by decide, by decide, by decide +kernel⟩
theorem cw_X7_undoableCount : Cond.code yX7_undoableCount cX7_undoableCount 1 (some .int) ∈ gw := gwt2 (List.mem_of_getElem? (i := 152) rfl) (by decide +kernel)
theorem ci_X7_undoableCount : Cond.initialized yX7_undoableCount.cls ∈ gw := gwt1 (List.mem_of_getElem? (i := 1) rfl) (by decide +kernel)
theorem cs_X7_undoableCount : Cond.instanceMethod yX7_undoableCount ∈ gw := gwt2 (List.mem_of_getElem? (i := 150) rfl) (by decide +kernel)
theorem ce_X7_undoableCount : Cond.selects RX7 yX7_undoableCount yX7_undoableCount ∈ gw := gwt2 (List.mem_of_getElem? (i := 151) rfl) (by decide +kernel)
theorem cd_X7_undoableCount : yX7_undoableCount.cls ≠ "java/lang/invoke/MethodHandle" ∧ yX7_undoableCount.cls ≠ "java/lang/invoke/VarHandle" ∧ (parseMethodDescriptor yX7_undoableCount.desc).map (fun d => d.parameters.length) = some 0 := ⟨by decide, by decide, by decide +kernel⟩
theorem cw_X8_undoableCount : Cond.code yX8_undoableCount cX8_undoableCount 1 (some .int) ∈ gw := gwt9 (List.mem_of_getElem? (i := 166) rfl) (by decide +kernel)
theorem ci_X8_undoableCount : Cond.initialized yX8_undoableCount.cls ∈ gw := gwt1 (List.mem_of_getElem? (i := 11) rfl) (by decide +kernel)
theorem cs_X8_undoableCount : Cond.instanceMethod yX8_undoableCount ∈ gw := gwt9 (List.mem_of_getElem? (i := 164) rfl) (by decide +kernel)
theorem ce_X8_undoableCount : Cond.selects RX8 yX8_undoableCount yX8_undoableCount ∈ gw := gwt9 (List.mem_of_getElem? (i := 165) rfl) (by decide +kernel)
theorem cd_X8_undoableCount : yX8_undoableCount.cls ≠ "java/lang/invoke/MethodHandle" ∧ yX8_undoableCount.cls ≠ "java/lang/invoke/VarHandle" ∧ (parseMethodDescriptor yX8_undoableCount.desc).map (fun d => d.parameters.length) = some 0 := ⟨by decide, by decide, by decide +kernel⟩
theorem cw_X8_undo : Cond.code yX8_undo cX8_undo 3 (some .int) ∈ gw := gwt9 (List.mem_of_getElem? (i := 170) rfl) (by decide +kernel)
theorem ci_X8_undo : Cond.initialized yX8_undo.cls ∈ gw := gwt1 (List.mem_of_getElem? (i := 11) rfl) (by decide +kernel)
theorem cs_X8_undo : Cond.instanceMethod yX8_undo ∈ gw := gwt9 (List.mem_of_getElem? (i := 168) rfl) (by decide +kernel)
theorem ce_X8_undo : Cond.selects RX8 yX8_undo yX8_undo ∈ gw := gwt9 (List.mem_of_getElem? (i := 169) rfl) (by decide +kernel)
theorem cd_X8_undo : yX8_undo.cls ≠ "java/lang/invoke/MethodHandle" ∧ yX8_undo.cls ≠ "java/lang/invoke/VarHandle" ∧ (parseMethodDescriptor yX8_undo.desc).map (fun d => d.parameters.length) = some 0 := ⟨by decide, by decide, by decide +kernel⟩
theorem cw_X7_save : Cond.code yX7_save cX7_save 1 (some .int) ∈ gw := gwt2 (List.mem_of_getElem? (i := 156) rfl) (by decide +kernel)
theorem ci_X7_save : Cond.initialized yX7_save.cls ∈ gw := gwt1 (List.mem_of_getElem? (i := 1) rfl) (by decide +kernel)
theorem cs_X7_save : Cond.instanceMethod yX7_save ∈ gw := gwt2 (List.mem_of_getElem? (i := 154) rfl) (by decide +kernel)
theorem ce_X7_save : Cond.selects RX7 yX7_save yX7_save ∈ gw := gwt2 (List.mem_of_getElem? (i := 155) rfl) (by decide +kernel)
theorem cd_X7_save : yX7_save.cls ≠ "java/lang/invoke/MethodHandle" ∧ yX7_save.cls ≠ "java/lang/invoke/VarHandle" ∧ (parseMethodDescriptor yX7_save.desc).map (fun d => d.parameters.length) = some 0 := ⟨by decide, by decide, by decide +kernel⟩
theorem cw_X8_save : Cond.code yX8_save cX8_save 2 (some .int) ∈ gw := gwt9 (List.mem_of_getElem? (i := 174) rfl) (by decide +kernel)
theorem ci_X8_save : Cond.initialized yX8_save.cls ∈ gw := gwt1 (List.mem_of_getElem? (i := 11) rfl) (by decide +kernel)
theorem cs_X8_save : Cond.instanceMethod yX8_save ∈ gw := gwt9 (List.mem_of_getElem? (i := 172) rfl) (by decide +kernel)
theorem ce_X8_save : Cond.selects RX8 yX8_save yX8_save ∈ gw := gwt9 (List.mem_of_getElem? (i := 173) rfl) (by decide +kernel)
theorem cd_X8_save : yX8_save.cls ≠ "java/lang/invoke/MethodHandle" ∧ yX8_save.cls ≠ "java/lang/invoke/VarHandle" ∧ (parseMethodDescriptor yX8_save.desc).map (fun d => d.parameters.length) = some 0 := ⟨by decide, by decide, by decide +kernel⟩
theorem cw_X8_restore : Cond.code yX8_restore cX8_restore 2 (some .int) ∈ gw := gwt9 (List.mem_of_getElem? (i := 178) rfl) (by decide +kernel)
theorem ci_X8_restore : Cond.initialized yX8_restore.cls ∈ gw := gwt1 (List.mem_of_getElem? (i := 11) rfl) (by decide +kernel)
theorem cs_X8_restore : Cond.instanceMethod yX8_restore ∈ gw := gwt9 (List.mem_of_getElem? (i := 176) rfl) (by decide +kernel)
theorem ce_X8_restore : Cond.selects RX8 yX8_restore yX8_restore ∈ gw := gwt9 (List.mem_of_getElem? (i := 177) rfl) (by decide +kernel)
theorem cd_X8_restore : yX8_restore.cls ≠ "java/lang/invoke/MethodHandle" ∧ yX8_restore.cls ≠ "java/lang/invoke/VarHandle" ∧ (parseMethodDescriptor yX8_restore.desc).map (fun d => d.parameters.length) = some 0 := ⟨by decide, by decide, by decide +kernel⟩
theorem wd497 : Cond.methodLink RL 7 yX7_addRow ∈ gw := gwt2 (List.mem_of_getElem? (i := 170) rfl) (by decide +kernel)
set_option maxRecDepth 100000 in
set_option maxHeartbeats 2000000 in
theorem sat_L_addRow (l : Launch) (hl : l.stackTraces = false) (p0 : Int32) (s : Mem) : SatW l yL_addRow (.codeWith yL_addRow cL_addRow 4 (some .int) [(0, 9, 12, 13), (0, 9, 15, 15)]) 37 660 (fun x => some (.int x)) [.ref 0, .int p0, .ref 9] s (wI ["java/lang/IllegalArgumentException", "java/lang/IllegalStateException"] (m_X7_addRow p0 s)) := by
  refine satw_of (by decide) (Nat.le_of_ble_eq_true rfl) (fun X V A adV hxl hC hE ht hr => ?_) (mn_wI (n_X7_addRow p0 s))
  subst hxl
  show LX X V A 37 660 (nC s) (nS s) _ 0 [(0, .ref 0), (1, .int p0), (2, .ref 9)] [] s _
  unfold wI
  rw [show yL_addRow.cls = RL from rfl] at hC
  refine lx_aload_n hC dL_addRow_0 rfl 2 rfl ?_
  refine lx_iconstv (v := 0) hC dL_addRow_1 rfl ?_
  refine lx_aload_n hC dL_addRow_2 rfl 0 rfl ?_
  refine lx_iload_n hC dL_addRow_3 rfl 1 rfl ?_
  refine lx_callC hC (sat_X7_addRow (xl X) hl p0 s) (run_V (as := [.int p0]) (rest := [.int 0, .ref 9]) hC hE ly0 rfl cw_X7_addRow ci_X7_addRow wd497 cs_X7_addRow ce_X7_addRow cd_X7_addRow (by decide) (by decide) (Nat.le_of_ble_eq_true rfl) dL_addRow_4 rfl) (fun E σ1 u hE0 hu R H locs hid ls q ce h2 h3 h4 h5 g1 g2 g3 hc hv hcl => ?_) (fun v s1 _ => ?_)
  · by_cases e0 : "java/lang/IllegalArgumentException" = E
    · subst e0
      rw [cd, if_pos rfl] at hu
      cases hu
      exact w_hand hC hr hE (pre := []) (suf := [(0, 9, 15, 15)]) (a := 0) (b := 9) (h := 12) (ct := 13) ht (n := 1) (fun z hz => absurd hz List.not_mem_nil) ⟨by decide, by decide⟩ (by decide) wlE13 wcE13 (Or.inl ⟨3, by decide, dL_addRow_12, dL_addRow_13, dL_addRow_14⟩) g1 g2 g3 hc hv hcl
    rw [cd, if_neg e0] at hu
    by_cases e1 : "java/lang/IllegalStateException" = E
    · subst e1
      rw [cd, if_pos rfl] at hu
      cases hu
      exact w_hand hC hr hE (pre := [(0, 9, 12, 13)]) (suf := []) (a := 0) (b := 9) (h := 15) (ct := 15) ht (n := 2) (List.forall_mem_cons.mpr ⟨⟨by decide, "java/lang/IllegalArgumentException", wlE13, ncsE _ _ (by simp) (by simp) (by decide)⟩, fun _ hz => absurd hz List.not_mem_nil⟩) ⟨by decide, by decide⟩ (by decide) wlE15 wcE15 (Or.inl ⟨3, by decide, dL_addRow_15, dL_addRow_16, dL_addRow_17⟩) g1 g2 g3 hc hv hcl
    rw [cd, if_neg e1] at hu
    cases hu
  · refine lx_i2l hC dL_addRow_7 ?_
    refine lx_lastore hC ly9 dL_addRow_8 (fun s2 => ?_)
    refine lx_goto hC 18 dL_addRow_9 (by decide) ?_
    refine lx_iconstv (v := 0) hC dL_addRow_18 rfl ?_
    exact lx_iretN hC rfl hr dL_addRow_19
theorem wd777 : Cond.methodLink RL 17 yX7_addPhantoms ∈ gw := gwt3 (List.mem_of_getElem? (i := 210) rfl) (by decide +kernel)
set_option maxRecDepth 100000 in
set_option maxHeartbeats 2000000 in
theorem sat_L_addPhantoms (l : Launch) (hl : l.stackTraces = false) (p0 p1 : Int32) (s : Mem) : SatW l yL_addPhantoms (.codeWith yL_addPhantoms cL_addPhantoms 5 (some .int) [(0, 10, 13, 21), (0, 10, 17, 13), (0, 10, 21, 15)]) 37 661 (fun x => some (.int x)) [.ref 0, .int p0, .int p1, .ref 9] s (wI ["java/lang/IndexOutOfBoundsException", "java/lang/IllegalArgumentException", "java/lang/IllegalStateException"] (m_X7_addPhantoms p0 p1 s)) := by
  refine satw_of (by decide) (Nat.le_of_ble_eq_true rfl) (fun X V A adV hxl hC hE ht hr => ?_) (mn_wI (n_X7_addPhantoms p0 p1 s))
  subst hxl
  show LX X V A 37 661 (nC s) (nS s) _ 0 [(0, .ref 0), (1, .int p0), (2, .int p1), (3, .ref 9)] [] s _
  unfold wI
  rw [show yL_addPhantoms.cls = RL from rfl] at hC
  refine lx_aload_n hC dL_addPhantoms_0 rfl 3 rfl ?_
  refine lx_iconstv (v := 0) hC dL_addPhantoms_1 rfl ?_
  refine lx_aload_n hC dL_addPhantoms_2 rfl 0 rfl ?_
  refine lx_iload_n hC dL_addPhantoms_3 rfl 1 rfl ?_
  refine lx_iload_n hC dL_addPhantoms_4 rfl 2 rfl ?_
  refine lx_callC hC (sat_X7_addPhantoms (xl X) hl p0 p1 s) (run_V (as := [.int p0, .int p1]) (rest := [.int 0, .ref 9]) hC hE ly0 rfl cw_X7_addPhantoms ci_X7_addPhantoms wd777 cs_X7_addPhantoms ce_X7_addPhantoms cd_X7_addPhantoms (by decide) (by decide) (Nat.le_of_ble_eq_true rfl) dL_addPhantoms_5 rfl) (fun E σ1 u hE0 hu R H locs hid ls q ce h2 h3 h4 h5 g1 g2 g3 hc hv hcl => ?_) (fun v s1 _ => ?_)
  · by_cases e0 : "java/lang/IndexOutOfBoundsException" = E
    · subst e0
      rw [cd, if_pos rfl] at hu
      cases hu
      exact w_hand hC hr hE (pre := []) (suf := [(0, 10, 17, 13), (0, 10, 21, 15)]) (a := 0) (b := 10) (h := 13) (ct := 21) ht (n := 1) (fun z hz => absurd hz List.not_mem_nil) ⟨by decide, by decide⟩ (by decide) wlE21 wcE21 (Or.inr ⟨4, by decide, dL_addPhantoms_13, dL_addPhantoms_15, dL_addPhantoms_16⟩) g1 g2 g3 hc hv hcl
    rw [cd, if_neg e0] at hu
    by_cases e1 : "java/lang/IllegalArgumentException" = E
    · subst e1
      rw [cd, if_pos rfl] at hu
      cases hu
      exact w_hand hC hr hE (pre := [(0, 10, 13, 21)]) (suf := [(0, 10, 21, 15)]) (a := 0) (b := 10) (h := 17) (ct := 13) ht (n := 2) (List.forall_mem_cons.mpr ⟨⟨by decide, "java/lang/IndexOutOfBoundsException", wlE21, ncsE _ _ (by simp) (by simp) (by decide)⟩, fun _ hz => absurd hz List.not_mem_nil⟩) ⟨by decide, by decide⟩ (by decide) wlE13 wcE13 (Or.inr ⟨4, by decide, dL_addPhantoms_17, dL_addPhantoms_19, dL_addPhantoms_20⟩) g1 g2 g3 hc hv hcl
    rw [cd, if_neg e1] at hu
    by_cases e2 : "java/lang/IllegalStateException" = E
    · subst e2
      rw [cd, if_pos rfl] at hu
      cases hu
      exact w_hand hC hr hE (pre := [(0, 10, 13, 21), (0, 10, 17, 13)]) (suf := []) (a := 0) (b := 10) (h := 21) (ct := 15) ht (n := 3) (List.forall_mem_cons.mpr ⟨⟨by decide, "java/lang/IndexOutOfBoundsException", wlE21, ncsE _ _ (by simp) (by simp) (by decide)⟩, List.forall_mem_cons.mpr ⟨⟨by decide, "java/lang/IllegalArgumentException", wlE13, ncsE _ _ (by simp) (by simp) (by decide)⟩, fun _ hz => absurd hz List.not_mem_nil⟩⟩) ⟨by decide, by decide⟩ (by decide) wlE15 wcE15 (Or.inr ⟨4, by decide, dL_addPhantoms_21, dL_addPhantoms_23, dL_addPhantoms_24⟩) g1 g2 g3 hc hv hcl
    rw [cd, if_neg e2] at hu
    cases hu
  · refine lx_i2l hC dL_addPhantoms_8 ?_
    refine lx_lastore hC ly9 dL_addPhantoms_9 (fun s2 => ?_)
    refine lx_goto hC 25 dL_addPhantoms_10 (by decide) ?_
    refine lx_iconstv (v := 0) hC dL_addPhantoms_25 rfl ?_
    exact lx_iretN hC rfl hr dL_addPhantoms_26
theorem wd784 : Cond.methodLink RL 23 yX7_removePhantoms ∈ gw := gwt3 (List.mem_of_getElem? (i := 217) rfl) (by decide +kernel)
set_option maxRecDepth 100000 in
set_option maxHeartbeats 2000000 in
theorem sat_L_removePhantoms (l : Launch) (hl : l.stackTraces = false) (p0 p1 : Int32) (s : Mem) : SatW l yL_removePhantoms (.codeWith yL_removePhantoms cL_removePhantoms 5 (some .int) [(0, 10, 13, 21), (0, 10, 17, 13), (0, 10, 21, 15)]) 37 661 (fun x => some (.int x)) [.ref 0, .int p0, .int p1, .ref 9] s (wI ["java/lang/IndexOutOfBoundsException", "java/lang/IllegalArgumentException", "java/lang/IllegalStateException"] (m_X7_removePhantoms p0 p1 s)) := by
  refine satw_of (by decide) (Nat.le_of_ble_eq_true rfl) (fun X V A adV hxl hC hE ht hr => ?_) (mn_wI (n_X7_removePhantoms p0 p1 s))
  subst hxl
  show LX X V A 37 661 (nC s) (nS s) _ 0 [(0, .ref 0), (1, .int p0), (2, .int p1), (3, .ref 9)] [] s _
  unfold wI
  rw [show yL_removePhantoms.cls = RL from rfl] at hC
  refine lx_aload_n hC dL_removePhantoms_0 rfl 3 rfl ?_
  refine lx_iconstv (v := 0) hC dL_removePhantoms_1 rfl ?_
  refine lx_aload_n hC dL_removePhantoms_2 rfl 0 rfl ?_
  refine lx_iload_n hC dL_removePhantoms_3 rfl 1 rfl ?_
  refine lx_iload_n hC dL_removePhantoms_4 rfl 2 rfl ?_
  refine lx_callC hC (sat_X7_removePhantoms (xl X) hl p0 p1 s) (run_V (as := [.int p0, .int p1]) (rest := [.int 0, .ref 9]) hC hE ly0 rfl cw_X7_removePhantoms ci_X7_removePhantoms wd784 cs_X7_removePhantoms ce_X7_removePhantoms cd_X7_removePhantoms (by decide) (by decide) (Nat.le_of_ble_eq_true rfl) dL_removePhantoms_5 rfl) (fun E σ1 u hE0 hu R H locs hid ls q ce h2 h3 h4 h5 g1 g2 g3 hc hv hcl => ?_) (fun v s1 _ => ?_)
  · by_cases e0 : "java/lang/IndexOutOfBoundsException" = E
    · subst e0
      rw [cd, if_pos rfl] at hu
      cases hu
      exact w_hand hC hr hE (pre := []) (suf := [(0, 10, 17, 13), (0, 10, 21, 15)]) (a := 0) (b := 10) (h := 13) (ct := 21) ht (n := 1) (fun z hz => absurd hz List.not_mem_nil) ⟨by decide, by decide⟩ (by decide) wlE21 wcE21 (Or.inr ⟨4, by decide, dL_removePhantoms_13, dL_removePhantoms_15, dL_removePhantoms_16⟩) g1 g2 g3 hc hv hcl
    rw [cd, if_neg e0] at hu
    by_cases e1 : "java/lang/IllegalArgumentException" = E
    · subst e1
      rw [cd, if_pos rfl] at hu
      cases hu
      exact w_hand hC hr hE (pre := [(0, 10, 13, 21)]) (suf := [(0, 10, 21, 15)]) (a := 0) (b := 10) (h := 17) (ct := 13) ht (n := 2) (List.forall_mem_cons.mpr ⟨⟨by decide, "java/lang/IndexOutOfBoundsException", wlE21, ncsE _ _ (by simp) (by simp) (by decide)⟩, fun _ hz => absurd hz List.not_mem_nil⟩) ⟨by decide, by decide⟩ (by decide) wlE13 wcE13 (Or.inr ⟨4, by decide, dL_removePhantoms_17, dL_removePhantoms_19, dL_removePhantoms_20⟩) g1 g2 g3 hc hv hcl
    rw [cd, if_neg e1] at hu
    by_cases e2 : "java/lang/IllegalStateException" = E
    · subst e2
      rw [cd, if_pos rfl] at hu
      cases hu
      exact w_hand hC hr hE (pre := [(0, 10, 13, 21), (0, 10, 17, 13)]) (suf := []) (a := 0) (b := 10) (h := 21) (ct := 15) ht (n := 3) (List.forall_mem_cons.mpr ⟨⟨by decide, "java/lang/IndexOutOfBoundsException", wlE21, ncsE _ _ (by simp) (by simp) (by decide)⟩, List.forall_mem_cons.mpr ⟨⟨by decide, "java/lang/IllegalArgumentException", wlE13, ncsE _ _ (by simp) (by simp) (by decide)⟩, fun _ hz => absurd hz List.not_mem_nil⟩⟩) ⟨by decide, by decide⟩ (by decide) wlE15 wcE15 (Or.inr ⟨4, by decide, dL_removePhantoms_21, dL_removePhantoms_23, dL_removePhantoms_24⟩) g1 g2 g3 hc hv hcl
    rw [cd, if_neg e2] at hu
    cases hu
  · refine lx_i2l hC dL_removePhantoms_8 ?_
    refine lx_lastore hC ly9 dL_removePhantoms_9 (fun s2 => ?_)
    refine lx_goto hC 25 dL_removePhantoms_10 (by decide) ?_
    refine lx_iconstv (v := 0) hC dL_removePhantoms_25 rfl ?_
    exact lx_iretN hC rfl hr dL_removePhantoms_26
theorem wd791 : Cond.methodLink RL 26 yX7_add ∈ gw := gwt3 (List.mem_of_getElem? (i := 224) rfl) (by decide +kernel)
set_option maxRecDepth 100000 in
set_option maxHeartbeats 2000000 in
theorem sat_L_add (l : Launch) (hl : l.stackTraces = false) (p0 p1 : Int32) (s : Mem) : SatW l yL_add (.codeWith yL_add cL_add 5 (some .int) [(0, 10, 13, 21), (0, 10, 17, 13), (0, 10, 21, 15)]) 37 661 (fun x => some (.int x)) [.ref 0, .int p0, .int p1, .ref 9] s (wI ["java/lang/IndexOutOfBoundsException", "java/lang/IllegalArgumentException", "java/lang/IllegalStateException"] (m_X7_add p0 p1 s)) := by
  refine satw_of (by decide) (Nat.le_of_ble_eq_true rfl) (fun X V A adV hxl hC hE ht hr => ?_) (mn_wI (n_X7_add p0 p1 s))
  subst hxl
  show LX X V A 37 661 (nC s) (nS s) _ 0 [(0, .ref 0), (1, .int p0), (2, .int p1), (3, .ref 9)] [] s _
  unfold wI
  rw [show yL_add.cls = RL from rfl] at hC
  refine lx_aload_n hC dL_add_0 rfl 3 rfl ?_
  refine lx_iconstv (v := 0) hC dL_add_1 rfl ?_
  refine lx_aload_n hC dL_add_2 rfl 0 rfl ?_
  refine lx_iload_n hC dL_add_3 rfl 1 rfl ?_
  refine lx_iload_n hC dL_add_4 rfl 2 rfl ?_
  refine lx_callC hC (sat_X7_add (xl X) hl p0 p1 s) (run_V (as := [.int p0, .int p1]) (rest := [.int 0, .ref 9]) hC hE ly0 rfl cw_X7_add ci_X7_add wd791 cs_X7_add ce_X7_add cd_X7_add (by decide) (by decide) (Nat.le_of_ble_eq_true rfl) dL_add_5 rfl) (fun E σ1 u hE0 hu R H locs hid ls q ce h2 h3 h4 h5 g1 g2 g3 hc hv hcl => ?_) (fun v s1 _ => ?_)
  · by_cases e0 : "java/lang/IndexOutOfBoundsException" = E
    · subst e0
      rw [cd, if_pos rfl] at hu
      cases hu
      exact w_hand hC hr hE (pre := []) (suf := [(0, 10, 17, 13), (0, 10, 21, 15)]) (a := 0) (b := 10) (h := 13) (ct := 21) ht (n := 1) (fun z hz => absurd hz List.not_mem_nil) ⟨by decide, by decide⟩ (by decide) wlE21 wcE21 (Or.inr ⟨4, by decide, dL_add_13, dL_add_15, dL_add_16⟩) g1 g2 g3 hc hv hcl
    rw [cd, if_neg e0] at hu
    by_cases e1 : "java/lang/IllegalArgumentException" = E
    · subst e1
      rw [cd, if_pos rfl] at hu
      cases hu
      exact w_hand hC hr hE (pre := [(0, 10, 13, 21)]) (suf := [(0, 10, 21, 15)]) (a := 0) (b := 10) (h := 17) (ct := 13) ht (n := 2) (List.forall_mem_cons.mpr ⟨⟨by decide, "java/lang/IndexOutOfBoundsException", wlE21, ncsE _ _ (by simp) (by simp) (by decide)⟩, fun _ hz => absurd hz List.not_mem_nil⟩) ⟨by decide, by decide⟩ (by decide) wlE13 wcE13 (Or.inr ⟨4, by decide, dL_add_17, dL_add_19, dL_add_20⟩) g1 g2 g3 hc hv hcl
    rw [cd, if_neg e1] at hu
    by_cases e2 : "java/lang/IllegalStateException" = E
    · subst e2
      rw [cd, if_pos rfl] at hu
      cases hu
      exact w_hand hC hr hE (pre := [(0, 10, 13, 21), (0, 10, 17, 13)]) (suf := []) (a := 0) (b := 10) (h := 21) (ct := 15) ht (n := 3) (List.forall_mem_cons.mpr ⟨⟨by decide, "java/lang/IndexOutOfBoundsException", wlE21, ncsE _ _ (by simp) (by simp) (by decide)⟩, List.forall_mem_cons.mpr ⟨⟨by decide, "java/lang/IllegalArgumentException", wlE13, ncsE _ _ (by simp) (by simp) (by decide)⟩, fun _ hz => absurd hz List.not_mem_nil⟩⟩) ⟨by decide, by decide⟩ (by decide) wlE15 wcE15 (Or.inr ⟨4, by decide, dL_add_21, dL_add_23, dL_add_24⟩) g1 g2 g3 hc hv hcl
    rw [cd, if_neg e2] at hu
    cases hu
  · refine lx_i2l hC dL_add_8 ?_
    refine lx_lastore hC ly9 dL_add_9 (fun s2 => ?_)
    refine lx_goto hC 25 dL_add_10 (by decide) ?_
    refine lx_iconstv (v := 0) hC dL_add_25 rfl ?_
    exact lx_iretN hC rfl hr dL_add_26
theorem wd799 : Cond.methodLink RL 29 yX7_move ∈ gw := gwt3 (List.mem_of_getElem? (i := 232) rfl) (by decide +kernel)
set_option maxRecDepth 100000 in
set_option maxHeartbeats 2000000 in
theorem sat_L_move (l : Launch) (hl : l.stackTraces = false) (p0 p1 : Int32) (s : Mem) : SatW l yL_move (.codeWith yL_move cL_move 5 (some .int) [(0, 10, 13, 32), (0, 10, 17, 21), (0, 10, 21, 15)]) 37 661 (fun x => some (.int x)) [.ref 0, .int p0, .int p1, .ref 9] s (wI ["java/util/NoSuchElementException", "java/lang/IndexOutOfBoundsException", "java/lang/IllegalStateException"] (m_X7_move p0 p1 s)) := by
  refine satw_of (by decide) (Nat.le_of_ble_eq_true rfl) (fun X V A adV hxl hC hE ht hr => ?_) (mn_wI (n_X7_move p0 p1 s))
  subst hxl
  show LX X V A 37 661 (nC s) (nS s) _ 0 [(0, .ref 0), (1, .int p0), (2, .int p1), (3, .ref 9)] [] s _
  unfold wI
  rw [show yL_move.cls = RL from rfl] at hC
  refine lx_aload_n hC dL_move_0 rfl 3 rfl ?_
  refine lx_iconstv (v := 0) hC dL_move_1 rfl ?_
  refine lx_aload_n hC dL_move_2 rfl 0 rfl ?_
  refine lx_iload_n hC dL_move_3 rfl 1 rfl ?_
  refine lx_iload_n hC dL_move_4 rfl 2 rfl ?_
  refine lx_callC hC (sat_X7_move (xl X) hl p0 p1 s) (run_V (as := [.int p0, .int p1]) (rest := [.int 0, .ref 9]) hC hE ly0 rfl cw_X7_move ci_X7_move wd799 cs_X7_move ce_X7_move cd_X7_move (by decide) (by decide) (Nat.le_of_ble_eq_true rfl) dL_move_5 rfl) (fun E σ1 u hE0 hu R H locs hid ls q ce h2 h3 h4 h5 g1 g2 g3 hc hv hcl => ?_) (fun v s1 _ => ?_)
  · by_cases e0 : "java/util/NoSuchElementException" = E
    · subst e0
      rw [cd, if_pos rfl] at hu
      cases hu
      exact w_hand hC hr hE (pre := []) (suf := [(0, 10, 17, 21), (0, 10, 21, 15)]) (a := 0) (b := 10) (h := 13) (ct := 32) ht (n := 1) (fun z hz => absurd hz List.not_mem_nil) ⟨by decide, by decide⟩ (by decide) wlE32 wcE32 (Or.inr ⟨4, by decide, dL_move_13, dL_move_15, dL_move_16⟩) g1 g2 g3 hc hv hcl
    rw [cd, if_neg e0] at hu
    by_cases e1 : "java/lang/IndexOutOfBoundsException" = E
    · subst e1
      rw [cd, if_pos rfl] at hu
      cases hu
      exact w_hand hC hr hE (pre := [(0, 10, 13, 32)]) (suf := [(0, 10, 21, 15)]) (a := 0) (b := 10) (h := 17) (ct := 21) ht (n := 2) (List.forall_mem_cons.mpr ⟨⟨by decide, "java/util/NoSuchElementException", wlE32, ncsE _ _ (by simp) (by simp) (by decide)⟩, fun _ hz => absurd hz List.not_mem_nil⟩) ⟨by decide, by decide⟩ (by decide) wlE21 wcE21 (Or.inr ⟨4, by decide, dL_move_17, dL_move_19, dL_move_20⟩) g1 g2 g3 hc hv hcl
    rw [cd, if_neg e1] at hu
    by_cases e2 : "java/lang/IllegalStateException" = E
    · subst e2
      rw [cd, if_pos rfl] at hu
      cases hu
      exact w_hand hC hr hE (pre := [(0, 10, 13, 32), (0, 10, 17, 21)]) (suf := []) (a := 0) (b := 10) (h := 21) (ct := 15) ht (n := 3) (List.forall_mem_cons.mpr ⟨⟨by decide, "java/util/NoSuchElementException", wlE32, ncsE _ _ (by simp) (by simp) (by decide)⟩, List.forall_mem_cons.mpr ⟨⟨by decide, "java/lang/IndexOutOfBoundsException", wlE21, ncsE _ _ (by simp) (by simp) (by decide)⟩, fun _ hz => absurd hz List.not_mem_nil⟩⟩) ⟨by decide, by decide⟩ (by decide) wlE15 wcE15 (Or.inr ⟨4, by decide, dL_move_21, dL_move_23, dL_move_24⟩) g1 g2 g3 hc hv hcl
    rw [cd, if_neg e2] at hu
    cases hu
  · refine lx_i2l hC dL_move_8 ?_
    refine lx_lastore hC ly9 dL_move_9 (fun s2 => ?_)
    refine lx_goto hC 25 dL_move_10 (by decide) ?_
    refine lx_iconstv (v := 0) hC dL_move_25 rfl ?_
    exact lx_iretN hC rfl hr dL_move_26
theorem wd806 : Cond.methodLink RL 34 yX7_remove ∈ gw := gwt3 (List.mem_of_getElem? (i := 239) rfl) (by decide +kernel)
set_option maxRecDepth 100000 in
set_option maxHeartbeats 2000000 in
theorem sat_L_remove (l : Launch) (hl : l.stackTraces = false) (p0 : Int32) (s : Mem) : SatW l yL_remove (.codeWith yL_remove cL_remove 4 (some .int) [(0, 9, 12, 32), (0, 9, 15, 15)]) 37 660 (fun x => some (.int x)) [.ref 0, .int p0, .ref 9] s (wI ["java/util/NoSuchElementException", "java/lang/IllegalStateException"] (m_X7_remove p0 s)) := by
  refine satw_of (by decide) (Nat.le_of_ble_eq_true rfl) (fun X V A adV hxl hC hE ht hr => ?_) (mn_wI (n_X7_remove p0 s))
  subst hxl
  show LX X V A 37 660 (nC s) (nS s) _ 0 [(0, .ref 0), (1, .int p0), (2, .ref 9)] [] s _
  unfold wI
  rw [show yL_remove.cls = RL from rfl] at hC
  refine lx_aload_n hC dL_remove_0 rfl 2 rfl ?_
  refine lx_iconstv (v := 0) hC dL_remove_1 rfl ?_
  refine lx_aload_n hC dL_remove_2 rfl 0 rfl ?_
  refine lx_iload_n hC dL_remove_3 rfl 1 rfl ?_
  refine lx_callC hC (sat_X7_remove (xl X) hl p0 s) (run_V (as := [.int p0]) (rest := [.int 0, .ref 9]) hC hE ly0 rfl cw_X7_remove ci_X7_remove wd806 cs_X7_remove ce_X7_remove cd_X7_remove (by decide) (by decide) (Nat.le_of_ble_eq_true rfl) dL_remove_4 rfl) (fun E σ1 u hE0 hu R H locs hid ls q ce h2 h3 h4 h5 g1 g2 g3 hc hv hcl => ?_) (fun v s1 _ => ?_)
  · by_cases e0 : "java/util/NoSuchElementException" = E
    · subst e0
      rw [cd, if_pos rfl] at hu
      cases hu
      exact w_hand hC hr hE (pre := []) (suf := [(0, 9, 15, 15)]) (a := 0) (b := 9) (h := 12) (ct := 32) ht (n := 1) (fun z hz => absurd hz List.not_mem_nil) ⟨by decide, by decide⟩ (by decide) wlE32 wcE32 (Or.inl ⟨3, by decide, dL_remove_12, dL_remove_13, dL_remove_14⟩) g1 g2 g3 hc hv hcl
    rw [cd, if_neg e0] at hu
    by_cases e1 : "java/lang/IllegalStateException" = E
    · subst e1
      rw [cd, if_pos rfl] at hu
      cases hu
      exact w_hand hC hr hE (pre := [(0, 9, 12, 32)]) (suf := []) (a := 0) (b := 9) (h := 15) (ct := 15) ht (n := 2) (List.forall_mem_cons.mpr ⟨⟨by decide, "java/util/NoSuchElementException", wlE32, ncsE _ _ (by simp) (by simp) (by decide)⟩, fun _ hz => absurd hz List.not_mem_nil⟩) ⟨by decide, by decide⟩ (by decide) wlE15 wcE15 (Or.inl ⟨3, by decide, dL_remove_15, dL_remove_16, dL_remove_17⟩) g1 g2 g3 hc hv hcl
    rw [cd, if_neg e1] at hu
    cases hu
  · refine lx_i2l hC dL_remove_7 ?_
    refine lx_lastore hC ly9 dL_remove_8 (fun s2 => ?_)
    refine lx_goto hC 18 dL_remove_9 (by decide) ?_
    refine lx_iconstv (v := 0) hC dL_remove_18 rfl ?_
    exact lx_iretN hC rfl hr dL_remove_19
theorem wd813 : Cond.methodLink RL 37 yX7_setHeir ∈ gw := gwt4 (List.mem_of_getElem? (i := 6) rfl) (by decide +kernel)
set_option maxRecDepth 100000 in
set_option maxHeartbeats 2000000 in
theorem sat_L_setHeir (l : Launch) (hl : l.stackTraces = false) (p0 p1 : Int32) (s : Mem) : SatW l yL_setHeir (.codeWith yL_setHeir cL_setHeir 5 (some .int) [(0, 10, 13, 32), (0, 10, 17, 13), (0, 10, 21, 15)]) 37 661 (fun x => some (.int x)) [.ref 0, .int p0, .int p1, .ref 9] s (wI ["java/util/NoSuchElementException", "java/lang/IllegalArgumentException", "java/lang/IllegalStateException"] (m_X7_setHeir p0 p1 s)) := by
  refine satw_of (by decide) (Nat.le_of_ble_eq_true rfl) (fun X V A adV hxl hC hE ht hr => ?_) (mn_wI (n_X7_setHeir p0 p1 s))
  subst hxl
  show LX X V A 37 661 (nC s) (nS s) _ 0 [(0, .ref 0), (1, .int p0), (2, .int p1), (3, .ref 9)] [] s _
  unfold wI
  rw [show yL_setHeir.cls = RL from rfl] at hC
  refine lx_aload_n hC dL_setHeir_0 rfl 3 rfl ?_
  refine lx_iconstv (v := 0) hC dL_setHeir_1 rfl ?_
  refine lx_aload_n hC dL_setHeir_2 rfl 0 rfl ?_
  refine lx_iload_n hC dL_setHeir_3 rfl 1 rfl ?_
  refine lx_iload_n hC dL_setHeir_4 rfl 2 rfl ?_
  refine lx_callC hC (sat_X7_setHeir (xl X) hl p0 p1 s) (run_V (as := [.int p0, .int p1]) (rest := [.int 0, .ref 9]) hC hE ly0 rfl cw_X7_setHeir ci_X7_setHeir wd813 cs_X7_setHeir ce_X7_setHeir cd_X7_setHeir (by decide) (by decide) (Nat.le_of_ble_eq_true rfl) dL_setHeir_5 rfl) (fun E σ1 u hE0 hu R H locs hid ls q ce h2 h3 h4 h5 g1 g2 g3 hc hv hcl => ?_) (fun v s1 _ => ?_)
  · by_cases e0 : "java/util/NoSuchElementException" = E
    · subst e0
      rw [cd, if_pos rfl] at hu
      cases hu
      exact w_hand hC hr hE (pre := []) (suf := [(0, 10, 17, 13), (0, 10, 21, 15)]) (a := 0) (b := 10) (h := 13) (ct := 32) ht (n := 1) (fun z hz => absurd hz List.not_mem_nil) ⟨by decide, by decide⟩ (by decide) wlE32 wcE32 (Or.inr ⟨4, by decide, dL_setHeir_13, dL_setHeir_15, dL_setHeir_16⟩) g1 g2 g3 hc hv hcl
    rw [cd, if_neg e0] at hu
    by_cases e1 : "java/lang/IllegalArgumentException" = E
    · subst e1
      rw [cd, if_pos rfl] at hu
      cases hu
      exact w_hand hC hr hE (pre := [(0, 10, 13, 32)]) (suf := [(0, 10, 21, 15)]) (a := 0) (b := 10) (h := 17) (ct := 13) ht (n := 2) (List.forall_mem_cons.mpr ⟨⟨by decide, "java/util/NoSuchElementException", wlE32, ncsE _ _ (by simp) (by simp) (by decide)⟩, fun _ hz => absurd hz List.not_mem_nil⟩) ⟨by decide, by decide⟩ (by decide) wlE13 wcE13 (Or.inr ⟨4, by decide, dL_setHeir_17, dL_setHeir_19, dL_setHeir_20⟩) g1 g2 g3 hc hv hcl
    rw [cd, if_neg e1] at hu
    by_cases e2 : "java/lang/IllegalStateException" = E
    · subst e2
      rw [cd, if_pos rfl] at hu
      cases hu
      exact w_hand hC hr hE (pre := [(0, 10, 13, 32), (0, 10, 17, 13)]) (suf := []) (a := 0) (b := 10) (h := 21) (ct := 15) ht (n := 3) (List.forall_mem_cons.mpr ⟨⟨by decide, "java/util/NoSuchElementException", wlE32, ncsE _ _ (by simp) (by simp) (by decide)⟩, List.forall_mem_cons.mpr ⟨⟨by decide, "java/lang/IllegalArgumentException", wlE13, ncsE _ _ (by simp) (by simp) (by decide)⟩, fun _ hz => absurd hz List.not_mem_nil⟩⟩) ⟨by decide, by decide⟩ (by decide) wlE15 wcE15 (Or.inr ⟨4, by decide, dL_setHeir_21, dL_setHeir_23, dL_setHeir_24⟩) g1 g2 g3 hc hv hcl
    rw [cd, if_neg e2] at hu
    cases hu
  · refine lx_i2l hC dL_setHeir_8 ?_
    refine lx_lastore hC ly9 dL_setHeir_9 (fun s2 => ?_)
    refine lx_goto hC 25 dL_setHeir_10 (by decide) ?_
    refine lx_iconstv (v := 0) hC dL_setHeir_25 rfl ?_
    exact lx_iretN hC rfl hr dL_setHeir_26
theorem wd820 : Cond.methodLink RL 40 yX7_clearHeir ∈ gw := gwt4 (List.mem_of_getElem? (i := 13) rfl) (by decide +kernel)
set_option maxRecDepth 100000 in
set_option maxHeartbeats 2000000 in
theorem sat_L_clearHeir (l : Launch) (hl : l.stackTraces = false) (p0 : Int32) (s : Mem) : SatW l yL_clearHeir (.codeWith yL_clearHeir cL_clearHeir 4 (some .int) [(0, 9, 12, 32), (0, 9, 15, 15)]) 37 660 (fun x => some (.int x)) [.ref 0, .int p0, .ref 9] s (wI ["java/util/NoSuchElementException", "java/lang/IllegalStateException"] (m_X7_clearHeir p0 s)) := by
  refine satw_of (by decide) (Nat.le_of_ble_eq_true rfl) (fun X V A adV hxl hC hE ht hr => ?_) (mn_wI (n_X7_clearHeir p0 s))
  subst hxl
  show LX X V A 37 660 (nC s) (nS s) _ 0 [(0, .ref 0), (1, .int p0), (2, .ref 9)] [] s _
  unfold wI
  rw [show yL_clearHeir.cls = RL from rfl] at hC
  refine lx_aload_n hC dL_clearHeir_0 rfl 2 rfl ?_
  refine lx_iconstv (v := 0) hC dL_clearHeir_1 rfl ?_
  refine lx_aload_n hC dL_clearHeir_2 rfl 0 rfl ?_
  refine lx_iload_n hC dL_clearHeir_3 rfl 1 rfl ?_
  refine lx_callC hC (sat_X7_clearHeir (xl X) hl p0 s) (run_V (as := [.int p0]) (rest := [.int 0, .ref 9]) hC hE ly0 rfl cw_X7_clearHeir ci_X7_clearHeir wd820 cs_X7_clearHeir ce_X7_clearHeir cd_X7_clearHeir (by decide) (by decide) (Nat.le_of_ble_eq_true rfl) dL_clearHeir_4 rfl) (fun E σ1 u hE0 hu R H locs hid ls q ce h2 h3 h4 h5 g1 g2 g3 hc hv hcl => ?_) (fun v s1 _ => ?_)
  · by_cases e0 : "java/util/NoSuchElementException" = E
    · subst e0
      rw [cd, if_pos rfl] at hu
      cases hu
      exact w_hand hC hr hE (pre := []) (suf := [(0, 9, 15, 15)]) (a := 0) (b := 9) (h := 12) (ct := 32) ht (n := 1) (fun z hz => absurd hz List.not_mem_nil) ⟨by decide, by decide⟩ (by decide) wlE32 wcE32 (Or.inl ⟨3, by decide, dL_clearHeir_12, dL_clearHeir_13, dL_clearHeir_14⟩) g1 g2 g3 hc hv hcl
    rw [cd, if_neg e0] at hu
    by_cases e1 : "java/lang/IllegalStateException" = E
    · subst e1
      rw [cd, if_pos rfl] at hu
      cases hu
      exact w_hand hC hr hE (pre := [(0, 9, 12, 32)]) (suf := []) (a := 0) (b := 9) (h := 15) (ct := 15) ht (n := 2) (List.forall_mem_cons.mpr ⟨⟨by decide, "java/util/NoSuchElementException", wlE32, ncsE _ _ (by simp) (by simp) (by decide)⟩, fun _ hz => absurd hz List.not_mem_nil⟩) ⟨by decide, by decide⟩ (by decide) wlE15 wcE15 (Or.inl ⟨3, by decide, dL_clearHeir_15, dL_clearHeir_16, dL_clearHeir_17⟩) g1 g2 g3 hc hv hcl
    rw [cd, if_neg e1] at hu
    cases hu
  · refine lx_i2l hC dL_clearHeir_7 ?_
    refine lx_lastore hC ly9 dL_clearHeir_8 (fun s2 => ?_)
    refine lx_goto hC 18 dL_clearHeir_9 (by decide) ?_
    refine lx_iconstv (v := 0) hC dL_clearHeir_18 rfl ?_
    exact lx_iretN hC rfl hr dL_clearHeir_19
theorem wd827 : Cond.methodLink RL 43 yX7_lock ∈ gw := gwt4 (List.mem_of_getElem? (i := 20) rfl) (by decide +kernel)
set_option maxRecDepth 100000 in
set_option maxHeartbeats 2000000 in
theorem sat_L_lock (l : Launch) (hl : l.stackTraces = false) (p0 : Int32) (s : Mem) : SatW l yL_lock (.codeWith yL_lock cL_lock 4 (some .int) [(0, 9, 12, 21), (0, 9, 15, 15)]) 37 660 (fun x => some (.int x)) [.ref 0, .int p0, .ref 9] s (wI ["java/lang/IndexOutOfBoundsException", "java/lang/IllegalStateException"] (m_X7_lock p0 s)) := by
  refine satw_of (by decide) (Nat.le_of_ble_eq_true rfl) (fun X V A adV hxl hC hE ht hr => ?_) (mn_wI (n_X7_lock p0 s))
  subst hxl
  show LX X V A 37 660 (nC s) (nS s) _ 0 [(0, .ref 0), (1, .int p0), (2, .ref 9)] [] s _
  unfold wI
  rw [show yL_lock.cls = RL from rfl] at hC
  refine lx_aload_n hC dL_lock_0 rfl 2 rfl ?_
  refine lx_iconstv (v := 0) hC dL_lock_1 rfl ?_
  refine lx_aload_n hC dL_lock_2 rfl 0 rfl ?_
  refine lx_iload_n hC dL_lock_3 rfl 1 rfl ?_
  refine lx_callC hC (sat_X7_lock (xl X) hl p0 s) (run_V (as := [.int p0]) (rest := [.int 0, .ref 9]) hC hE ly0 rfl cw_X7_lock ci_X7_lock wd827 cs_X7_lock ce_X7_lock cd_X7_lock (by decide) (by decide) (Nat.le_of_ble_eq_true rfl) dL_lock_4 rfl) (fun E σ1 u hE0 hu R H locs hid ls q ce h2 h3 h4 h5 g1 g2 g3 hc hv hcl => ?_) (fun v s1 _ => ?_)
  · by_cases e0 : "java/lang/IndexOutOfBoundsException" = E
    · subst e0
      rw [cd, if_pos rfl] at hu
      cases hu
      exact w_hand hC hr hE (pre := []) (suf := [(0, 9, 15, 15)]) (a := 0) (b := 9) (h := 12) (ct := 21) ht (n := 1) (fun z hz => absurd hz List.not_mem_nil) ⟨by decide, by decide⟩ (by decide) wlE21 wcE21 (Or.inl ⟨3, by decide, dL_lock_12, dL_lock_13, dL_lock_14⟩) g1 g2 g3 hc hv hcl
    rw [cd, if_neg e0] at hu
    by_cases e1 : "java/lang/IllegalStateException" = E
    · subst e1
      rw [cd, if_pos rfl] at hu
      cases hu
      exact w_hand hC hr hE (pre := [(0, 9, 12, 21)]) (suf := []) (a := 0) (b := 9) (h := 15) (ct := 15) ht (n := 2) (List.forall_mem_cons.mpr ⟨⟨by decide, "java/lang/IndexOutOfBoundsException", wlE21, ncsE _ _ (by simp) (by simp) (by decide)⟩, fun _ hz => absurd hz List.not_mem_nil⟩) ⟨by decide, by decide⟩ (by decide) wlE15 wcE15 (Or.inl ⟨3, by decide, dL_lock_15, dL_lock_16, dL_lock_17⟩) g1 g2 g3 hc hv hcl
    rw [cd, if_neg e1] at hu
    cases hu
  · refine lx_i2l hC dL_lock_7 ?_
    refine lx_lastore hC ly9 dL_lock_8 (fun s2 => ?_)
    refine lx_goto hC 18 dL_lock_9 (by decide) ?_
    refine lx_iconstv (v := 0) hC dL_lock_18 rfl ?_
    exact lx_iretN hC rfl hr dL_lock_19
theorem wd834 : Cond.methodLink RL 46 yX7_unlock ∈ gw := gwt4 (List.mem_of_getElem? (i := 27) rfl) (by decide +kernel)
set_option maxRecDepth 100000 in
set_option maxHeartbeats 2000000 in
theorem sat_L_unlock (l : Launch) (hl : l.stackTraces = false) (p0 : Int32) (s : Mem) : SatW l yL_unlock (.codeWith yL_unlock cL_unlock 4 (some .int) [(0, 9, 12, 21), (0, 9, 15, 15)]) 37 660 (fun x => some (.int x)) [.ref 0, .int p0, .ref 9] s (wI ["java/lang/IndexOutOfBoundsException", "java/lang/IllegalStateException"] (m_X7_unlock p0 s)) := by
  refine satw_of (by decide) (Nat.le_of_ble_eq_true rfl) (fun X V A adV hxl hC hE ht hr => ?_) (mn_wI (n_X7_unlock p0 s))
  subst hxl
  show LX X V A 37 660 (nC s) (nS s) _ 0 [(0, .ref 0), (1, .int p0), (2, .ref 9)] [] s _
  unfold wI
  rw [show yL_unlock.cls = RL from rfl] at hC
  refine lx_aload_n hC dL_unlock_0 rfl 2 rfl ?_
  refine lx_iconstv (v := 0) hC dL_unlock_1 rfl ?_
  refine lx_aload_n hC dL_unlock_2 rfl 0 rfl ?_
  refine lx_iload_n hC dL_unlock_3 rfl 1 rfl ?_
  refine lx_callC hC (sat_X7_unlock (xl X) hl p0 s) (run_V (as := [.int p0]) (rest := [.int 0, .ref 9]) hC hE ly0 rfl cw_X7_unlock ci_X7_unlock wd834 cs_X7_unlock ce_X7_unlock cd_X7_unlock (by decide) (by decide) (Nat.le_of_ble_eq_true rfl) dL_unlock_4 rfl) (fun E σ1 u hE0 hu R H locs hid ls q ce h2 h3 h4 h5 g1 g2 g3 hc hv hcl => ?_) (fun v s1 _ => ?_)
  · by_cases e0 : "java/lang/IndexOutOfBoundsException" = E
    · subst e0
      rw [cd, if_pos rfl] at hu
      cases hu
      exact w_hand hC hr hE (pre := []) (suf := [(0, 9, 15, 15)]) (a := 0) (b := 9) (h := 12) (ct := 21) ht (n := 1) (fun z hz => absurd hz List.not_mem_nil) ⟨by decide, by decide⟩ (by decide) wlE21 wcE21 (Or.inl ⟨3, by decide, dL_unlock_12, dL_unlock_13, dL_unlock_14⟩) g1 g2 g3 hc hv hcl
    rw [cd, if_neg e0] at hu
    by_cases e1 : "java/lang/IllegalStateException" = E
    · subst e1
      rw [cd, if_pos rfl] at hu
      cases hu
      exact w_hand hC hr hE (pre := [(0, 9, 12, 21)]) (suf := []) (a := 0) (b := 9) (h := 15) (ct := 15) ht (n := 2) (List.forall_mem_cons.mpr ⟨⟨by decide, "java/lang/IndexOutOfBoundsException", wlE21, ncsE _ _ (by simp) (by simp) (by decide)⟩, fun _ hz => absurd hz List.not_mem_nil⟩) ⟨by decide, by decide⟩ (by decide) wlE15 wcE15 (Or.inl ⟨3, by decide, dL_unlock_15, dL_unlock_16, dL_unlock_17⟩) g1 g2 g3 hc hv hcl
    rw [cd, if_neg e1] at hu
    cases hu
  · refine lx_i2l hC dL_unlock_7 ?_
    refine lx_lastore hC ly9 dL_unlock_8 (fun s2 => ?_)
    refine lx_goto hC 18 dL_unlock_9 (by decide) ?_
    refine lx_iconstv (v := 0) hC dL_unlock_18 rfl ?_
    exact lx_iretN hC rfl hr dL_unlock_19
theorem wd841 : Cond.methodLink RL 49 yX7_nameRow ∈ gw := gwt4 (List.mem_of_getElem? (i := 34) rfl) (by decide +kernel)
set_option maxRecDepth 100000 in
set_option maxHeartbeats 2000000 in
theorem sat_L_nameRow (l : Launch) (hl : l.stackTraces = false) (p0 p1 : Int32) (s : Mem) : SatW l yL_nameRow (.codeWith yL_nameRow cL_nameRow 5 (some .int) [(0, 10, 13, 13), (0, 10, 17, 21)]) 37 661 (fun x => some (.int x)) [.ref 0, .int p0, .int p1, .ref 9] s (wI ["java/lang/IllegalArgumentException", "java/lang/IndexOutOfBoundsException"] (m_X7_nameRow p0 p1 s)) := by
  refine satw_of (by decide) (Nat.le_of_ble_eq_true rfl) (fun X V A adV hxl hC hE ht hr => ?_) (mn_wI (n_X7_nameRow p0 p1 s))
  subst hxl
  show LX X V A 37 661 (nC s) (nS s) _ 0 [(0, .ref 0), (1, .int p0), (2, .int p1), (3, .ref 9)] [] s _
  unfold wI
  rw [show yL_nameRow.cls = RL from rfl] at hC
  refine lx_aload_n hC dL_nameRow_0 rfl 3 rfl ?_
  refine lx_iconstv (v := 0) hC dL_nameRow_1 rfl ?_
  refine lx_aload_n hC dL_nameRow_2 rfl 0 rfl ?_
  refine lx_iload_n hC dL_nameRow_3 rfl 1 rfl ?_
  refine lx_iload_n hC dL_nameRow_4 rfl 2 rfl ?_
  refine lx_callC hC (sat_X7_nameRow (xl X) hl p0 p1 s) (run_V (as := [.int p0, .int p1]) (rest := [.int 0, .ref 9]) hC hE ly0 rfl cw_X7_nameRow ci_X7_nameRow wd841 cs_X7_nameRow ce_X7_nameRow cd_X7_nameRow (by decide) (by decide) (Nat.le_of_ble_eq_true rfl) dL_nameRow_5 rfl) (fun E σ1 u hE0 hu R H locs hid ls q ce h2 h3 h4 h5 g1 g2 g3 hc hv hcl => ?_) (fun v s1 _ => ?_)
  · by_cases e0 : "java/lang/IllegalArgumentException" = E
    · subst e0
      rw [cd, if_pos rfl] at hu
      cases hu
      exact w_hand hC hr hE (pre := []) (suf := [(0, 10, 17, 21)]) (a := 0) (b := 10) (h := 13) (ct := 13) ht (n := 1) (fun z hz => absurd hz List.not_mem_nil) ⟨by decide, by decide⟩ (by decide) wlE13 wcE13 (Or.inr ⟨4, by decide, dL_nameRow_13, dL_nameRow_15, dL_nameRow_16⟩) g1 g2 g3 hc hv hcl
    rw [cd, if_neg e0] at hu
    by_cases e1 : "java/lang/IndexOutOfBoundsException" = E
    · subst e1
      rw [cd, if_pos rfl] at hu
      cases hu
      exact w_hand hC hr hE (pre := [(0, 10, 13, 13)]) (suf := []) (a := 0) (b := 10) (h := 17) (ct := 21) ht (n := 2) (List.forall_mem_cons.mpr ⟨⟨by decide, "java/lang/IllegalArgumentException", wlE13, ncsE _ _ (by simp) (by simp) (by decide)⟩, fun _ hz => absurd hz List.not_mem_nil⟩) ⟨by decide, by decide⟩ (by decide) wlE21 wcE21 (Or.inr ⟨4, by decide, dL_nameRow_17, dL_nameRow_19, dL_nameRow_20⟩) g1 g2 g3 hc hv hcl
    rw [cd, if_neg e1] at hu
    cases hu
  · refine lx_i2l hC dL_nameRow_8 ?_
    refine lx_lastore hC ly9 dL_nameRow_9 (fun s2 => ?_)
    refine lx_goto hC 21 dL_nameRow_10 (by decide) ?_
    refine lx_iconstv (v := 0) hC dL_nameRow_21 rfl ?_
    exact lx_iretN hC rfl hr dL_nameRow_22
theorem wd848 : Cond.methodLink RL 53 yX7_spread ∈ gw := gwt4 (List.mem_of_getElem? (i := 41) rfl) (by decide +kernel)
set_option maxRecDepth 100000 in
set_option maxHeartbeats 2000000 in
theorem sat_L_spread (l : Launch) (hl : l.stackTraces = false) (p0 : Int32) (s : Mem) : SatW l yL_spread (.codeWith yL_spread cL_spread 4 (some .int) [(0, 9, 12, 21), (0, 9, 15, 15)]) 37 660 (fun x => some (.int x)) [.ref 0, .int p0, .ref 9] s (wI ["java/lang/IndexOutOfBoundsException", "java/lang/IllegalStateException"] (m_X7_spread p0 s)) := by
  refine satw_of (by decide) (Nat.le_of_ble_eq_true rfl) (fun X V A adV hxl hC hE ht hr => ?_) (mn_wI (n_X7_spread p0 s))
  subst hxl
  show LX X V A 37 660 (nC s) (nS s) _ 0 [(0, .ref 0), (1, .int p0), (2, .ref 9)] [] s _
  unfold wI
  rw [show yL_spread.cls = RL from rfl] at hC
  refine lx_aload_n hC dL_spread_0 rfl 2 rfl ?_
  refine lx_iconstv (v := 0) hC dL_spread_1 rfl ?_
  refine lx_aload_n hC dL_spread_2 rfl 0 rfl ?_
  refine lx_iload_n hC dL_spread_3 rfl 1 rfl ?_
  refine lx_callC hC (sat_X7_spread (xl X) hl p0 s) (run_V (as := [.int p0]) (rest := [.int 0, .ref 9]) hC hE ly0 rfl cw_X7_spread ci_X7_spread wd848 cs_X7_spread ce_X7_spread cd_X7_spread (by decide) (by decide) (Nat.le_of_ble_eq_true rfl) dL_spread_4 rfl) (fun E σ1 u hE0 hu R H locs hid ls q ce h2 h3 h4 h5 g1 g2 g3 hc hv hcl => ?_) (fun v s1 _ => ?_)
  · by_cases e0 : "java/lang/IndexOutOfBoundsException" = E
    · subst e0
      rw [cd, if_pos rfl] at hu
      cases hu
      exact w_hand hC hr hE (pre := []) (suf := [(0, 9, 15, 15)]) (a := 0) (b := 9) (h := 12) (ct := 21) ht (n := 1) (fun z hz => absurd hz List.not_mem_nil) ⟨by decide, by decide⟩ (by decide) wlE21 wcE21 (Or.inl ⟨3, by decide, dL_spread_12, dL_spread_13, dL_spread_14⟩) g1 g2 g3 hc hv hcl
    rw [cd, if_neg e0] at hu
    by_cases e1 : "java/lang/IllegalStateException" = E
    · subst e1
      rw [cd, if_pos rfl] at hu
      cases hu
      exact w_hand hC hr hE (pre := [(0, 9, 12, 21)]) (suf := []) (a := 0) (b := 9) (h := 15) (ct := 15) ht (n := 2) (List.forall_mem_cons.mpr ⟨⟨by decide, "java/lang/IndexOutOfBoundsException", wlE21, ncsE _ _ (by simp) (by simp) (by decide)⟩, fun _ hz => absurd hz List.not_mem_nil⟩) ⟨by decide, by decide⟩ (by decide) wlE15 wcE15 (Or.inl ⟨3, by decide, dL_spread_15, dL_spread_16, dL_spread_17⟩) g1 g2 g3 hc hv hcl
    rw [cd, if_neg e1] at hu
    cases hu
  · refine lx_i2l hC dL_spread_7 ?_
    refine lx_lastore hC ly9 dL_spread_8 (fun s2 => ?_)
    refine lx_goto hC 18 dL_spread_9 (by decide) ?_
    refine lx_iconstv (v := 0) hC dL_spread_18 rfl ?_
    exact lx_iretN hC rfl hr dL_spread_19
theorem wd855 : Cond.methodLink RL 56 yX7_capacity ∈ gw := gwt4 (List.mem_of_getElem? (i := 48) rfl) (by decide +kernel)
set_option maxRecDepth 100000 in
set_option maxHeartbeats 2000000 in
theorem sat_L_capacity (l : Launch) (hl : l.stackTraces = false) (p0 : Int32) (s : Mem) : SatW l yL_capacity (.codeWith yL_capacity cL_capacity 4 (some .int) [(0, 9, 12, 21)]) 33 564 (fun x => some (.int x)) [.ref 0, .int p0, .ref 9] s (wI ["java/lang/IndexOutOfBoundsException"] (m_X7_capacity p0 s)) := by
  refine satw_of (by decide) (Nat.le_of_ble_eq_true rfl) (fun X V A adV hxl hC hE ht hr => ?_) (mn_wI (n_X7_capacity p0 s))
  subst hxl
  show LX X V A 33 564 (nC s) (nS s) _ 0 [(0, .ref 0), (1, .int p0), (2, .ref 9)] [] s _
  unfold wI
  rw [show yL_capacity.cls = RL from rfl] at hC
  refine lx_aload_n hC dL_capacity_0 rfl 2 rfl ?_
  refine lx_iconstv (v := 0) hC dL_capacity_1 rfl ?_
  refine lx_aload_n hC dL_capacity_2 rfl 0 rfl ?_
  refine lx_iload_n hC dL_capacity_3 rfl 1 rfl ?_
  refine lx_callC hC (sat_X7_capacity (xl X) hl p0 s) (run_V (as := [.int p0]) (rest := [.int 0, .ref 9]) hC hE ly0 rfl cw_X7_capacity ci_X7_capacity wd855 cs_X7_capacity ce_X7_capacity cd_X7_capacity (by decide) (by decide) (Nat.le_of_ble_eq_true rfl) dL_capacity_4 rfl) (fun E σ1 u hE0 hu R H locs hid ls q ce h2 h3 h4 h5 g1 g2 g3 hc hv hcl => ?_) (fun v s1 _ => ?_)
  · by_cases e0 : "java/lang/IndexOutOfBoundsException" = E
    · subst e0
      rw [cd, if_pos rfl] at hu
      cases hu
      exact w_hand hC hr hE (pre := []) (suf := []) (a := 0) (b := 9) (h := 12) (ct := 21) ht (n := 1) (fun z hz => absurd hz List.not_mem_nil) ⟨by decide, by decide⟩ (by decide) wlE21 wcE21 (Or.inl ⟨3, by decide, dL_capacity_12, dL_capacity_13, dL_capacity_14⟩) g1 g2 g3 hc hv hcl
    rw [cd, if_neg e0] at hu
    cases hu
  · refine lx_i2l hC dL_capacity_7 ?_
    refine lx_lastore hC ly9 dL_capacity_8 (fun s2 => ?_)
    refine lx_goto hC 15 dL_capacity_9 (by decide) ?_
    refine lx_iconstv (v := 0) hC dL_capacity_15 rfl ?_
    exact lx_iretN hC rfl hr dL_capacity_16
theorem wd867 : Cond.methodLink RL 59 yX7_phantoms ∈ gw := gwt4 (List.mem_of_getElem? (i := 60) rfl) (by decide +kernel)
set_option maxRecDepth 100000 in
set_option maxHeartbeats 2000000 in
theorem sat_L_phantoms (l : Launch) (hl : l.stackTraces = false) (p0 : Int32) (s : Mem) : SatW l yL_phantoms (.codeWith yL_phantoms cL_phantoms 4 (some .int) [(0, 9, 12, 21)]) 33 564 (fun x => some (.int x)) [.ref 0, .int p0, .ref 9] s (wI ["java/lang/IndexOutOfBoundsException"] (m_X7_phantoms p0 s)) := by
  refine satw_of (by decide) (Nat.le_of_ble_eq_true rfl) (fun X V A adV hxl hC hE ht hr => ?_) (mn_wI (n_X7_phantoms p0 s))
  subst hxl
  show LX X V A 33 564 (nC s) (nS s) _ 0 [(0, .ref 0), (1, .int p0), (2, .ref 9)] [] s _
  unfold wI
  rw [show yL_phantoms.cls = RL from rfl] at hC
  refine lx_aload_n hC dL_phantoms_0 rfl 2 rfl ?_
  refine lx_iconstv (v := 0) hC dL_phantoms_1 rfl ?_
  refine lx_aload_n hC dL_phantoms_2 rfl 0 rfl ?_
  refine lx_iload_n hC dL_phantoms_3 rfl 1 rfl ?_
  refine lx_callC hC (sat_X7_phantoms (xl X) hl p0 s) (run_V (as := [.int p0]) (rest := [.int 0, .ref 9]) hC hE ly0 rfl cw_X7_phantoms ci_X7_phantoms wd867 cs_X7_phantoms ce_X7_phantoms cd_X7_phantoms (by decide) (by decide) (Nat.le_of_ble_eq_true rfl) dL_phantoms_4 rfl) (fun E σ1 u hE0 hu R H locs hid ls q ce h2 h3 h4 h5 g1 g2 g3 hc hv hcl => ?_) (fun v s1 _ => ?_)
  · by_cases e0 : "java/lang/IndexOutOfBoundsException" = E
    · subst e0
      rw [cd, if_pos rfl] at hu
      cases hu
      exact w_hand hC hr hE (pre := []) (suf := []) (a := 0) (b := 9) (h := 12) (ct := 21) ht (n := 1) (fun z hz => absurd hz List.not_mem_nil) ⟨by decide, by decide⟩ (by decide) wlE21 wcE21 (Or.inl ⟨3, by decide, dL_phantoms_12, dL_phantoms_13, dL_phantoms_14⟩) g1 g2 g3 hc hv hcl
    rw [cd, if_neg e0] at hu
    cases hu
  · refine lx_i2l hC dL_phantoms_7 ?_
    refine lx_lastore hC ly9 dL_phantoms_8 (fun s2 => ?_)
    refine lx_goto hC 15 dL_phantoms_9 (by decide) ?_
    refine lx_iconstv (v := 0) hC dL_phantoms_15 rfl ?_
    exact lx_iretN hC rfl hr dL_phantoms_16
theorem wd874 : Cond.methodLink RL 62 yX7_occupancy ∈ gw := gwt4 (List.mem_of_getElem? (i := 67) rfl) (by decide +kernel)
set_option maxRecDepth 100000 in
set_option maxHeartbeats 2000000 in
theorem sat_L_occupancy (l : Launch) (hl : l.stackTraces = false) (p0 : Int32) (s : Mem) : SatW l yL_occupancy (.codeWith yL_occupancy cL_occupancy 4 (some .int) [(0, 9, 12, 21)]) 33 564 (fun x => some (.int x)) [.ref 0, .int p0, .ref 9] s (wI ["java/lang/IndexOutOfBoundsException"] (m_X7_occupancy p0 s)) := by
  refine satw_of (by decide) (Nat.le_of_ble_eq_true rfl) (fun X V A adV hxl hC hE ht hr => ?_) (mn_wI (n_X7_occupancy p0 s))
  subst hxl
  show LX X V A 33 564 (nC s) (nS s) _ 0 [(0, .ref 0), (1, .int p0), (2, .ref 9)] [] s _
  unfold wI
  rw [show yL_occupancy.cls = RL from rfl] at hC
  refine lx_aload_n hC dL_occupancy_0 rfl 2 rfl ?_
  refine lx_iconstv (v := 0) hC dL_occupancy_1 rfl ?_
  refine lx_aload_n hC dL_occupancy_2 rfl 0 rfl ?_
  refine lx_iload_n hC dL_occupancy_3 rfl 1 rfl ?_
  refine lx_callC hC (sat_X7_occupancy (xl X) hl p0 s) (run_V (as := [.int p0]) (rest := [.int 0, .ref 9]) hC hE ly0 rfl cw_X7_occupancy ci_X7_occupancy wd874 cs_X7_occupancy ce_X7_occupancy cd_X7_occupancy (by decide) (by decide) (Nat.le_of_ble_eq_true rfl) dL_occupancy_4 rfl) (fun E σ1 u hE0 hu R H locs hid ls q ce h2 h3 h4 h5 g1 g2 g3 hc hv hcl => ?_) (fun v s1 _ => ?_)
  · by_cases e0 : "java/lang/IndexOutOfBoundsException" = E
    · subst e0
      rw [cd, if_pos rfl] at hu
      cases hu
      exact w_hand hC hr hE (pre := []) (suf := []) (a := 0) (b := 9) (h := 12) (ct := 21) ht (n := 1) (fun z hz => absurd hz List.not_mem_nil) ⟨by decide, by decide⟩ (by decide) wlE21 wcE21 (Or.inl ⟨3, by decide, dL_occupancy_12, dL_occupancy_13, dL_occupancy_14⟩) g1 g2 g3 hc hv hcl
    rw [cd, if_neg e0] at hu
    cases hu
  · refine lx_i2l hC dL_occupancy_7 ?_
    refine lx_lastore hC ly9 dL_occupancy_8 (fun s2 => ?_)
    refine lx_goto hC 15 dL_occupancy_9 (by decide) ?_
    refine lx_iconstv (v := 0) hC dL_occupancy_15 rfl ?_
    exact lx_iretN hC rfl hr dL_occupancy_16
theorem wd882 : Cond.methodLink RL 65 yX7_freeSeats ∈ gw := gwt4 (List.mem_of_getElem? (i := 75) rfl) (by decide +kernel)
set_option maxRecDepth 100000 in
set_option maxHeartbeats 2000000 in
theorem sat_L_freeSeats (l : Launch) (hl : l.stackTraces = false) (p0 : Int32) (s : Mem) : SatW l yL_freeSeats (.codeWith yL_freeSeats cL_freeSeats 4 (some .int) [(0, 9, 12, 21)]) 33 565 (fun x => some (.int x)) [.ref 0, .int p0, .ref 9] s (wI ["java/lang/IndexOutOfBoundsException"] (m_X7_freeSeats p0 s)) := by
  refine satw_of (by decide) (Nat.le_of_ble_eq_true rfl) (fun X V A adV hxl hC hE ht hr => ?_) (mn_wI (n_X7_freeSeats p0 s))
  subst hxl
  show LX X V A 33 565 (nC s) (nS s) _ 0 [(0, .ref 0), (1, .int p0), (2, .ref 9)] [] s _
  unfold wI
  rw [show yL_freeSeats.cls = RL from rfl] at hC
  refine lx_aload_n hC dL_freeSeats_0 rfl 2 rfl ?_
  refine lx_iconstv (v := 0) hC dL_freeSeats_1 rfl ?_
  refine lx_aload_n hC dL_freeSeats_2 rfl 0 rfl ?_
  refine lx_iload_n hC dL_freeSeats_3 rfl 1 rfl ?_
  refine lx_callC hC (sat_X7_freeSeats (xl X) hl p0 s) (run_V (as := [.int p0]) (rest := [.int 0, .ref 9]) hC hE ly0 rfl cw_X7_freeSeats ci_X7_freeSeats wd882 cs_X7_freeSeats ce_X7_freeSeats cd_X7_freeSeats (by decide) (by decide) (Nat.le_of_ble_eq_true rfl) dL_freeSeats_4 rfl) (fun E σ1 u hE0 hu R H locs hid ls q ce h2 h3 h4 h5 g1 g2 g3 hc hv hcl => ?_) (fun v s1 _ => ?_)
  · by_cases e0 : "java/lang/IndexOutOfBoundsException" = E
    · subst e0
      rw [cd, if_pos rfl] at hu
      cases hu
      exact w_hand hC hr hE (pre := []) (suf := []) (a := 0) (b := 9) (h := 12) (ct := 21) ht (n := 1) (fun z hz => absurd hz List.not_mem_nil) ⟨by decide, by decide⟩ (by decide) wlE21 wcE21 (Or.inl ⟨3, by decide, dL_freeSeats_12, dL_freeSeats_13, dL_freeSeats_14⟩) g1 g2 g3 hc hv hcl
    rw [cd, if_neg e0] at hu
    cases hu
  · refine lx_i2l hC dL_freeSeats_7 ?_
    refine lx_lastore hC ly9 dL_freeSeats_8 (fun s2 => ?_)
    refine lx_goto hC 15 dL_freeSeats_9 (by decide) ?_
    refine lx_iconstv (v := 0) hC dL_freeSeats_15 rfl ?_
    exact lx_iretN hC rfl hr dL_freeSeats_16
theorem wd890 : Cond.methodLink RL 68 yX7_rowLoudness ∈ gw := gwt4 (List.mem_of_getElem? (i := 83) rfl) (by decide +kernel)
set_option maxRecDepth 100000 in
set_option maxHeartbeats 2000000 in
theorem sat_L_rowLoudness (l : Launch) (hl : l.stackTraces = false) (p0 : Int32) (s : Mem) : SatW l yL_rowLoudness (.codeWith yL_rowLoudness cL_rowLoudness 4 (some .int) [(0, 9, 12, 21)]) 33 564 (fun x => some (.int x)) [.ref 0, .int p0, .ref 9] s (wI ["java/lang/IndexOutOfBoundsException"] (m_X7_rowLoudness p0 s)) := by
  refine satw_of (by decide) (Nat.le_of_ble_eq_true rfl) (fun X V A adV hxl hC hE ht hr => ?_) (mn_wI (n_X7_rowLoudness p0 s))
  subst hxl
  show LX X V A 33 564 (nC s) (nS s) _ 0 [(0, .ref 0), (1, .int p0), (2, .ref 9)] [] s _
  unfold wI
  rw [show yL_rowLoudness.cls = RL from rfl] at hC
  refine lx_aload_n hC dL_rowLoudness_0 rfl 2 rfl ?_
  refine lx_iconstv (v := 0) hC dL_rowLoudness_1 rfl ?_
  refine lx_aload_n hC dL_rowLoudness_2 rfl 0 rfl ?_
  refine lx_iload_n hC dL_rowLoudness_3 rfl 1 rfl ?_
  refine lx_callC hC (sat_X7_rowLoudness (xl X) hl p0 s) (run_V (as := [.int p0]) (rest := [.int 0, .ref 9]) hC hE ly0 rfl cw_X7_rowLoudness ci_X7_rowLoudness wd890 cs_X7_rowLoudness ce_X7_rowLoudness cd_X7_rowLoudness (by decide) (by decide) (Nat.le_of_ble_eq_true rfl) dL_rowLoudness_4 rfl) (fun E σ1 u hE0 hu R H locs hid ls q ce h2 h3 h4 h5 g1 g2 g3 hc hv hcl => ?_) (fun v s1 _ => ?_)
  · by_cases e0 : "java/lang/IndexOutOfBoundsException" = E
    · subst e0
      rw [cd, if_pos rfl] at hu
      cases hu
      exact w_hand hC hr hE (pre := []) (suf := []) (a := 0) (b := 9) (h := 12) (ct := 21) ht (n := 1) (fun z hz => absurd hz List.not_mem_nil) ⟨by decide, by decide⟩ (by decide) wlE21 wcE21 (Or.inl ⟨3, by decide, dL_rowLoudness_12, dL_rowLoudness_13, dL_rowLoudness_14⟩) g1 g2 g3 hc hv hcl
    rw [cd, if_neg e0] at hu
    cases hu
  · refine lx_i2l hC dL_rowLoudness_7 ?_
    refine lx_lastore hC ly9 dL_rowLoudness_8 (fun s2 => ?_)
    refine lx_goto hC 15 dL_rowLoudness_9 (by decide) ?_
    refine lx_iconstv (v := 0) hC dL_rowLoudness_15 rfl ?_
    exact lx_iretN hC rfl hr dL_rowLoudness_16
theorem wd901 : Cond.methodLink RL 71 yX7_isLocked ∈ gw := gwt4 (List.mem_of_getElem? (i := 94) rfl) (by decide +kernel)
set_option maxRecDepth 100000 in
set_option maxHeartbeats 2000000 in
theorem sat_L_isLocked (l : Launch) (hl : l.stackTraces = false) (p0 : Int32) (s : Mem) : SatW l yL_isLocked (.codeWith yL_isLocked cL_isLocked 4 (some .int) [(0, 16, 19, 21)]) 33 564 (fun x => some (.int x)) [.ref 0, .int p0, .ref 9] s (wZ ["java/lang/IndexOutOfBoundsException"] (m_X7_isLocked p0 s)) := by
  refine satw_of (by decide) (Nat.le_of_ble_eq_true rfl) (fun X V A adV hxl hC hE ht hr => ?_) (mn_wZ (n_X7_isLocked p0 s))
  subst hxl
  show LX X V A 33 564 (nC s) (nS s) _ 0 [(0, .ref 0), (1, .int p0), (2, .ref 9)] [] s _
  unfold wZ
  rw [show yL_isLocked.cls = RL from rfl] at hC
  refine lx_aload_n hC dL_isLocked_0 rfl 2 rfl ?_
  refine lx_iconstv (v := 0) hC dL_isLocked_1 rfl ?_
  refine lx_aload_n hC dL_isLocked_2 rfl 0 rfl ?_
  refine lx_iload_n hC dL_isLocked_3 rfl 1 rfl ?_
  refine lx_callC hC (sat_X7_isLocked (xl X) hl p0 s) (run_V (as := [.int p0]) (rest := [.int 0, .ref 9]) hC hE ly0 rfl cw_X7_isLocked ci_X7_isLocked wd901 cs_X7_isLocked ce_X7_isLocked cd_X7_isLocked (by decide) (by decide) (Nat.le_of_ble_eq_true rfl) dL_isLocked_4 rfl) (fun E σ1 u hE0 hu R H locs hid ls q ce h2 h3 h4 h5 g1 g2 g3 hc hv hcl => ?_) (fun v s1 _ => ?_)
  · by_cases e0 : "java/lang/IndexOutOfBoundsException" = E
    · subst e0
      rw [cd, if_pos rfl] at hu
      cases hu
      exact w_hand hC hr hE (pre := []) (suf := []) (a := 0) (b := 16) (h := 19) (ct := 21) ht (n := 1) (fun z hz => absurd hz List.not_mem_nil) ⟨by decide, by decide⟩ (by decide) wlE21 wcE21 (Or.inl ⟨3, by decide, dL_isLocked_19, dL_isLocked_20, dL_isLocked_21⟩) g1 g2 g3 hc hv hcl
    rw [cd, if_neg e0] at hu
    cases hu
  · refine lx_if_eq hC 14 dL_isLocked_7 (by decide) ?_ ?_
    · refine lx_lconst (v := 0) hC dL_isLocked_14 rfl ?_
      refine lx_lastore hC ly9 dL_isLocked_15 (fun s2 => ?_)
      refine lx_goto hC 22 dL_isLocked_16 (by decide) ?_
      refine lx_iconstv (v := 0) hC dL_isLocked_22 rfl ?_
      exact lx_iretN hC rfl hr dL_isLocked_23
    · refine lx_lconst (v := 1) hC dL_isLocked_10 rfl ?_
      refine lx_goto hC 15 dL_isLocked_11 (by decide) ?_
      refine lx_lastore hC ly9 dL_isLocked_15 (fun s2 => ?_)
      refine lx_goto hC 22 dL_isLocked_16 (by decide) ?_
      refine lx_iconstv (v := 0) hC dL_isLocked_22 rfl ?_
      exact lx_iretN hC rfl hr dL_isLocked_23
theorem wd908 : Cond.methodLink RL 75 yX7_isCrowded ∈ gw := gwt4 (List.mem_of_getElem? (i := 101) rfl) (by decide +kernel)
set_option maxRecDepth 100000 in
set_option maxHeartbeats 2000000 in
theorem sat_L_isCrowded (l : Launch) (hl : l.stackTraces = false) (p0 : Int32) (s : Mem) : SatW l yL_isCrowded (.codeWith yL_isCrowded cL_isCrowded 4 (some .int) [(0, 16, 19, 21)]) 33 565 (fun x => some (.int x)) [.ref 0, .int p0, .ref 9] s (wZ ["java/lang/IndexOutOfBoundsException"] (m_X7_isCrowded p0 s)) := by
  refine satw_of (by decide) (Nat.le_of_ble_eq_true rfl) (fun X V A adV hxl hC hE ht hr => ?_) (mn_wZ (n_X7_isCrowded p0 s))
  subst hxl
  show LX X V A 33 565 (nC s) (nS s) _ 0 [(0, .ref 0), (1, .int p0), (2, .ref 9)] [] s _
  unfold wZ
  rw [show yL_isCrowded.cls = RL from rfl] at hC
  refine lx_aload_n hC dL_isCrowded_0 rfl 2 rfl ?_
  refine lx_iconstv (v := 0) hC dL_isCrowded_1 rfl ?_
  refine lx_aload_n hC dL_isCrowded_2 rfl 0 rfl ?_
  refine lx_iload_n hC dL_isCrowded_3 rfl 1 rfl ?_
  refine lx_callC hC (sat_X7_isCrowded (xl X) hl p0 s) (run_V (as := [.int p0]) (rest := [.int 0, .ref 9]) hC hE ly0 rfl cw_X7_isCrowded ci_X7_isCrowded wd908 cs_X7_isCrowded ce_X7_isCrowded cd_X7_isCrowded (by decide) (by decide) (Nat.le_of_ble_eq_true rfl) dL_isCrowded_4 rfl) (fun E σ1 u hE0 hu R H locs hid ls q ce h2 h3 h4 h5 g1 g2 g3 hc hv hcl => ?_) (fun v s1 _ => ?_)
  · by_cases e0 : "java/lang/IndexOutOfBoundsException" = E
    · subst e0
      rw [cd, if_pos rfl] at hu
      cases hu
      exact w_hand hC hr hE (pre := []) (suf := []) (a := 0) (b := 16) (h := 19) (ct := 21) ht (n := 1) (fun z hz => absurd hz List.not_mem_nil) ⟨by decide, by decide⟩ (by decide) wlE21 wcE21 (Or.inl ⟨3, by decide, dL_isCrowded_19, dL_isCrowded_20, dL_isCrowded_21⟩) g1 g2 g3 hc hv hcl
    rw [cd, if_neg e0] at hu
    cases hu
  · refine lx_if_eq hC 14 dL_isCrowded_7 (by decide) ?_ ?_
    · refine lx_lconst (v := 0) hC dL_isCrowded_14 rfl ?_
      refine lx_lastore hC ly9 dL_isCrowded_15 (fun s2 => ?_)
      refine lx_goto hC 22 dL_isCrowded_16 (by decide) ?_
      refine lx_iconstv (v := 0) hC dL_isCrowded_22 rfl ?_
      exact lx_iretN hC rfl hr dL_isCrowded_23
    · refine lx_lconst (v := 1) hC dL_isCrowded_10 rfl ?_
      refine lx_goto hC 15 dL_isCrowded_11 (by decide) ?_
      refine lx_lastore hC ly9 dL_isCrowded_15 (fun s2 => ?_)
      refine lx_goto hC 22 dL_isCrowded_16 (by decide) ?_
      refine lx_iconstv (v := 0) hC dL_isCrowded_22 rfl ?_
      exact lx_iretN hC rfl hr dL_isCrowded_23
theorem wd916 : Cond.methodLink RL 78 yX7_idInRow ∈ gw := gwt4 (List.mem_of_getElem? (i := 109) rfl) (by decide +kernel)
set_option maxRecDepth 100000 in
set_option maxHeartbeats 2000000 in
theorem sat_L_idInRow (l : Launch) (hl : l.stackTraces = false) (p0 p1 : Int32) (s : Mem) : SatW l yL_idInRow (.codeWith yL_idInRow cL_idInRow 5 (some .int) [(0, 10, 13, 21), (0, 10, 17, 32)]) 33 566 (fun x => some (.int x)) [.ref 0, .int p0, .int p1, .ref 9] s (wI ["java/lang/IndexOutOfBoundsException", "java/util/NoSuchElementException"] (m_X7_idInRow p0 p1 s)) := by
  refine satw_of (by decide) (Nat.le_of_ble_eq_true rfl) (fun X V A adV hxl hC hE ht hr => ?_) (mn_wI (n_X7_idInRow p0 p1 s))
  subst hxl
  show LX X V A 33 566 (nC s) (nS s) _ 0 [(0, .ref 0), (1, .int p0), (2, .int p1), (3, .ref 9)] [] s _
  unfold wI
  rw [show yL_idInRow.cls = RL from rfl] at hC
  refine lx_aload_n hC dL_idInRow_0 rfl 3 rfl ?_
  refine lx_iconstv (v := 0) hC dL_idInRow_1 rfl ?_
  refine lx_aload_n hC dL_idInRow_2 rfl 0 rfl ?_
  refine lx_iload_n hC dL_idInRow_3 rfl 1 rfl ?_
  refine lx_iload_n hC dL_idInRow_4 rfl 2 rfl ?_
  refine lx_callC hC (sat_X7_idInRow (xl X) hl p0 p1 s) (run_V (as := [.int p0, .int p1]) (rest := [.int 0, .ref 9]) hC hE ly0 rfl cw_X7_idInRow ci_X7_idInRow wd916 cs_X7_idInRow ce_X7_idInRow cd_X7_idInRow (by decide) (by decide) (Nat.le_of_ble_eq_true rfl) dL_idInRow_5 rfl) (fun E σ1 u hE0 hu R H locs hid ls q ce h2 h3 h4 h5 g1 g2 g3 hc hv hcl => ?_) (fun v s1 _ => ?_)
  · by_cases e0 : "java/lang/IndexOutOfBoundsException" = E
    · subst e0
      rw [cd, if_pos rfl] at hu
      cases hu
      exact w_hand hC hr hE (pre := []) (suf := [(0, 10, 17, 32)]) (a := 0) (b := 10) (h := 13) (ct := 21) ht (n := 1) (fun z hz => absurd hz List.not_mem_nil) ⟨by decide, by decide⟩ (by decide) wlE21 wcE21 (Or.inr ⟨4, by decide, dL_idInRow_13, dL_idInRow_15, dL_idInRow_16⟩) g1 g2 g3 hc hv hcl
    rw [cd, if_neg e0] at hu
    by_cases e1 : "java/util/NoSuchElementException" = E
    · subst e1
      rw [cd, if_pos rfl] at hu
      cases hu
      exact w_hand hC hr hE (pre := [(0, 10, 13, 21)]) (suf := []) (a := 0) (b := 10) (h := 17) (ct := 32) ht (n := 2) (List.forall_mem_cons.mpr ⟨⟨by decide, "java/lang/IndexOutOfBoundsException", wlE21, ncsE _ _ (by simp) (by simp) (by decide)⟩, fun _ hz => absurd hz List.not_mem_nil⟩) ⟨by decide, by decide⟩ (by decide) wlE32 wcE32 (Or.inr ⟨4, by decide, dL_idInRow_17, dL_idInRow_19, dL_idInRow_20⟩) g1 g2 g3 hc hv hcl
    rw [cd, if_neg e1] at hu
    cases hu
  · refine lx_i2l hC dL_idInRow_8 ?_
    refine lx_lastore hC ly9 dL_idInRow_9 (fun s2 => ?_)
    refine lx_goto hC 21 dL_idInRow_10 (by decide) ?_
    refine lx_iconstv (v := 0) hC dL_idInRow_21 rfl ?_
    exact lx_iretN hC rfl hr dL_idInRow_22
theorem wd924 : Cond.methodLink RL 81 yX7_rowOf ∈ gw := gwt4 (List.mem_of_getElem? (i := 117) rfl) (by decide +kernel)
set_option maxRecDepth 100000 in
set_option maxHeartbeats 2000000 in
theorem sat_L_rowOf (l : Launch) (hl : l.stackTraces = false) (p0 : Int32) (s : Mem) : SatW l yL_rowOf (.codeWith yL_rowOf cL_rowOf 4 (some .int) [(0, 9, 12, 32)]) 33 565 (fun x => some (.int x)) [.ref 0, .int p0, .ref 9] s (wI ["java/util/NoSuchElementException"] (m_X7_rowOf p0 s)) := by
  refine satw_of (by decide) (Nat.le_of_ble_eq_true rfl) (fun X V A adV hxl hC hE ht hr => ?_) (mn_wI (n_X7_rowOf p0 s))
  subst hxl
  show LX X V A 33 565 (nC s) (nS s) _ 0 [(0, .ref 0), (1, .int p0), (2, .ref 9)] [] s _
  unfold wI
  rw [show yL_rowOf.cls = RL from rfl] at hC
  refine lx_aload_n hC dL_rowOf_0 rfl 2 rfl ?_
  refine lx_iconstv (v := 0) hC dL_rowOf_1 rfl ?_
  refine lx_aload_n hC dL_rowOf_2 rfl 0 rfl ?_
  refine lx_iload_n hC dL_rowOf_3 rfl 1 rfl ?_
  refine lx_callC hC (sat_X7_rowOf (xl X) hl p0 s) (run_V (as := [.int p0]) (rest := [.int 0, .ref 9]) hC hE ly0 rfl cw_X7_rowOf ci_X7_rowOf wd924 cs_X7_rowOf ce_X7_rowOf cd_X7_rowOf (by decide) (by decide) (Nat.le_of_ble_eq_true rfl) dL_rowOf_4 rfl) (fun E σ1 u hE0 hu R H locs hid ls q ce h2 h3 h4 h5 g1 g2 g3 hc hv hcl => ?_) (fun v s1 _ => ?_)
  · by_cases e0 : "java/util/NoSuchElementException" = E
    · subst e0
      rw [cd, if_pos rfl] at hu
      cases hu
      exact w_hand hC hr hE (pre := []) (suf := []) (a := 0) (b := 9) (h := 12) (ct := 32) ht (n := 1) (fun z hz => absurd hz List.not_mem_nil) ⟨by decide, by decide⟩ (by decide) wlE32 wcE32 (Or.inl ⟨3, by decide, dL_rowOf_12, dL_rowOf_13, dL_rowOf_14⟩) g1 g2 g3 hc hv hcl
    rw [cd, if_neg e0] at hu
    cases hu
  · refine lx_i2l hC dL_rowOf_7 ?_
    refine lx_lastore hC ly9 dL_rowOf_8 (fun s2 => ?_)
    refine lx_goto hC 15 dL_rowOf_9 (by decide) ?_
    refine lx_iconstv (v := 0) hC dL_rowOf_15 rfl ?_
    exact lx_iretN hC rfl hr dL_rowOf_16
theorem wd935 : Cond.methodLink RL 84 yX7_loudness ∈ gw := gwt4 (List.mem_of_getElem? (i := 128) rfl) (by decide +kernel)
set_option maxRecDepth 100000 in
set_option maxHeartbeats 2000000 in
theorem sat_L_loudness (l : Launch) (hl : l.stackTraces = false) (p0 : Int32) (s : Mem) : SatW l yL_loudness (.codeWith yL_loudness cL_loudness 4 (some .int) [(0, 9, 12, 32)]) 33 565 (fun x => some (.int x)) [.ref 0, .int p0, .ref 9] s (wI ["java/util/NoSuchElementException"] (m_X7_loudness p0 s)) := by
  refine satw_of (by decide) (Nat.le_of_ble_eq_true rfl) (fun X V A adV hxl hC hE ht hr => ?_) (mn_wI (n_X7_loudness p0 s))
  subst hxl
  show LX X V A 33 565 (nC s) (nS s) _ 0 [(0, .ref 0), (1, .int p0), (2, .ref 9)] [] s _
  unfold wI
  rw [show yL_loudness.cls = RL from rfl] at hC
  refine lx_aload_n hC dL_loudness_0 rfl 2 rfl ?_
  refine lx_iconstv (v := 0) hC dL_loudness_1 rfl ?_
  refine lx_aload_n hC dL_loudness_2 rfl 0 rfl ?_
  refine lx_iload_n hC dL_loudness_3 rfl 1 rfl ?_
  refine lx_callC hC (sat_X7_loudness (xl X) hl p0 s) (run_V (as := [.int p0]) (rest := [.int 0, .ref 9]) hC hE ly0 rfl cw_X7_loudness ci_X7_loudness wd935 cs_X7_loudness ce_X7_loudness cd_X7_loudness (by decide) (by decide) (Nat.le_of_ble_eq_true rfl) dL_loudness_4 rfl) (fun E σ1 u hE0 hu R H locs hid ls q ce h2 h3 h4 h5 g1 g2 g3 hc hv hcl => ?_) (fun v s1 _ => ?_)
  · by_cases e0 : "java/util/NoSuchElementException" = E
    · subst e0
      rw [cd, if_pos rfl] at hu
      cases hu
      exact w_hand hC hr hE (pre := []) (suf := []) (a := 0) (b := 9) (h := 12) (ct := 32) ht (n := 1) (fun z hz => absurd hz List.not_mem_nil) ⟨by decide, by decide⟩ (by decide) wlE32 wcE32 (Or.inl ⟨3, by decide, dL_loudness_12, dL_loudness_13, dL_loudness_14⟩) g1 g2 g3 hc hv hcl
    rw [cd, if_neg e0] at hu
    cases hu
  · refine lx_i2l hC dL_loudness_7 ?_
    refine lx_lastore hC ly9 dL_loudness_8 (fun s2 => ?_)
    refine lx_goto hC 15 dL_loudness_9 (by decide) ?_
    refine lx_iconstv (v := 0) hC dL_loudness_15 rfl ?_
    exact lx_iretN hC rfl hr dL_loudness_16
theorem wd942 : Cond.methodLink RL 87 yX7_positionInRow ∈ gw := gwt4 (List.mem_of_getElem? (i := 135) rfl) (by decide +kernel)
set_option maxRecDepth 100000 in
set_option maxHeartbeats 2000000 in
theorem sat_L_positionInRow (l : Launch) (hl : l.stackTraces = false) (p0 : Int32) (s : Mem) : SatW l yL_positionInRow (.codeWith yL_positionInRow cL_positionInRow 4 (some .int) [(0, 9, 12, 32)]) 33 565 (fun x => some (.int x)) [.ref 0, .int p0, .ref 9] s (wI ["java/util/NoSuchElementException"] (m_X7_positionInRow p0 s)) := by
  refine satw_of (by decide) (Nat.le_of_ble_eq_true rfl) (fun X V A adV hxl hC hE ht hr => ?_) (mn_wI (n_X7_positionInRow p0 s))
  subst hxl
  show LX X V A 33 565 (nC s) (nS s) _ 0 [(0, .ref 0), (1, .int p0), (2, .ref 9)] [] s _
  unfold wI
  rw [show yL_positionInRow.cls = RL from rfl] at hC
  refine lx_aload_n hC dL_positionInRow_0 rfl 2 rfl ?_
  refine lx_iconstv (v := 0) hC dL_positionInRow_1 rfl ?_
  refine lx_aload_n hC dL_positionInRow_2 rfl 0 rfl ?_
  refine lx_iload_n hC dL_positionInRow_3 rfl 1 rfl ?_
  refine lx_callC hC (sat_X7_positionInRow (xl X) hl p0 s) (run_V (as := [.int p0]) (rest := [.int 0, .ref 9]) hC hE ly0 rfl cw_X7_positionInRow ci_X7_positionInRow wd942 cs_X7_positionInRow ce_X7_positionInRow cd_X7_positionInRow (by decide) (by decide) (Nat.le_of_ble_eq_true rfl) dL_positionInRow_4 rfl) (fun E σ1 u hE0 hu R H locs hid ls q ce h2 h3 h4 h5 g1 g2 g3 hc hv hcl => ?_) (fun v s1 _ => ?_)
  · by_cases e0 : "java/util/NoSuchElementException" = E
    · subst e0
      rw [cd, if_pos rfl] at hu
      cases hu
      exact w_hand hC hr hE (pre := []) (suf := []) (a := 0) (b := 9) (h := 12) (ct := 32) ht (n := 1) (fun z hz => absurd hz List.not_mem_nil) ⟨by decide, by decide⟩ (by decide) wlE32 wcE32 (Or.inl ⟨3, by decide, dL_positionInRow_12, dL_positionInRow_13, dL_positionInRow_14⟩) g1 g2 g3 hc hv hcl
    rw [cd, if_neg e0] at hu
    cases hu
  · refine lx_i2l hC dL_positionInRow_7 ?_
    refine lx_lastore hC ly9 dL_positionInRow_8 (fun s2 => ?_)
    refine lx_goto hC 15 dL_positionInRow_9 (by decide) ?_
    refine lx_iconstv (v := 0) hC dL_positionInRow_15 rfl ?_
    exact lx_iretN hC rfl hr dL_positionInRow_16
theorem wd953 : Cond.methodLink RL 90 yX7_hasHeir ∈ gw := gwt4 (List.mem_of_getElem? (i := 146) rfl) (by decide +kernel)
set_option maxRecDepth 100000 in
set_option maxHeartbeats 2000000 in
theorem sat_L_hasHeir (l : Launch) (hl : l.stackTraces = false) (p0 : Int32) (s : Mem) : SatW l yL_hasHeir (.codeWith yL_hasHeir cL_hasHeir 4 (some .int) [(0, 16, 19, 32)]) 33 565 (fun x => some (.int x)) [.ref 0, .int p0, .ref 9] s (wZ ["java/util/NoSuchElementException"] (m_X7_hasHeir p0 s)) := by
  refine satw_of (by decide) (Nat.le_of_ble_eq_true rfl) (fun X V A adV hxl hC hE ht hr => ?_) (mn_wZ (n_X7_hasHeir p0 s))
  subst hxl
  show LX X V A 33 565 (nC s) (nS s) _ 0 [(0, .ref 0), (1, .int p0), (2, .ref 9)] [] s _
  unfold wZ
  rw [show yL_hasHeir.cls = RL from rfl] at hC
  refine lx_aload_n hC dL_hasHeir_0 rfl 2 rfl ?_
  refine lx_iconstv (v := 0) hC dL_hasHeir_1 rfl ?_
  refine lx_aload_n hC dL_hasHeir_2 rfl 0 rfl ?_
  refine lx_iload_n hC dL_hasHeir_3 rfl 1 rfl ?_
  refine lx_callC hC (sat_X7_hasHeir (xl X) hl p0 s) (run_V (as := [.int p0]) (rest := [.int 0, .ref 9]) hC hE ly0 rfl cw_X7_hasHeir ci_X7_hasHeir wd953 cs_X7_hasHeir ce_X7_hasHeir cd_X7_hasHeir (by decide) (by decide) (Nat.le_of_ble_eq_true rfl) dL_hasHeir_4 rfl) (fun E σ1 u hE0 hu R H locs hid ls q ce h2 h3 h4 h5 g1 g2 g3 hc hv hcl => ?_) (fun v s1 _ => ?_)
  · by_cases e0 : "java/util/NoSuchElementException" = E
    · subst e0
      rw [cd, if_pos rfl] at hu
      cases hu
      exact w_hand hC hr hE (pre := []) (suf := []) (a := 0) (b := 16) (h := 19) (ct := 32) ht (n := 1) (fun z hz => absurd hz List.not_mem_nil) ⟨by decide, by decide⟩ (by decide) wlE32 wcE32 (Or.inl ⟨3, by decide, dL_hasHeir_19, dL_hasHeir_20, dL_hasHeir_21⟩) g1 g2 g3 hc hv hcl
    rw [cd, if_neg e0] at hu
    cases hu
  · refine lx_if_eq hC 14 dL_hasHeir_7 (by decide) ?_ ?_
    · refine lx_lconst (v := 0) hC dL_hasHeir_14 rfl ?_
      refine lx_lastore hC ly9 dL_hasHeir_15 (fun s2 => ?_)
      refine lx_goto hC 22 dL_hasHeir_16 (by decide) ?_
      refine lx_iconstv (v := 0) hC dL_hasHeir_22 rfl ?_
      exact lx_iretN hC rfl hr dL_hasHeir_23
    · refine lx_lconst (v := 1) hC dL_hasHeir_10 rfl ?_
      refine lx_goto hC 15 dL_hasHeir_11 (by decide) ?_
      refine lx_lastore hC ly9 dL_hasHeir_15 (fun s2 => ?_)
      refine lx_goto hC 22 dL_hasHeir_16 (by decide) ?_
      refine lx_iconstv (v := 0) hC dL_hasHeir_22 rfl ?_
      exact lx_iretN hC rfl hr dL_hasHeir_23
theorem wd960 : Cond.methodLink RL 93 yX7_heir ∈ gw := gwt4 (List.mem_of_getElem? (i := 153) rfl) (by decide +kernel)
set_option maxRecDepth 100000 in
set_option maxHeartbeats 2000000 in
theorem sat_L_heir (l : Launch) (hl : l.stackTraces = false) (p0 : Int32) (s : Mem) : SatW l yL_heir (.codeWith yL_heir cL_heir 4 (some .int) [(0, 9, 12, 32), (0, 9, 15, 15)]) 33 566 (fun x => some (.int x)) [.ref 0, .int p0, .ref 9] s (wI ["java/util/NoSuchElementException", "java/lang/IllegalStateException"] (m_X7_heir p0 s)) := by
  refine satw_of (by decide) (Nat.le_of_ble_eq_true rfl) (fun X V A adV hxl hC hE ht hr => ?_) (mn_wI (n_X7_heir p0 s))
  subst hxl
  show LX X V A 33 566 (nC s) (nS s) _ 0 [(0, .ref 0), (1, .int p0), (2, .ref 9)] [] s _
  unfold wI
  rw [show yL_heir.cls = RL from rfl] at hC
  refine lx_aload_n hC dL_heir_0 rfl 2 rfl ?_
  refine lx_iconstv (v := 0) hC dL_heir_1 rfl ?_
  refine lx_aload_n hC dL_heir_2 rfl 0 rfl ?_
  refine lx_iload_n hC dL_heir_3 rfl 1 rfl ?_
  refine lx_callC hC (sat_X7_heir (xl X) hl p0 s) (run_V (as := [.int p0]) (rest := [.int 0, .ref 9]) hC hE ly0 rfl cw_X7_heir ci_X7_heir wd960 cs_X7_heir ce_X7_heir cd_X7_heir (by decide) (by decide) (Nat.le_of_ble_eq_true rfl) dL_heir_4 rfl) (fun E σ1 u hE0 hu R H locs hid ls q ce h2 h3 h4 h5 g1 g2 g3 hc hv hcl => ?_) (fun v s1 _ => ?_)
  · by_cases e0 : "java/util/NoSuchElementException" = E
    · subst e0
      rw [cd, if_pos rfl] at hu
      cases hu
      exact w_hand hC hr hE (pre := []) (suf := [(0, 9, 15, 15)]) (a := 0) (b := 9) (h := 12) (ct := 32) ht (n := 1) (fun z hz => absurd hz List.not_mem_nil) ⟨by decide, by decide⟩ (by decide) wlE32 wcE32 (Or.inl ⟨3, by decide, dL_heir_12, dL_heir_13, dL_heir_14⟩) g1 g2 g3 hc hv hcl
    rw [cd, if_neg e0] at hu
    by_cases e1 : "java/lang/IllegalStateException" = E
    · subst e1
      rw [cd, if_pos rfl] at hu
      cases hu
      exact w_hand hC hr hE (pre := [(0, 9, 12, 32)]) (suf := []) (a := 0) (b := 9) (h := 15) (ct := 15) ht (n := 2) (List.forall_mem_cons.mpr ⟨⟨by decide, "java/util/NoSuchElementException", wlE32, ncsE _ _ (by simp) (by simp) (by decide)⟩, fun _ hz => absurd hz List.not_mem_nil⟩) ⟨by decide, by decide⟩ (by decide) wlE15 wcE15 (Or.inl ⟨3, by decide, dL_heir_15, dL_heir_16, dL_heir_17⟩) g1 g2 g3 hc hv hcl
    rw [cd, if_neg e1] at hu
    cases hu
  · refine lx_i2l hC dL_heir_7 ?_
    refine lx_lastore hC ly9 dL_heir_8 (fun s2 => ?_)
    refine lx_goto hC 18 dL_heir_9 (by decide) ?_
    refine lx_iconstv (v := 0) hC dL_heir_18 rfl ?_
    exact lx_iretN hC rfl hr dL_heir_19
theorem wd968 : Cond.methodLink RL 96 yX7_lastHeir ∈ gw := gwt4 (List.mem_of_getElem? (i := 161) rfl) (by decide +kernel)
set_option maxRecDepth 100000 in
set_option maxHeartbeats 2000000 in
theorem sat_L_lastHeir (l : Launch) (hl : l.stackTraces = false) (p0 : Int32) (s : Mem) : SatW l yL_lastHeir (.codeWith yL_lastHeir cL_lastHeir 4 (some .int) [(0, 9, 12, 32)]) 34 589 (fun x => some (.int x)) [.ref 0, .int p0, .ref 9] s (wI ["java/util/NoSuchElementException"] (m_X7_lastHeir p0 s)) := by
  refine satw_of (by decide) (Nat.le_of_ble_eq_true rfl) (fun X V A adV hxl hC hE ht hr => ?_) (mn_wI (n_X7_lastHeir p0 s))
  subst hxl
  show LX X V A 34 589 (nC s) (nS s) _ 0 [(0, .ref 0), (1, .int p0), (2, .ref 9)] [] s _
  unfold wI
  rw [show yL_lastHeir.cls = RL from rfl] at hC
  refine lx_aload_n hC dL_lastHeir_0 rfl 2 rfl ?_
  refine lx_iconstv (v := 0) hC dL_lastHeir_1 rfl ?_
  refine lx_aload_n hC dL_lastHeir_2 rfl 0 rfl ?_
  refine lx_iload_n hC dL_lastHeir_3 rfl 1 rfl ?_
  refine lx_callC hC (sat_X7_lastHeir (xl X) hl p0 s) (run_V (as := [.int p0]) (rest := [.int 0, .ref 9]) hC hE ly0 rfl cw_X7_lastHeir ci_X7_lastHeir wd968 cs_X7_lastHeir ce_X7_lastHeir cd_X7_lastHeir (by decide) (by decide) (Nat.le_of_ble_eq_true rfl) dL_lastHeir_4 rfl) (fun E σ1 u hE0 hu R H locs hid ls q ce h2 h3 h4 h5 g1 g2 g3 hc hv hcl => ?_) (fun v s1 _ => ?_)
  · by_cases e0 : "java/util/NoSuchElementException" = E
    · subst e0
      rw [cd, if_pos rfl] at hu
      cases hu
      exact w_hand hC hr hE (pre := []) (suf := []) (a := 0) (b := 9) (h := 12) (ct := 32) ht (n := 1) (fun z hz => absurd hz List.not_mem_nil) ⟨by decide, by decide⟩ (by decide) wlE32 wcE32 (Or.inl ⟨3, by decide, dL_lastHeir_12, dL_lastHeir_13, dL_lastHeir_14⟩) g1 g2 g3 hc hv hcl
    rw [cd, if_neg e0] at hu
    cases hu
  · refine lx_i2l hC dL_lastHeir_7 ?_
    refine lx_lastore hC ly9 dL_lastHeir_8 (fun s2 => ?_)
    refine lx_goto hC 15 dL_lastHeir_9 (by decide) ?_
    refine lx_iconstv (v := 0) hC dL_lastHeir_15 rfl ?_
    exact lx_iretN hC rfl hr dL_lastHeir_16
theorem wd975 : Cond.methodLink RL 99 yX7_lastHeirByDoubling ∈ gw := gwt4 (List.mem_of_getElem? (i := 168) rfl) (by decide +kernel)
set_option maxRecDepth 100000 in
set_option maxHeartbeats 2000000 in
theorem sat_L_lastHeirByDoubling (l : Launch) (hl : l.stackTraces = false) (p0 : Int32) (s : Mem) : SatW l yL_lastHeirByDoubling (.codeWith yL_lastHeirByDoubling cL_lastHeirByDoubling 4 (some .int) [(0, 9, 12, 32)]) 34 590 (fun x => some (.int x)) [.ref 0, .int p0, .ref 9] s (wI ["java/util/NoSuchElementException"] (m_X7_lastHeirByDoubling p0 s)) := by
  refine satw_of (by decide) (Nat.le_of_ble_eq_true rfl) (fun X V A adV hxl hC hE ht hr => ?_) (mn_wI (n_X7_lastHeirByDoubling p0 s))
  subst hxl
  show LX X V A 34 590 (nC s) (nS s) _ 0 [(0, .ref 0), (1, .int p0), (2, .ref 9)] [] s _
  unfold wI
  rw [show yL_lastHeirByDoubling.cls = RL from rfl] at hC
  refine lx_aload_n hC dL_lastHeirByDoubling_0 rfl 2 rfl ?_
  refine lx_iconstv (v := 0) hC dL_lastHeirByDoubling_1 rfl ?_
  refine lx_aload_n hC dL_lastHeirByDoubling_2 rfl 0 rfl ?_
  refine lx_iload_n hC dL_lastHeirByDoubling_3 rfl 1 rfl ?_
  refine lx_callC hC (sat_X7_lastHeirByDoubling (xl X) hl p0 s) (run_V (as := [.int p0]) (rest := [.int 0, .ref 9]) hC hE ly0 rfl cw_X7_lastHeirByDoubling ci_X7_lastHeirByDoubling wd975 cs_X7_lastHeirByDoubling ce_X7_lastHeirByDoubling cd_X7_lastHeirByDoubling (by decide) (by decide) (Nat.le_of_ble_eq_true rfl) dL_lastHeirByDoubling_4 rfl) (fun E σ1 u hE0 hu R H locs hid ls q ce h2 h3 h4 h5 g1 g2 g3 hc hv hcl => ?_) (fun v s1 _ => ?_)
  · by_cases e0 : "java/util/NoSuchElementException" = E
    · subst e0
      rw [cd, if_pos rfl] at hu
      cases hu
      exact w_hand hC hr hE (pre := []) (suf := []) (a := 0) (b := 9) (h := 12) (ct := 32) ht (n := 1) (fun z hz => absurd hz List.not_mem_nil) ⟨by decide, by decide⟩ (by decide) wlE32 wcE32 (Or.inl ⟨3, by decide, dL_lastHeirByDoubling_12, dL_lastHeirByDoubling_13, dL_lastHeirByDoubling_14⟩) g1 g2 g3 hc hv hcl
    rw [cd, if_neg e0] at hu
    cases hu
  · refine lx_i2l hC dL_lastHeirByDoubling_7 ?_
    refine lx_lastore hC ly9 dL_lastHeirByDoubling_8 (fun s2 => ?_)
    refine lx_goto hC 15 dL_lastHeirByDoubling_9 (by decide) ?_
    refine lx_iconstv (v := 0) hC dL_lastHeirByDoubling_15 rfl ?_
    exact lx_iretN hC rfl hr dL_lastHeirByDoubling_16
theorem wd982 : Cond.methodLink RL 102 yX7_stepsToLastHeir ∈ gw := gwt4 (List.mem_of_getElem? (i := 175) rfl) (by decide +kernel)
set_option maxRecDepth 100000 in
set_option maxHeartbeats 2000000 in
theorem sat_L_stepsToLastHeir (l : Launch) (hl : l.stackTraces = false) (p0 : Int32) (s : Mem) : SatW l yL_stepsToLastHeir (.codeWith yL_stepsToLastHeir cL_stepsToLastHeir 4 (some .int) [(0, 9, 12, 32)]) 34 587 (fun x => some (.int x)) [.ref 0, .int p0, .ref 9] s (wI ["java/util/NoSuchElementException"] (m_X7_stepsToLastHeir p0 s)) := by
  refine satw_of (by decide) (Nat.le_of_ble_eq_true rfl) (fun X V A adV hxl hC hE ht hr => ?_) (mn_wI (n_X7_stepsToLastHeir p0 s))
  subst hxl
  show LX X V A 34 587 (nC s) (nS s) _ 0 [(0, .ref 0), (1, .int p0), (2, .ref 9)] [] s _
  unfold wI
  rw [show yL_stepsToLastHeir.cls = RL from rfl] at hC
  refine lx_aload_n hC dL_stepsToLastHeir_0 rfl 2 rfl ?_
  refine lx_iconstv (v := 0) hC dL_stepsToLastHeir_1 rfl ?_
  refine lx_aload_n hC dL_stepsToLastHeir_2 rfl 0 rfl ?_
  refine lx_iload_n hC dL_stepsToLastHeir_3 rfl 1 rfl ?_
  refine lx_callC hC (sat_X7_stepsToLastHeir (xl X) hl p0 s) (run_V (as := [.int p0]) (rest := [.int 0, .ref 9]) hC hE ly0 rfl cw_X7_stepsToLastHeir ci_X7_stepsToLastHeir wd982 cs_X7_stepsToLastHeir ce_X7_stepsToLastHeir cd_X7_stepsToLastHeir (by decide) (by decide) (Nat.le_of_ble_eq_true rfl) dL_stepsToLastHeir_4 rfl) (fun E σ1 u hE0 hu R H locs hid ls q ce h2 h3 h4 h5 g1 g2 g3 hc hv hcl => ?_) (fun v s1 _ => ?_)
  · by_cases e0 : "java/util/NoSuchElementException" = E
    · subst e0
      rw [cd, if_pos rfl] at hu
      cases hu
      exact w_hand hC hr hE (pre := []) (suf := []) (a := 0) (b := 9) (h := 12) (ct := 32) ht (n := 1) (fun z hz => absurd hz List.not_mem_nil) ⟨by decide, by decide⟩ (by decide) wlE32 wcE32 (Or.inl ⟨3, by decide, dL_stepsToLastHeir_12, dL_stepsToLastHeir_13, dL_stepsToLastHeir_14⟩) g1 g2 g3 hc hv hcl
    rw [cd, if_neg e0] at hu
    cases hu
  · refine lx_i2l hC dL_stepsToLastHeir_7 ?_
    refine lx_lastore hC ly9 dL_stepsToLastHeir_8 (fun s2 => ?_)
    refine lx_goto hC 15 dL_stepsToLastHeir_9 (by decide) ?_
    refine lx_iconstv (v := 0) hC dL_stepsToLastHeir_15 rfl ?_
    exact lx_iretN hC rfl hr dL_stepsToLastHeir_16
theorem wd993 : Cond.methodLink RL 105 yX7_bequeathers ∈ gw := gwt4 (List.mem_of_getElem? (i := 186) rfl) (by decide +kernel)
set_option maxRecDepth 100000 in
set_option maxHeartbeats 2000000 in
theorem sat_L_bequeathers (l : Launch) (hl : l.stackTraces = false) (p0 : Int32) (s : Mem) : SatW l yL_bequeathers (.codeWith yL_bequeathers cL_bequeathers 4 (some .int) [(0, 9, 12, 32)]) 33 566 (fun x => some (.int x)) [.ref 0, .int p0, .ref 9] s (wI ["java/util/NoSuchElementException"] (m_X7_bequeathers p0 s)) := by
  refine satw_of (by decide) (Nat.le_of_ble_eq_true rfl) (fun X V A adV hxl hC hE ht hr => ?_) (mn_wI (n_X7_bequeathers p0 s))
  subst hxl
  show LX X V A 33 566 (nC s) (nS s) _ 0 [(0, .ref 0), (1, .int p0), (2, .ref 9)] [] s _
  unfold wI
  rw [show yL_bequeathers.cls = RL from rfl] at hC
  refine lx_aload_n hC dL_bequeathers_0 rfl 2 rfl ?_
  refine lx_iconstv (v := 0) hC dL_bequeathers_1 rfl ?_
  refine lx_aload_n hC dL_bequeathers_2 rfl 0 rfl ?_
  refine lx_iload_n hC dL_bequeathers_3 rfl 1 rfl ?_
  refine lx_callC hC (sat_X7_bequeathers (xl X) hl p0 s) (run_V (as := [.int p0]) (rest := [.int 0, .ref 9]) hC hE ly0 rfl cw_X7_bequeathers ci_X7_bequeathers wd993 cs_X7_bequeathers ce_X7_bequeathers cd_X7_bequeathers (by decide) (by decide) (Nat.le_of_ble_eq_true rfl) dL_bequeathers_4 rfl) (fun E σ1 u hE0 hu R H locs hid ls q ce h2 h3 h4 h5 g1 g2 g3 hc hv hcl => ?_) (fun v s1 _ => ?_)
  · by_cases e0 : "java/util/NoSuchElementException" = E
    · subst e0
      rw [cd, if_pos rfl] at hu
      cases hu
      exact w_hand hC hr hE (pre := []) (suf := []) (a := 0) (b := 9) (h := 12) (ct := 32) ht (n := 1) (fun z hz => absurd hz List.not_mem_nil) ⟨by decide, by decide⟩ (by decide) wlE32 wcE32 (Or.inl ⟨3, by decide, dL_bequeathers_12, dL_bequeathers_13, dL_bequeathers_14⟩) g1 g2 g3 hc hv hcl
    rw [cd, if_neg e0] at hu
    cases hu
  · refine lx_i2l hC dL_bequeathers_7 ?_
    refine lx_lastore hC ly9 dL_bequeathers_8 (fun s2 => ?_)
    refine lx_goto hC 15 dL_bequeathers_9 (by decide) ?_
    refine lx_iconstv (v := 0) hC dL_bequeathers_15 rfl ?_
    exact lx_iretN hC rfl hr dL_bequeathers_16
theorem wd1004 : Cond.methodLink RL 108 yX7_countInRows ∈ gw := gwt4 (List.mem_of_getElem? (i := 197) rfl) (by decide +kernel)
set_option maxRecDepth 100000 in
set_option maxHeartbeats 2000000 in
theorem sat_L_countInRows (l : Launch) (hl : l.stackTraces = false) (p0 p1 : Int32) (s : Mem) : SatW l yL_countInRows (.codeWith yL_countInRows cL_countInRows 5 (some .int) [(0, 10, 13, 21), (0, 10, 17, 13)]) 33 569 (fun x => some (.int x)) [.ref 0, .int p0, .int p1, .ref 9] s (wI ["java/lang/IndexOutOfBoundsException", "java/lang/IllegalArgumentException"] (m_X7_countInRows p0 p1 s)) := by
  refine satw_of (by decide) (Nat.le_of_ble_eq_true rfl) (fun X V A adV hxl hC hE ht hr => ?_) (mn_wI (n_X7_countInRows p0 p1 s))
  subst hxl
  show LX X V A 33 569 (nC s) (nS s) _ 0 [(0, .ref 0), (1, .int p0), (2, .int p1), (3, .ref 9)] [] s _
  unfold wI
  rw [show yL_countInRows.cls = RL from rfl] at hC
  refine lx_aload_n hC dL_countInRows_0 rfl 3 rfl ?_
  refine lx_iconstv (v := 0) hC dL_countInRows_1 rfl ?_
  refine lx_aload_n hC dL_countInRows_2 rfl 0 rfl ?_
  refine lx_iload_n hC dL_countInRows_3 rfl 1 rfl ?_
  refine lx_iload_n hC dL_countInRows_4 rfl 2 rfl ?_
  refine lx_callC hC (sat_X7_countInRows (xl X) hl p0 p1 s) (run_V (as := [.int p0, .int p1]) (rest := [.int 0, .ref 9]) hC hE ly0 rfl cw_X7_countInRows ci_X7_countInRows wd1004 cs_X7_countInRows ce_X7_countInRows cd_X7_countInRows (by decide) (by decide) (Nat.le_of_ble_eq_true rfl) dL_countInRows_5 rfl) (fun E σ1 u hE0 hu R H locs hid ls q ce h2 h3 h4 h5 g1 g2 g3 hc hv hcl => ?_) (fun v s1 _ => ?_)
  · by_cases e0 : "java/lang/IndexOutOfBoundsException" = E
    · subst e0
      rw [cd, if_pos rfl] at hu
      cases hu
      exact w_hand hC hr hE (pre := []) (suf := [(0, 10, 17, 13)]) (a := 0) (b := 10) (h := 13) (ct := 21) ht (n := 1) (fun z hz => absurd hz List.not_mem_nil) ⟨by decide, by decide⟩ (by decide) wlE21 wcE21 (Or.inr ⟨4, by decide, dL_countInRows_13, dL_countInRows_15, dL_countInRows_16⟩) g1 g2 g3 hc hv hcl
    rw [cd, if_neg e0] at hu
    by_cases e1 : "java/lang/IllegalArgumentException" = E
    · subst e1
      rw [cd, if_pos rfl] at hu
      cases hu
      exact w_hand hC hr hE (pre := [(0, 10, 13, 21)]) (suf := []) (a := 0) (b := 10) (h := 17) (ct := 13) ht (n := 2) (List.forall_mem_cons.mpr ⟨⟨by decide, "java/lang/IndexOutOfBoundsException", wlE21, ncsE _ _ (by simp) (by simp) (by decide)⟩, fun _ hz => absurd hz List.not_mem_nil⟩) ⟨by decide, by decide⟩ (by decide) wlE13 wcE13 (Or.inr ⟨4, by decide, dL_countInRows_17, dL_countInRows_19, dL_countInRows_20⟩) g1 g2 g3 hc hv hcl
    rw [cd, if_neg e1] at hu
    cases hu
  · refine lx_i2l hC dL_countInRows_8 ?_
    refine lx_lastore hC ly9 dL_countInRows_9 (fun s2 => ?_)
    refine lx_goto hC 21 dL_countInRows_10 (by decide) ?_
    refine lx_iconstv (v := 0) hC dL_countInRows_21 rfl ?_
    exact lx_iretN hC rfl hr dL_countInRows_22
theorem wd1016 : Cond.methodLink RL 111 yX7_countInRowsByTree ∈ gw := gwt4 (List.mem_of_getElem? (i := 209) rfl) (by decide +kernel)
set_option maxRecDepth 100000 in
set_option maxHeartbeats 2000000 in
theorem sat_L_countInRowsByTree (l : Launch) (hl : l.stackTraces = false) (p0 p1 : Int32) (s : Mem) : SatW l yL_countInRowsByTree (.codeWith yL_countInRowsByTree cL_countInRowsByTree 5 (some .int) [(0, 10, 13, 21), (0, 10, 17, 13)]) 33 567 (fun x => some (.int x)) [.ref 0, .int p0, .int p1, .ref 9] s (wI ["java/lang/IndexOutOfBoundsException", "java/lang/IllegalArgumentException"] (m_X7_countInRowsByTree p0 p1 s)) := by
  refine satw_of (by decide) (Nat.le_of_ble_eq_true rfl) (fun X V A adV hxl hC hE ht hr => ?_) (mn_wI (n_X7_countInRowsByTree p0 p1 s))
  subst hxl
  show LX X V A 33 567 (nC s) (nS s) _ 0 [(0, .ref 0), (1, .int p0), (2, .int p1), (3, .ref 9)] [] s _
  unfold wI
  rw [show yL_countInRowsByTree.cls = RL from rfl] at hC
  refine lx_aload_n hC dL_countInRowsByTree_0 rfl 3 rfl ?_
  refine lx_iconstv (v := 0) hC dL_countInRowsByTree_1 rfl ?_
  refine lx_aload_n hC dL_countInRowsByTree_2 rfl 0 rfl ?_
  refine lx_iload_n hC dL_countInRowsByTree_3 rfl 1 rfl ?_
  refine lx_iload_n hC dL_countInRowsByTree_4 rfl 2 rfl ?_
  refine lx_callC hC (sat_X7_countInRowsByTree (xl X) hl p0 p1 s) (run_V (as := [.int p0, .int p1]) (rest := [.int 0, .ref 9]) hC hE ly0 rfl cw_X7_countInRowsByTree ci_X7_countInRowsByTree wd1016 cs_X7_countInRowsByTree ce_X7_countInRowsByTree cd_X7_countInRowsByTree (by decide) (by decide) (Nat.le_of_ble_eq_true rfl) dL_countInRowsByTree_5 rfl) (fun E σ1 u hE0 hu R H locs hid ls q ce h2 h3 h4 h5 g1 g2 g3 hc hv hcl => ?_) (fun v s1 _ => ?_)
  · by_cases e0 : "java/lang/IndexOutOfBoundsException" = E
    · subst e0
      rw [cd, if_pos rfl] at hu
      cases hu
      exact w_hand hC hr hE (pre := []) (suf := [(0, 10, 17, 13)]) (a := 0) (b := 10) (h := 13) (ct := 21) ht (n := 1) (fun z hz => absurd hz List.not_mem_nil) ⟨by decide, by decide⟩ (by decide) wlE21 wcE21 (Or.inr ⟨4, by decide, dL_countInRowsByTree_13, dL_countInRowsByTree_15, dL_countInRowsByTree_16⟩) g1 g2 g3 hc hv hcl
    rw [cd, if_neg e0] at hu
    by_cases e1 : "java/lang/IllegalArgumentException" = E
    · subst e1
      rw [cd, if_pos rfl] at hu
      cases hu
      exact w_hand hC hr hE (pre := [(0, 10, 13, 21)]) (suf := []) (a := 0) (b := 10) (h := 17) (ct := 13) ht (n := 2) (List.forall_mem_cons.mpr ⟨⟨by decide, "java/lang/IndexOutOfBoundsException", wlE21, ncsE _ _ (by simp) (by simp) (by decide)⟩, fun _ hz => absurd hz List.not_mem_nil⟩) ⟨by decide, by decide⟩ (by decide) wlE13 wcE13 (Or.inr ⟨4, by decide, dL_countInRowsByTree_17, dL_countInRowsByTree_19, dL_countInRowsByTree_20⟩) g1 g2 g3 hc hv hcl
    rw [cd, if_neg e1] at hu
    cases hu
  · refine lx_i2l hC dL_countInRowsByTree_8 ?_
    refine lx_lastore hC ly9 dL_countInRowsByTree_9 (fun s2 => ?_)
    refine lx_goto hC 21 dL_countInRowsByTree_10 (by decide) ?_
    refine lx_iconstv (v := 0) hC dL_countInRowsByTree_21 rfl ?_
    exact lx_iretN hC rfl hr dL_countInRowsByTree_22
theorem wd1023 : Cond.methodLink RL 114 yX7_idByRank ∈ gw := gwt4 (List.mem_of_getElem? (i := 216) rfl) (by decide +kernel)
set_option maxRecDepth 100000 in
set_option maxHeartbeats 2000000 in
theorem sat_L_idByRank (l : Launch) (hl : l.stackTraces = false) (p0 : Int32) (s : Mem) : SatW l yL_idByRank (.codeWith yL_idByRank cL_idByRank 4 (some .int) [(0, 9, 12, 32)]) 33 569 (fun x => some (.int x)) [.ref 0, .int p0, .ref 9] s (wI ["java/util/NoSuchElementException"] (m_X7_idByRank p0 s)) := by
  refine satw_of (by decide) (Nat.le_of_ble_eq_true rfl) (fun X V A adV hxl hC hE ht hr => ?_) (mn_wI (n_X7_idByRank p0 s))
  subst hxl
  show LX X V A 33 569 (nC s) (nS s) _ 0 [(0, .ref 0), (1, .int p0), (2, .ref 9)] [] s _
  unfold wI
  rw [show yL_idByRank.cls = RL from rfl] at hC
  refine lx_aload_n hC dL_idByRank_0 rfl 2 rfl ?_
  refine lx_iconstv (v := 0) hC dL_idByRank_1 rfl ?_
  refine lx_aload_n hC dL_idByRank_2 rfl 0 rfl ?_
  refine lx_iload_n hC dL_idByRank_3 rfl 1 rfl ?_
  refine lx_callC hC (sat_X7_idByRank (xl X) hl p0 s) (run_V (as := [.int p0]) (rest := [.int 0, .ref 9]) hC hE ly0 rfl cw_X7_idByRank ci_X7_idByRank wd1023 cs_X7_idByRank ce_X7_idByRank cd_X7_idByRank (by decide) (by decide) (Nat.le_of_ble_eq_true rfl) dL_idByRank_4 rfl) (fun E σ1 u hE0 hu R H locs hid ls q ce h2 h3 h4 h5 g1 g2 g3 hc hv hcl => ?_) (fun v s1 _ => ?_)
  · by_cases e0 : "java/util/NoSuchElementException" = E
    · subst e0
      rw [cd, if_pos rfl] at hu
      cases hu
      exact w_hand hC hr hE (pre := []) (suf := []) (a := 0) (b := 9) (h := 12) (ct := 32) ht (n := 1) (fun z hz => absurd hz List.not_mem_nil) ⟨by decide, by decide⟩ (by decide) wlE32 wcE32 (Or.inl ⟨3, by decide, dL_idByRank_12, dL_idByRank_13, dL_idByRank_14⟩) g1 g2 g3 hc hv hcl
    rw [cd, if_neg e0] at hu
    cases hu
  · refine lx_i2l hC dL_idByRank_7 ?_
    refine lx_lastore hC ly9 dL_idByRank_8 (fun s2 => ?_)
    refine lx_goto hC 15 dL_idByRank_9 (by decide) ?_
    refine lx_iconstv (v := 0) hC dL_idByRank_15 rfl ?_
    exact lx_iretN hC rfl hr dL_idByRank_16
theorem wd1035 : Cond.methodLink RL 117 yX7_idByRankByTree ∈ gw := gwt4 (List.mem_of_getElem? (i := 228) rfl) (by decide +kernel)
set_option maxRecDepth 100000 in
set_option maxHeartbeats 2000000 in
theorem sat_L_idByRankByTree (l : Launch) (hl : l.stackTraces = false) (p0 : Int32) (s : Mem) : SatW l yL_idByRankByTree (.codeWith yL_idByRankByTree cL_idByRankByTree 4 (some .int) [(0, 9, 12, 32)]) 33 570 (fun x => some (.int x)) [.ref 0, .int p0, .ref 9] s (wI ["java/util/NoSuchElementException"] (m_X7_idByRankByTree p0 s)) := by
  refine satw_of (by decide) (Nat.le_of_ble_eq_true rfl) (fun X V A adV hxl hC hE ht hr => ?_) (mn_wI (n_X7_idByRankByTree p0 s))
  subst hxl
  show LX X V A 33 570 (nC s) (nS s) _ 0 [(0, .ref 0), (1, .int p0), (2, .ref 9)] [] s _
  unfold wI
  rw [show yL_idByRankByTree.cls = RL from rfl] at hC
  refine lx_aload_n hC dL_idByRankByTree_0 rfl 2 rfl ?_
  refine lx_iconstv (v := 0) hC dL_idByRankByTree_1 rfl ?_
  refine lx_aload_n hC dL_idByRankByTree_2 rfl 0 rfl ?_
  refine lx_iload_n hC dL_idByRankByTree_3 rfl 1 rfl ?_
  refine lx_callC hC (sat_X7_idByRankByTree (xl X) hl p0 s) (run_V (as := [.int p0]) (rest := [.int 0, .ref 9]) hC hE ly0 rfl cw_X7_idByRankByTree ci_X7_idByRankByTree wd1035 cs_X7_idByRankByTree ce_X7_idByRankByTree cd_X7_idByRankByTree (by decide) (by decide) (Nat.le_of_ble_eq_true rfl) dL_idByRankByTree_4 rfl) (fun E σ1 u hE0 hu R H locs hid ls q ce h2 h3 h4 h5 g1 g2 g3 hc hv hcl => ?_) (fun v s1 _ => ?_)
  · by_cases e0 : "java/util/NoSuchElementException" = E
    · subst e0
      rw [cd, if_pos rfl] at hu
      cases hu
      exact w_hand hC hr hE (pre := []) (suf := []) (a := 0) (b := 9) (h := 12) (ct := 32) ht (n := 1) (fun z hz => absurd hz List.not_mem_nil) ⟨by decide, by decide⟩ (by decide) wlE32 wcE32 (Or.inl ⟨3, by decide, dL_idByRankByTree_12, dL_idByRankByTree_13, dL_idByRankByTree_14⟩) g1 g2 g3 hc hv hcl
    rw [cd, if_neg e0] at hu
    cases hu
  · refine lx_i2l hC dL_idByRankByTree_7 ?_
    refine lx_lastore hC ly9 dL_idByRankByTree_8 (fun s2 => ?_)
    refine lx_goto hC 15 dL_idByRankByTree_9 (by decide) ?_
    refine lx_iconstv (v := 0) hC dL_idByRankByTree_15 rfl ?_
    exact lx_iretN hC rfl hr dL_idByRankByTree_16
theorem wd1042 : Cond.methodLink RL 120 yX7_rank ∈ gw := gwt4 (List.mem_of_getElem? (i := 235) rfl) (by decide +kernel)
set_option maxRecDepth 100000 in
set_option maxHeartbeats 2000000 in
theorem sat_L_rank (l : Launch) (hl : l.stackTraces = false) (p0 : Int32) (s : Mem) : SatW l yL_rank (.codeWith yL_rank cL_rank 4 (some .int) [(0, 9, 12, 32)]) 34 589 (fun x => some (.int x)) [.ref 0, .int p0, .ref 9] s (wI ["java/util/NoSuchElementException"] (m_X7_rank p0 s)) := by
  refine satw_of (by decide) (Nat.le_of_ble_eq_true rfl) (fun X V A adV hxl hC hE ht hr => ?_) (mn_wI (n_X7_rank p0 s))
  subst hxl
  show LX X V A 34 589 (nC s) (nS s) _ 0 [(0, .ref 0), (1, .int p0), (2, .ref 9)] [] s _
  unfold wI
  rw [show yL_rank.cls = RL from rfl] at hC
  refine lx_aload_n hC dL_rank_0 rfl 2 rfl ?_
  refine lx_iconstv (v := 0) hC dL_rank_1 rfl ?_
  refine lx_aload_n hC dL_rank_2 rfl 0 rfl ?_
  refine lx_iload_n hC dL_rank_3 rfl 1 rfl ?_
  refine lx_callC hC (sat_X7_rank (xl X) hl p0 s) (run_V (as := [.int p0]) (rest := [.int 0, .ref 9]) hC hE ly0 rfl cw_X7_rank ci_X7_rank wd1042 cs_X7_rank ce_X7_rank cd_X7_rank (by decide) (by decide) (Nat.le_of_ble_eq_true rfl) dL_rank_4 rfl) (fun E σ1 u hE0 hu R H locs hid ls q ce h2 h3 h4 h5 g1 g2 g3 hc hv hcl => ?_) (fun v s1 _ => ?_)
  · by_cases e0 : "java/util/NoSuchElementException" = E
    · subst e0
      rw [cd, if_pos rfl] at hu
      cases hu
      exact w_hand hC hr hE (pre := []) (suf := []) (a := 0) (b := 9) (h := 12) (ct := 32) ht (n := 1) (fun z hz => absurd hz List.not_mem_nil) ⟨by decide, by decide⟩ (by decide) wlE32 wcE32 (Or.inl ⟨3, by decide, dL_rank_12, dL_rank_13, dL_rank_14⟩) g1 g2 g3 hc hv hcl
    rw [cd, if_neg e0] at hu
    cases hu
  · refine lx_i2l hC dL_rank_7 ?_
    refine lx_lastore hC ly9 dL_rank_8 (fun s2 => ?_)
    refine lx_goto hC 15 dL_rank_9 (by decide) ?_
    refine lx_iconstv (v := 0) hC dL_rank_15 rfl ?_
    exact lx_iretN hC rfl hr dL_rank_16
theorem wd1055 : Cond.methodLink RL 123 yX7_loudest ∈ gw := gwt5 (List.mem_of_getElem? (i := 8) rfl) (by decide +kernel)
set_option maxRecDepth 100000 in
set_option maxHeartbeats 2000000 in
theorem sat_L_loudest (l : Launch) (hl : l.stackTraces = false) (s : Mem) : SatW l yL_loudest (.codeWith yL_loudest cL_loudest 3 (some .int) [(0, 8, 11, 32)]) 32 548 (fun x => some (.int x)) [.ref 0, .ref 9] s (wI ["java/util/NoSuchElementException"] (m_X7_loudest s)) := by
  refine satw_of (by decide) (Nat.le_of_ble_eq_true rfl) (fun X V A adV hxl hC hE ht hr => ?_) (mn_wI (n_X7_loudest s))
  subst hxl
  show LX X V A 32 548 (nC s) (nS s) _ 0 [(0, .ref 0), (1, .ref 9)] [] s _
  unfold wI
  rw [show yL_loudest.cls = RL from rfl] at hC
  refine lx_aload_n hC dL_loudest_0 rfl 1 rfl ?_
  refine lx_iconstv (v := 0) hC dL_loudest_1 rfl ?_
  refine lx_aload_n hC dL_loudest_2 rfl 0 rfl ?_
  refine lx_callC hC (sat_X7_loudest (xl X) hl s) (run_V (as := []) (rest := [.int 0, .ref 9]) hC hE ly0 rfl cw_X7_loudest ci_X7_loudest wd1055 cs_X7_loudest ce_X7_loudest cd_X7_loudest (by decide) (by decide) (Nat.le_of_ble_eq_true rfl) dL_loudest_3 rfl) (fun E σ1 u hE0 hu R H locs hid ls q ce h2 h3 h4 h5 g1 g2 g3 hc hv hcl => ?_) (fun v s1 _ => ?_)
  · by_cases e0 : "java/util/NoSuchElementException" = E
    · subst e0
      rw [cd, if_pos rfl] at hu
      cases hu
      exact w_hand hC hr hE (pre := []) (suf := []) (a := 0) (b := 8) (h := 11) (ct := 32) ht (n := 1) (fun z hz => absurd hz List.not_mem_nil) ⟨by decide, by decide⟩ (by decide) wlE32 wcE32 (Or.inl ⟨2, by decide, dL_loudest_11, dL_loudest_12, dL_loudest_13⟩) g1 g2 g3 hc hv hcl
    rw [cd, if_neg e0] at hu
    cases hu
  · refine lx_i2l hC dL_loudest_6 ?_
    refine lx_lastore hC ly9 dL_loudest_7 (fun s2 => ?_)
    refine lx_goto hC 14 dL_loudest_8 (by decide) ?_
    refine lx_iconstv (v := 0) hC dL_loudest_14 rfl ?_
    exact lx_iretN hC rfl hr dL_loudest_15
theorem wd1064 : Cond.methodLink RL 127 yX7_quietestRow ∈ gw := gwt5 (List.mem_of_getElem? (i := 17) rfl) (by decide +kernel)
set_option maxRecDepth 100000 in
set_option maxHeartbeats 2000000 in
theorem sat_L_quietestRow (l : Launch) (hl : l.stackTraces = false) (s : Mem) : SatW l yL_quietestRow (.codeWith yL_quietestRow cL_quietestRow 3 (some .int) [(0, 8, 11, 32)]) 33 568 (fun x => some (.int x)) [.ref 0, .ref 9] s (wI ["java/util/NoSuchElementException"] (m_X7_quietestRow s)) := by
  refine satw_of (by decide) (Nat.le_of_ble_eq_true rfl) (fun X V A adV hxl hC hE ht hr => ?_) (mn_wI (n_X7_quietestRow s))
  subst hxl
  show LX X V A 33 568 (nC s) (nS s) _ 0 [(0, .ref 0), (1, .ref 9)] [] s _
  unfold wI
  rw [show yL_quietestRow.cls = RL from rfl] at hC
  refine lx_aload_n hC dL_quietestRow_0 rfl 1 rfl ?_
  refine lx_iconstv (v := 0) hC dL_quietestRow_1 rfl ?_
  refine lx_aload_n hC dL_quietestRow_2 rfl 0 rfl ?_
  refine lx_callC hC (sat_X7_quietestRow (xl X) hl s) (run_V (as := []) (rest := [.int 0, .ref 9]) hC hE ly0 rfl cw_X7_quietestRow ci_X7_quietestRow wd1064 cs_X7_quietestRow ce_X7_quietestRow cd_X7_quietestRow (by decide) (by decide) (Nat.le_of_ble_eq_true rfl) dL_quietestRow_3 rfl) (fun E σ1 u hE0 hu R H locs hid ls q ce h2 h3 h4 h5 g1 g2 g3 hc hv hcl => ?_) (fun v s1 _ => ?_)
  · by_cases e0 : "java/util/NoSuchElementException" = E
    · subst e0
      rw [cd, if_pos rfl] at hu
      cases hu
      exact w_hand hC hr hE (pre := []) (suf := []) (a := 0) (b := 8) (h := 11) (ct := 32) ht (n := 1) (fun z hz => absurd hz List.not_mem_nil) ⟨by decide, by decide⟩ (by decide) wlE32 wcE32 (Or.inl ⟨2, by decide, dL_quietestRow_11, dL_quietestRow_12, dL_quietestRow_13⟩) g1 g2 g3 hc hv hcl
    rw [cd, if_neg e0] at hu
    cases hu
  · refine lx_i2l hC dL_quietestRow_6 ?_
    refine lx_lastore hC ly9 dL_quietestRow_7 (fun s2 => ?_)
    refine lx_goto hC 14 dL_quietestRow_8 (by decide) ?_
    refine lx_iconstv (v := 0) hC dL_quietestRow_14 rfl ?_
    exact lx_iretN hC rfl hr dL_quietestRow_15
theorem wd1077 : Cond.methodLink RL 130 yX7_isNamed ∈ gw := gwt5 (List.mem_of_getElem? (i := 30) rfl) (by decide +kernel)
set_option maxRecDepth 100000 in
set_option maxHeartbeats 2000000 in
theorem sat_L_isNamed (l : Launch) (hl : l.stackTraces = false) (p0 : Int32) (s : Mem) : SatW l yL_isNamed (.codeWith yL_isNamed cL_isNamed 4 (some .int) [(0, 16, 19, 13)]) 33 562 (fun x => some (.int x)) [.ref 0, .int p0, .ref 9] s (wZ ["java/lang/IllegalArgumentException"] (m_X7_isNamed p0 s)) := by
  refine satw_of (by decide) (Nat.le_of_ble_eq_true rfl) (fun X V A adV hxl hC hE ht hr => ?_) (mn_wZ (n_X7_isNamed p0 s))
  subst hxl
  show LX X V A 33 562 (nC s) (nS s) _ 0 [(0, .ref 0), (1, .int p0), (2, .ref 9)] [] s _
  unfold wZ
  rw [show yL_isNamed.cls = RL from rfl] at hC
  refine lx_aload_n hC dL_isNamed_0 rfl 2 rfl ?_
  refine lx_iconstv (v := 0) hC dL_isNamed_1 rfl ?_
  refine lx_aload_n hC dL_isNamed_2 rfl 0 rfl ?_
  refine lx_iload_n hC dL_isNamed_3 rfl 1 rfl ?_
  refine lx_callC hC (sat_X7_isNamed (xl X) hl p0 s) (run_V (as := [.int p0]) (rest := [.int 0, .ref 9]) hC hE ly0 rfl cw_X7_isNamed ci_X7_isNamed wd1077 cs_X7_isNamed ce_X7_isNamed cd_X7_isNamed (by decide) (by decide) (Nat.le_of_ble_eq_true rfl) dL_isNamed_4 rfl) (fun E σ1 u hE0 hu R H locs hid ls q ce h2 h3 h4 h5 g1 g2 g3 hc hv hcl => ?_) (fun v s1 _ => ?_)
  · by_cases e0 : "java/lang/IllegalArgumentException" = E
    · subst e0
      rw [cd, if_pos rfl] at hu
      cases hu
      exact w_hand hC hr hE (pre := []) (suf := []) (a := 0) (b := 16) (h := 19) (ct := 13) ht (n := 1) (fun z hz => absurd hz List.not_mem_nil) ⟨by decide, by decide⟩ (by decide) wlE13 wcE13 (Or.inl ⟨3, by decide, dL_isNamed_19, dL_isNamed_20, dL_isNamed_21⟩) g1 g2 g3 hc hv hcl
    rw [cd, if_neg e0] at hu
    cases hu
  · refine lx_if_eq hC 14 dL_isNamed_7 (by decide) ?_ ?_
    · refine lx_lconst (v := 0) hC dL_isNamed_14 rfl ?_
      refine lx_lastore hC ly9 dL_isNamed_15 (fun s2 => ?_)
      refine lx_goto hC 22 dL_isNamed_16 (by decide) ?_
      refine lx_iconstv (v := 0) hC dL_isNamed_22 rfl ?_
      exact lx_iretN hC rfl hr dL_isNamed_23
    · refine lx_lconst (v := 1) hC dL_isNamed_10 rfl ?_
      refine lx_goto hC 15 dL_isNamed_11 (by decide) ?_
      refine lx_lastore hC ly9 dL_isNamed_15 (fun s2 => ?_)
      refine lx_goto hC 22 dL_isNamed_16 (by decide) ?_
      refine lx_iconstv (v := 0) hC dL_isNamed_22 rfl ?_
      exact lx_iretN hC rfl hr dL_isNamed_23
theorem wd1090 : Cond.methodLink RL 134 yX7_namedRow ∈ gw := gwt5 (List.mem_of_getElem? (i := 43) rfl) (by decide +kernel)
set_option maxRecDepth 100000 in
set_option maxHeartbeats 2000000 in
theorem sat_L_namedRow (l : Launch) (hl : l.stackTraces = false) (p0 : Int32) (s : Mem) : SatW l yL_namedRow (.codeWith yL_namedRow cL_namedRow 4 (some .int) [(0, 9, 12, 13), (0, 9, 15, 32)]) 33 563 (fun x => some (.int x)) [.ref 0, .int p0, .ref 9] s (wI ["java/lang/IllegalArgumentException", "java/util/NoSuchElementException"] (m_X7_namedRow p0 s)) := by
  refine satw_of (by decide) (Nat.le_of_ble_eq_true rfl) (fun X V A adV hxl hC hE ht hr => ?_) (mn_wI (n_X7_namedRow p0 s))
  subst hxl
  show LX X V A 33 563 (nC s) (nS s) _ 0 [(0, .ref 0), (1, .int p0), (2, .ref 9)] [] s _
  unfold wI
  rw [show yL_namedRow.cls = RL from rfl] at hC
  refine lx_aload_n hC dL_namedRow_0 rfl 2 rfl ?_
  refine lx_iconstv (v := 0) hC dL_namedRow_1 rfl ?_
  refine lx_aload_n hC dL_namedRow_2 rfl 0 rfl ?_
  refine lx_iload_n hC dL_namedRow_3 rfl 1 rfl ?_
  refine lx_callC hC (sat_X7_namedRow (xl X) hl p0 s) (run_V (as := [.int p0]) (rest := [.int 0, .ref 9]) hC hE ly0 rfl cw_X7_namedRow ci_X7_namedRow wd1090 cs_X7_namedRow ce_X7_namedRow cd_X7_namedRow (by decide) (by decide) (Nat.le_of_ble_eq_true rfl) dL_namedRow_4 rfl) (fun E σ1 u hE0 hu R H locs hid ls q ce h2 h3 h4 h5 g1 g2 g3 hc hv hcl => ?_) (fun v s1 _ => ?_)
  · by_cases e0 : "java/lang/IllegalArgumentException" = E
    · subst e0
      rw [cd, if_pos rfl] at hu
      cases hu
      exact w_hand hC hr hE (pre := []) (suf := [(0, 9, 15, 32)]) (a := 0) (b := 9) (h := 12) (ct := 13) ht (n := 1) (fun z hz => absurd hz List.not_mem_nil) ⟨by decide, by decide⟩ (by decide) wlE13 wcE13 (Or.inl ⟨3, by decide, dL_namedRow_12, dL_namedRow_13, dL_namedRow_14⟩) g1 g2 g3 hc hv hcl
    rw [cd, if_neg e0] at hu
    by_cases e1 : "java/util/NoSuchElementException" = E
    · subst e1
      rw [cd, if_pos rfl] at hu
      cases hu
      exact w_hand hC hr hE (pre := [(0, 9, 12, 13)]) (suf := []) (a := 0) (b := 9) (h := 15) (ct := 32) ht (n := 2) (List.forall_mem_cons.mpr ⟨⟨by decide, "java/lang/IllegalArgumentException", wlE13, ncsE _ _ (by simp) (by simp) (by decide)⟩, fun _ hz => absurd hz List.not_mem_nil⟩) ⟨by decide, by decide⟩ (by decide) wlE32 wcE32 (Or.inl ⟨3, by decide, dL_namedRow_15, dL_namedRow_16, dL_namedRow_17⟩) g1 g2 g3 hc hv hcl
    rw [cd, if_neg e1] at hu
    cases hu
  · refine lx_i2l hC dL_namedRow_7 ?_
    refine lx_lastore hC ly9 dL_namedRow_8 (fun s2 => ?_)
    refine lx_goto hC 18 dL_namedRow_9 (by decide) ?_
    refine lx_iconstv (v := 0) hC dL_namedRow_18 rfl ?_
    exact lx_iretN hC rfl hr dL_namedRow_19
theorem wd1098 : Cond.methodLink RL 138 yX7_boxCount ∈ gw := gwt5 (List.mem_of_getElem? (i := 51) rfl) (by decide +kernel)
set_option maxRecDepth 100000 in
set_option maxHeartbeats 2000000 in
theorem sat_L_boxCount (l : Launch) (hl : l.stackTraces = false) (p0 : Int32) (s : Mem) : SatW l yL_boxCount (.codeWith yL_boxCount cL_boxCount 4 (some .int) [(0, 9, 12, 21)]) 33 564 (fun x => some (.int x)) [.ref 0, .int p0, .ref 9] s (wI ["java/lang/IndexOutOfBoundsException"] (m_X7_boxCount p0 s)) := by
  refine satw_of (by decide) (Nat.le_of_ble_eq_true rfl) (fun X V A adV hxl hC hE ht hr => ?_) (mn_wI (n_X7_boxCount p0 s))
  subst hxl
  show LX X V A 33 564 (nC s) (nS s) _ 0 [(0, .ref 0), (1, .int p0), (2, .ref 9)] [] s _
  unfold wI
  rw [show yL_boxCount.cls = RL from rfl] at hC
  refine lx_aload_n hC dL_boxCount_0 rfl 2 rfl ?_
  refine lx_iconstv (v := 0) hC dL_boxCount_1 rfl ?_
  refine lx_aload_n hC dL_boxCount_2 rfl 0 rfl ?_
  refine lx_iload_n hC dL_boxCount_3 rfl 1 rfl ?_
  refine lx_callC hC (sat_X7_boxCount (xl X) hl p0 s) (run_V (as := [.int p0]) (rest := [.int 0, .ref 9]) hC hE ly0 rfl cw_X7_boxCount ci_X7_boxCount wd1098 cs_X7_boxCount ce_X7_boxCount cd_X7_boxCount (by decide) (by decide) (Nat.le_of_ble_eq_true rfl) dL_boxCount_4 rfl) (fun E σ1 u hE0 hu R H locs hid ls q ce h2 h3 h4 h5 g1 g2 g3 hc hv hcl => ?_) (fun v s1 _ => ?_)
  · by_cases e0 : "java/lang/IndexOutOfBoundsException" = E
    · subst e0
      rw [cd, if_pos rfl] at hu
      cases hu
      exact w_hand hC hr hE (pre := []) (suf := []) (a := 0) (b := 9) (h := 12) (ct := 21) ht (n := 1) (fun z hz => absurd hz List.not_mem_nil) ⟨by decide, by decide⟩ (by decide) wlE21 wcE21 (Or.inl ⟨3, by decide, dL_boxCount_12, dL_boxCount_13, dL_boxCount_14⟩) g1 g2 g3 hc hv hcl
    rw [cd, if_neg e0] at hu
    cases hu
  · refine lx_i2l hC dL_boxCount_7 ?_
    refine lx_lastore hC ly9 dL_boxCount_8 (fun s2 => ?_)
    refine lx_goto hC 15 dL_boxCount_9 (by decide) ?_
    refine lx_iconstv (v := 0) hC dL_boxCount_15 rfl ?_
    exact lx_iretN hC rfl hr dL_boxCount_16
theorem wd1123 : Cond.methodLink RL 141 yX7_meanOccupancy ∈ gw := gwt5 (List.mem_of_getElem? (i := 76) rfl) (by decide +kernel)
set_option maxRecDepth 100000 in
set_option maxHeartbeats 2000000 in
theorem sat_L_meanOccupancy (l : Launch) (hl : l.stackTraces = false) (s : Mem) : SatW l yL_meanOccupancy (.codeWith yL_meanOccupancy cL_meanOccupancy 3 (some .int) [(0, 7, 10, 145)]) 32 541 (fun x => some (.int x)) [.ref 0, .ref 10] s (wD ["java/lang/ArithmeticException"] (m_X7_meanOccupancy s)) := by
  refine satw_of (by decide) (Nat.le_of_ble_eq_true rfl) (fun X V A adV hxl hC hE ht hr => ?_) (mn_wD (n_X7_meanOccupancy s))
  subst hxl
  show LX X V A 32 541 (nC s) (nS s) _ 0 [(0, .ref 0), (1, .ref 10)] [] s _
  unfold wD
  rw [show yL_meanOccupancy.cls = RL from rfl] at hC
  refine lx_aload_n hC dL_meanOccupancy_0 rfl 1 rfl ?_
  refine lx_iconstv (v := 0) hC dL_meanOccupancy_1 rfl ?_
  refine lx_aload_n hC dL_meanOccupancy_2 rfl 0 rfl ?_
  refine lx_callC hC (sat_X7_meanOccupancy (xl X) hl s) (run_V (as := []) (rest := [.int 0, .ref 10]) hC hE ly0 rfl cw_X7_meanOccupancy ci_X7_meanOccupancy wd1123 cs_X7_meanOccupancy ce_X7_meanOccupancy cd_X7_meanOccupancy (by decide) (by decide) (Nat.le_of_ble_eq_true rfl) dL_meanOccupancy_3 rfl) (fun E σ1 u hE0 hu R H locs hid ls q ce h2 h3 h4 h5 g1 g2 g3 hc hv hcl => ?_) (fun v s1 _ => ?_)
  · by_cases e0 : "java/lang/ArithmeticException" = E
    · subst e0
      rw [cd, if_pos rfl] at hu
      cases hu
      exact w_hand hC hr hE (pre := []) (suf := []) (a := 0) (b := 7) (h := 10) (ct := 145) ht (n := 1) (fun z hz => absurd hz List.not_mem_nil) ⟨by decide, by decide⟩ (by decide) wlE145 wcE145 (Or.inl ⟨2, by decide, dL_meanOccupancy_10, dL_meanOccupancy_11, dL_meanOccupancy_12⟩) g1 g2 g3 hc hv hcl
    rw [cd, if_neg e0] at hu
    cases hu
  · refine lx_dastore hC ly10 dL_meanOccupancy_6 (fun s2 => ?_)
    refine lx_goto hC 13 dL_meanOccupancy_7 (by decide) ?_
    refine lx_iconstv (v := 0) hC dL_meanOccupancy_13 rfl ?_
    exact lx_iretN hC rfl hr dL_meanOccupancy_14
theorem wd1132 : Cond.methodLink RL 147 yX7_realShare ∈ gw := gwt5 (List.mem_of_getElem? (i := 85) rfl) (by decide +kernel)
set_option maxRecDepth 100000 in
set_option maxHeartbeats 2000000 in
theorem sat_L_realShare (l : Launch) (hl : l.stackTraces = false) (s : Mem) : SatW l yL_realShare (.codeWith yL_realShare cL_realShare 3 (some .int) [(0, 8, 11, 145)]) 32 544 (fun x => some (.int x)) [.ref 0, .ref 10] s (wF ["java/lang/ArithmeticException"] (m_X7_realShare s)) := by
  refine satw_of (by decide) (Nat.le_of_ble_eq_true rfl) (fun X V A adV hxl hC hE ht hr => ?_) (mn_wF (n_X7_realShare s))
  subst hxl
  show LX X V A 32 544 (nC s) (nS s) _ 0 [(0, .ref 0), (1, .ref 10)] [] s _
  unfold wF
  rw [show yL_realShare.cls = RL from rfl] at hC
  refine lx_aload_n hC dL_realShare_0 rfl 1 rfl ?_
  refine lx_iconstv (v := 0) hC dL_realShare_1 rfl ?_
  refine lx_aload_n hC dL_realShare_2 rfl 0 rfl ?_
  refine lx_callC hC (sat_X7_realShare (xl X) hl s) (run_V (as := []) (rest := [.int 0, .ref 10]) hC hE ly0 rfl cw_X7_realShare ci_X7_realShare wd1132 cs_X7_realShare ce_X7_realShare cd_X7_realShare (by decide) (by decide) (Nat.le_of_ble_eq_true rfl) dL_realShare_3 rfl) (fun E σ1 u hE0 hu R H locs hid ls q ce h2 h3 h4 h5 g1 g2 g3 hc hv hcl => ?_) (fun v s1 _ => ?_)
  · by_cases e0 : "java/lang/ArithmeticException" = E
    · subst e0
      rw [cd, if_pos rfl] at hu
      cases hu
      exact w_hand hC hr hE (pre := []) (suf := []) (a := 0) (b := 8) (h := 11) (ct := 145) ht (n := 1) (fun z hz => absurd hz List.not_mem_nil) ⟨by decide, by decide⟩ (by decide) wlE145 wcE145 (Or.inl ⟨2, by decide, dL_realShare_11, dL_realShare_12, dL_realShare_13⟩) g1 g2 g3 hc hv hcl
    rw [cd, if_neg e0] at hu
    cases hu
  · refine lx_if (fun hne => ?_)
    refine lx_f2d hC dL_realShare_6 hne ?_
    refine lx_dastore hC ly10 dL_realShare_7 (fun s2 => ?_)
    refine lx_goto hC 14 dL_realShare_8 (by decide) ?_
    refine lx_iconstv (v := 0) hC dL_realShare_14 rfl ?_
    exact lx_iretN hC rfl hr dL_realShare_15
theorem wd1143 : Cond.methodLink RL 151 yX7_formatRow ∈ gw := gwt5 (List.mem_of_getElem? (i := 96) rfl) (by decide +kernel)
set_option maxRecDepth 100000 in
set_option maxHeartbeats 2000000 in
theorem sat_L_formatRow (l : Launch) (hl : l.stackTraces = false) (p0 : Int32) (s : Mem) : SatW l yL_formatRow (.codeWith yL_formatRow cL_formatRow 4 (some .int) [(0, 9, 12, 21)]) 33 565 (fun x => some (.int x)) [.ref 0, .int p0, .ref 9] s (wI ["java/lang/IndexOutOfBoundsException"] (m_X7_formatRow p0 s)) := by
  refine satw_of (by decide) (Nat.le_of_ble_eq_true rfl) (fun X V A adV hxl hC hE ht hr => ?_) (mn_wI (n_X7_formatRow p0 s))
  subst hxl
  show LX X V A 33 565 (nC s) (nS s) _ 0 [(0, .ref 0), (1, .int p0), (2, .ref 9)] [] s _
  unfold wI
  rw [show yL_formatRow.cls = RL from rfl] at hC
  refine lx_aload_n hC dL_formatRow_0 rfl 2 rfl ?_
  refine lx_iconstv (v := 0) hC dL_formatRow_1 rfl ?_
  refine lx_aload_n hC dL_formatRow_2 rfl 0 rfl ?_
  refine lx_iload_n hC dL_formatRow_3 rfl 1 rfl ?_
  refine lx_callC hC (sat_X7_formatRow (xl X) hl p0 s) (run_V (as := [.int p0]) (rest := [.int 0, .ref 9]) hC hE ly0 rfl cw_X7_formatRow ci_X7_formatRow wd1143 cs_X7_formatRow ce_X7_formatRow cd_X7_formatRow (by decide) (by decide) (Nat.le_of_ble_eq_true rfl) dL_formatRow_4 rfl) (fun E σ1 u hE0 hu R H locs hid ls q ce h2 h3 h4 h5 g1 g2 g3 hc hv hcl => ?_) (fun v s1 _ => ?_)
  · by_cases e0 : "java/lang/IndexOutOfBoundsException" = E
    · subst e0
      rw [cd, if_pos rfl] at hu
      cases hu
      exact w_hand hC hr hE (pre := []) (suf := []) (a := 0) (b := 9) (h := 12) (ct := 21) ht (n := 1) (fun z hz => absurd hz List.not_mem_nil) ⟨by decide, by decide⟩ (by decide) wlE21 wcE21 (Or.inl ⟨3, by decide, dL_formatRow_12, dL_formatRow_13, dL_formatRow_14⟩) g1 g2 g3 hc hv hcl
    rw [cd, if_neg e0] at hu
    cases hu
  · refine lx_i2l hC dL_formatRow_7 ?_
    refine lx_lastore hC ly9 dL_formatRow_8 (fun s2 => ?_)
    refine lx_goto hC 15 dL_formatRow_9 (by decide) ?_
    refine lx_iconstv (v := 0) hC dL_formatRow_15 rfl ?_
    exact lx_iretN hC rfl hr dL_formatRow_16
theorem wd1433 : Cond.methodLink RL 154 yX7_formatEcho ∈ gw := gwt6 (List.mem_of_getElem? (i := 146) rfl) (by decide +kernel)
set_option maxRecDepth 100000 in
set_option maxHeartbeats 2000000 in
theorem sat_L_formatEcho (l : Launch) (hl : l.stackTraces = false) (p0 : Int32) (s : Mem) : SatW l yL_formatEcho (.codeWith yL_formatEcho cL_formatEcho 4 (some .int) [(0, 9, 12, 32)]) 33 567 (fun x => some (.int x)) [.ref 0, .int p0, .ref 9] s (wI ["java/util/NoSuchElementException"] (m_X7_formatEcho p0 s)) := by
  refine satw_of (by decide) (Nat.le_of_ble_eq_true rfl) (fun X V A adV hxl hC hE ht hr => ?_) (mn_wI (n_X7_formatEcho p0 s))
  subst hxl
  show LX X V A 33 567 (nC s) (nS s) _ 0 [(0, .ref 0), (1, .int p0), (2, .ref 9)] [] s _
  unfold wI
  rw [show yL_formatEcho.cls = RL from rfl] at hC
  refine lx_aload_n hC dL_formatEcho_0 rfl 2 rfl ?_
  refine lx_iconstv (v := 0) hC dL_formatEcho_1 rfl ?_
  refine lx_aload_n hC dL_formatEcho_2 rfl 0 rfl ?_
  refine lx_iload_n hC dL_formatEcho_3 rfl 1 rfl ?_
  refine lx_callC hC (sat_X7_formatEcho (xl X) hl p0 s) (run_V (as := [.int p0]) (rest := [.int 0, .ref 9]) hC hE ly0 rfl cw_X7_formatEcho ci_X7_formatEcho wd1433 cs_X7_formatEcho ce_X7_formatEcho cd_X7_formatEcho (by decide) (by decide) (Nat.le_of_ble_eq_true rfl) dL_formatEcho_4 rfl) (fun E σ1 u hE0 hu R H locs hid ls q ce h2 h3 h4 h5 g1 g2 g3 hc hv hcl => ?_) (fun v s1 _ => ?_)
  · by_cases e0 : "java/util/NoSuchElementException" = E
    · subst e0
      rw [cd, if_pos rfl] at hu
      cases hu
      exact w_hand hC hr hE (pre := []) (suf := []) (a := 0) (b := 9) (h := 12) (ct := 32) ht (n := 1) (fun z hz => absurd hz List.not_mem_nil) ⟨by decide, by decide⟩ (by decide) wlE32 wcE32 (Or.inl ⟨3, by decide, dL_formatEcho_12, dL_formatEcho_13, dL_formatEcho_14⟩) g1 g2 g3 hc hv hcl
    rw [cd, if_neg e0] at hu
    cases hu
  · refine lx_i2l hC dL_formatEcho_7 ?_
    refine lx_lastore hC ly9 dL_formatEcho_8 (fun s2 => ?_)
    refine lx_goto hC 15 dL_formatEcho_9 (by decide) ?_
    refine lx_iconstv (v := 0) hC dL_formatEcho_15 rfl ?_
    exact lx_iretN hC rfl hr dL_formatEcho_16
theorem wd1440 : Cond.methodLink RL 157 yX7_lineChar ∈ gw := gwt6 (List.mem_of_getElem? (i := 153) rfl) (by decide +kernel)
set_option maxRecDepth 100000 in
set_option maxHeartbeats 2000000 in
theorem sat_L_lineChar (l : Launch) (hl : l.stackTraces = false) (p0 : Int32) (s : Mem) : SatW l yL_lineChar (.codeWith yL_lineChar cL_lineChar 4 (some .int) [(0, 9, 12, 21)]) 31 521 (fun x => some (.int x)) [.ref 0, .int p0, .ref 9] s (wI ["java/lang/IndexOutOfBoundsException"] (m_X7_lineChar p0 s)) := by
  refine satw_of (by decide) (Nat.le_of_ble_eq_true rfl) (fun X V A adV hxl hC hE ht hr => ?_) (mn_wI (n_X7_lineChar p0 s))
  subst hxl
  show LX X V A 31 521 (nC s) (nS s) _ 0 [(0, .ref 0), (1, .int p0), (2, .ref 9)] [] s _
  unfold wI
  rw [show yL_lineChar.cls = RL from rfl] at hC
  refine lx_aload_n hC dL_lineChar_0 rfl 2 rfl ?_
  refine lx_iconstv (v := 0) hC dL_lineChar_1 rfl ?_
  refine lx_aload_n hC dL_lineChar_2 rfl 0 rfl ?_
  refine lx_iload_n hC dL_lineChar_3 rfl 1 rfl ?_
  refine lx_callC hC (sat_X7_lineChar (xl X) hl p0 s) (run_V (as := [.int p0]) (rest := [.int 0, .ref 9]) hC hE ly0 rfl cw_X7_lineChar ci_X7_lineChar wd1440 cs_X7_lineChar ce_X7_lineChar cd_X7_lineChar (by decide) (by decide) (Nat.le_of_ble_eq_true rfl) dL_lineChar_4 rfl) (fun E σ1 u hE0 hu R H locs hid ls q ce h2 h3 h4 h5 g1 g2 g3 hc hv hcl => ?_) (fun v s1 _ => ?_)
  · by_cases e0 : "java/lang/IndexOutOfBoundsException" = E
    · subst e0
      rw [cd, if_pos rfl] at hu
      cases hu
      exact w_hand hC hr hE (pre := []) (suf := []) (a := 0) (b := 9) (h := 12) (ct := 21) ht (n := 1) (fun z hz => absurd hz List.not_mem_nil) ⟨by decide, by decide⟩ (by decide) wlE21 wcE21 (Or.inl ⟨3, by decide, dL_lineChar_12, dL_lineChar_13, dL_lineChar_14⟩) g1 g2 g3 hc hv hcl
    rw [cd, if_neg e0] at hu
    cases hu
  · refine lx_i2l hC dL_lineChar_7 ?_
    refine lx_lastore hC ly9 dL_lineChar_8 (fun s2 => ?_)
    refine lx_goto hC 15 dL_lineChar_9 (by decide) ?_
    refine lx_iconstv (v := 0) hC dL_lineChar_15 rfl ?_
    exact lx_iretN hC rfl hr dL_lineChar_16
theorem wd1458 : Cond.methodLink RL 161 yX7_append ∈ gw := gwt6 (List.mem_of_getElem? (i := 171) rfl) (by decide +kernel)
set_option maxRecDepth 100000 in
set_option maxHeartbeats 2000000 in
theorem sat_L_append (l : Launch) (hl : l.stackTraces = false) (p0 : Int32) (s : Mem) : SatW l yL_append (.codeWith yL_append cL_append 4 (some .int) [(0, 9, 12, 13), (0, 9, 15, 15)]) 31 521 (fun x => some (.int x)) [.ref 0, .int p0, .ref 9] s (wI ["java/lang/IllegalArgumentException", "java/lang/IllegalStateException"] (m_X7_append p0 s)) := by
  refine satw_of (by decide) (Nat.le_of_ble_eq_true rfl) (fun X V A adV hxl hC hE ht hr => ?_) (mn_wI (n_X7_append p0 s))
  subst hxl
  show LX X V A 31 521 (nC s) (nS s) _ 0 [(0, .ref 0), (1, .int p0), (2, .ref 9)] [] s _
  unfold wI
  rw [show yL_append.cls = RL from rfl] at hC
  refine lx_aload_n hC dL_append_0 rfl 2 rfl ?_
  refine lx_iconstv (v := 0) hC dL_append_1 rfl ?_
  refine lx_aload_n hC dL_append_2 rfl 0 rfl ?_
  refine lx_iload_n hC dL_append_3 rfl 1 rfl ?_
  refine lx_callC hC (sat_X7_append (xl X) hl p0 s) (run_V (as := [.int p0]) (rest := [.int 0, .ref 9]) hC hE ly0 rfl cw_X7_append ci_X7_append wd1458 cs_X7_append ce_X7_append cd_X7_append (by decide) (by decide) (Nat.le_of_ble_eq_true rfl) dL_append_4 rfl) (fun E σ1 u hE0 hu R H locs hid ls q ce h2 h3 h4 h5 g1 g2 g3 hc hv hcl => ?_) (fun v s1 _ => ?_)
  · by_cases e0 : "java/lang/IllegalArgumentException" = E
    · subst e0
      rw [cd, if_pos rfl] at hu
      cases hu
      exact w_hand hC hr hE (pre := []) (suf := [(0, 9, 15, 15)]) (a := 0) (b := 9) (h := 12) (ct := 13) ht (n := 1) (fun z hz => absurd hz List.not_mem_nil) ⟨by decide, by decide⟩ (by decide) wlE13 wcE13 (Or.inl ⟨3, by decide, dL_append_12, dL_append_13, dL_append_14⟩) g1 g2 g3 hc hv hcl
    rw [cd, if_neg e0] at hu
    by_cases e1 : "java/lang/IllegalStateException" = E
    · subst e1
      rw [cd, if_pos rfl] at hu
      cases hu
      exact w_hand hC hr hE (pre := [(0, 9, 12, 13)]) (suf := []) (a := 0) (b := 9) (h := 15) (ct := 15) ht (n := 2) (List.forall_mem_cons.mpr ⟨⟨by decide, "java/lang/IllegalArgumentException", wlE13, ncsE _ _ (by simp) (by simp) (by decide)⟩, fun _ hz => absurd hz List.not_mem_nil⟩) ⟨by decide, by decide⟩ (by decide) wlE15 wcE15 (Or.inl ⟨3, by decide, dL_append_15, dL_append_16, dL_append_17⟩) g1 g2 g3 hc hv hcl
    rw [cd, if_neg e1] at hu
    cases hu
  · refine lx_i2l hC dL_append_7 ?_
    refine lx_lastore hC ly9 dL_append_8 (fun s2 => ?_)
    refine lx_goto hC 18 dL_append_9 (by decide) ?_
    refine lx_iconstv (v := 0) hC dL_append_18 rfl ?_
    exact lx_iretN hC rfl hr dL_append_19
theorem wd1467 : Cond.methodLink RL 164 yX7_run ∈ gw := gwt6 (List.mem_of_getElem? (i := 180) rfl) (by decide +kernel)
set_option maxRecDepth 100000 in
set_option maxHeartbeats 2000000 in
theorem sat_L_run (l : Launch) (hl : l.stackTraces = false) (s : Mem) : SatW l yL_run (.codeWith yL_run cL_run 3 (some .int) [(0, 8, 11, 13), (0, 8, 14, 15)]) 37 661 (fun x => some (.int x)) [.ref 0, .ref 9] s (wI ["java/lang/IllegalArgumentException", "java/lang/IllegalStateException"] (m_X7_run s)) := by
  refine satw_of (by decide) (Nat.le_of_ble_eq_true rfl) (fun X V A adV hxl hC hE ht hr => ?_) (mn_wI (n_X7_run s))
  subst hxl
  show LX X V A 37 661 (nC s) (nS s) _ 0 [(0, .ref 0), (1, .ref 9)] [] s _
  unfold wI
  rw [show yL_run.cls = RL from rfl] at hC
  refine lx_aload_n hC dL_run_0 rfl 1 rfl ?_
  refine lx_iconstv (v := 0) hC dL_run_1 rfl ?_
  refine lx_aload_n hC dL_run_2 rfl 0 rfl ?_
  refine lx_callC hC (sat_X7_run (xl X) hl s) (run_V (as := []) (rest := [.int 0, .ref 9]) hC hE ly0 rfl cw_X7_run ci_X7_run wd1467 cs_X7_run ce_X7_run cd_X7_run (by decide) (by decide) (Nat.le_of_ble_eq_true rfl) dL_run_3 rfl) (fun E σ1 u hE0 hu R H locs hid ls q ce h2 h3 h4 h5 g1 g2 g3 hc hv hcl => ?_) (fun v s1 _ => ?_)
  · by_cases e0 : "java/lang/IllegalArgumentException" = E
    · subst e0
      rw [cd, if_pos rfl] at hu
      cases hu
      exact w_hand hC hr hE (pre := []) (suf := [(0, 8, 14, 15)]) (a := 0) (b := 8) (h := 11) (ct := 13) ht (n := 1) (fun z hz => absurd hz List.not_mem_nil) ⟨by decide, by decide⟩ (by decide) wlE13 wcE13 (Or.inl ⟨2, by decide, dL_run_11, dL_run_12, dL_run_13⟩) g1 g2 g3 hc hv hcl
    rw [cd, if_neg e0] at hu
    by_cases e1 : "java/lang/IllegalStateException" = E
    · subst e1
      rw [cd, if_pos rfl] at hu
      cases hu
      exact w_hand hC hr hE (pre := [(0, 8, 11, 13)]) (suf := []) (a := 0) (b := 8) (h := 14) (ct := 15) ht (n := 2) (List.forall_mem_cons.mpr ⟨⟨by decide, "java/lang/IllegalArgumentException", wlE13, ncsE _ _ (by simp) (by simp) (by decide)⟩, fun _ hz => absurd hz List.not_mem_nil⟩) ⟨by decide, by decide⟩ (by decide) wlE15 wcE15 (Or.inl ⟨2, by decide, dL_run_14, dL_run_15, dL_run_16⟩) g1 g2 g3 hc hv hcl
    rw [cd, if_neg e1] at hu
    cases hu
  · refine lx_i2l hC dL_run_6 ?_
    refine lx_lastore hC ly9 dL_run_7 (fun s2 => ?_)
    refine lx_goto hC 17 dL_run_8 (by decide) ?_
    refine lx_iconstv (v := 0) hC dL_run_17 rfl ?_
    exact lx_iretN hC rfl hr dL_run_18
theorem wd1562 : Cond.methodLink RL 167 yX7_errorPosition ∈ gw := gwt7 (List.mem_of_getElem? (i := 35) rfl) (by decide +kernel)
set_option maxRecDepth 100000 in
set_option maxHeartbeats 2000000 in
theorem sat_L_errorPosition (l : Launch) (hl : l.stackTraces = false) (s : Mem) : SatW l yL_errorPosition (.codeWith yL_errorPosition cL_errorPosition 3 (some .int) [(0, 8, 11, 32)]) 31 520 (fun x => some (.int x)) [.ref 0, .ref 9] s (wI ["java/util/NoSuchElementException"] (m_X7_errorPosition s)) := by
  refine satw_of (by decide) (Nat.le_of_ble_eq_true rfl) (fun X V A adV hxl hC hE ht hr => ?_) (mn_wI (n_X7_errorPosition s))
  subst hxl
  show LX X V A 31 520 (nC s) (nS s) _ 0 [(0, .ref 0), (1, .ref 9)] [] s _
  unfold wI
  rw [show yL_errorPosition.cls = RL from rfl] at hC
  refine lx_aload_n hC dL_errorPosition_0 rfl 1 rfl ?_
  refine lx_iconstv (v := 0) hC dL_errorPosition_1 rfl ?_
  refine lx_aload_n hC dL_errorPosition_2 rfl 0 rfl ?_
  refine lx_callC hC (sat_X7_errorPosition (xl X) hl s) (run_V (as := []) (rest := [.int 0, .ref 9]) hC hE ly0 rfl cw_X7_errorPosition ci_X7_errorPosition wd1562 cs_X7_errorPosition ce_X7_errorPosition cd_X7_errorPosition (by decide) (by decide) (Nat.le_of_ble_eq_true rfl) dL_errorPosition_3 rfl) (fun E σ1 u hE0 hu R H locs hid ls q ce h2 h3 h4 h5 g1 g2 g3 hc hv hcl => ?_) (fun v s1 _ => ?_)
  · by_cases e0 : "java/util/NoSuchElementException" = E
    · subst e0
      rw [cd, if_pos rfl] at hu
      cases hu
      exact w_hand hC hr hE (pre := []) (suf := []) (a := 0) (b := 8) (h := 11) (ct := 32) ht (n := 1) (fun z hz => absurd hz List.not_mem_nil) ⟨by decide, by decide⟩ (by decide) wlE32 wcE32 (Or.inl ⟨2, by decide, dL_errorPosition_11, dL_errorPosition_12, dL_errorPosition_13⟩) g1 g2 g3 hc hv hcl
    rw [cd, if_neg e0] at hu
    cases hu
  · refine lx_i2l hC dL_errorPosition_6 ?_
    refine lx_lastore hC ly9 dL_errorPosition_7 (fun s2 => ?_)
    refine lx_goto hC 14 dL_errorPosition_8 (by decide) ?_
    refine lx_iconstv (v := 0) hC dL_errorPosition_14 rfl ?_
    exact lx_iretN hC rfl hr dL_errorPosition_15
theorem wd1570 : Cond.methodLink RL 170 yX7_failedCommand ∈ gw := gwt7 (List.mem_of_getElem? (i := 43) rfl) (by decide +kernel)
set_option maxRecDepth 100000 in
set_option maxHeartbeats 2000000 in
theorem sat_L_failedCommand (l : Launch) (hl : l.stackTraces = false) (s : Mem) : SatW l yL_failedCommand (.codeWith yL_failedCommand cL_failedCommand 3 (some .int) [(0, 8, 11, 32)]) 31 520 (fun x => some (.int x)) [.ref 0, .ref 9] s (wI ["java/util/NoSuchElementException"] (m_X7_failedCommand s)) := by
  refine satw_of (by decide) (Nat.le_of_ble_eq_true rfl) (fun X V A adV hxl hC hE ht hr => ?_) (mn_wI (n_X7_failedCommand s))
  subst hxl
  show LX X V A 31 520 (nC s) (nS s) _ 0 [(0, .ref 0), (1, .ref 9)] [] s _
  unfold wI
  rw [show yL_failedCommand.cls = RL from rfl] at hC
  refine lx_aload_n hC dL_failedCommand_0 rfl 1 rfl ?_
  refine lx_iconstv (v := 0) hC dL_failedCommand_1 rfl ?_
  refine lx_aload_n hC dL_failedCommand_2 rfl 0 rfl ?_
  refine lx_callC hC (sat_X7_failedCommand (xl X) hl s) (run_V (as := []) (rest := [.int 0, .ref 9]) hC hE ly0 rfl cw_X7_failedCommand ci_X7_failedCommand wd1570 cs_X7_failedCommand ce_X7_failedCommand cd_X7_failedCommand (by decide) (by decide) (Nat.le_of_ble_eq_true rfl) dL_failedCommand_3 rfl) (fun E σ1 u hE0 hu R H locs hid ls q ce h2 h3 h4 h5 g1 g2 g3 hc hv hcl => ?_) (fun v s1 _ => ?_)
  · by_cases e0 : "java/util/NoSuchElementException" = E
    · subst e0
      rw [cd, if_pos rfl] at hu
      cases hu
      exact w_hand hC hr hE (pre := []) (suf := []) (a := 0) (b := 8) (h := 11) (ct := 32) ht (n := 1) (fun z hz => absurd hz List.not_mem_nil) ⟨by decide, by decide⟩ (by decide) wlE32 wcE32 (Or.inl ⟨2, by decide, dL_failedCommand_11, dL_failedCommand_12, dL_failedCommand_13⟩) g1 g2 g3 hc hv hcl
    rw [cd, if_neg e0] at hu
    cases hu
  · refine lx_i2l hC dL_failedCommand_6 ?_
    refine lx_lastore hC ly9 dL_failedCommand_7 (fun s2 => ?_)
    refine lx_goto hC 14 dL_failedCommand_8 (by decide) ?_
    refine lx_iconstv (v := 0) hC dL_failedCommand_14 rfl ?_
    exact lx_iretN hC rfl hr dL_failedCommand_15
theorem wd1578 : Cond.methodLink RL 173 yX7_undo ∈ gw := gwt7 (List.mem_of_getElem? (i := 51) rfl) (by decide +kernel)
set_option maxRecDepth 100000 in
set_option maxHeartbeats 2000000 in
theorem sat_L_undo (l : Launch) (hl : l.stackTraces = false) (s : Mem) : SatW l yL_undo (.codeWith yL_undo cL_undo 3 (some .int) [(0, 8, 11, 15)]) 32 540 (fun x => some (.int x)) [.ref 0, .ref 9] s (wI ["java/lang/IllegalStateException"] (m_X7_undo s)) := by
  refine satw_of (by decide) (Nat.le_of_ble_eq_true rfl) (fun X V A adV hxl hC hE ht hr => ?_) (mn_wI (n_X7_undo s))
  subst hxl
  show LX X V A 32 540 (nC s) (nS s) _ 0 [(0, .ref 0), (1, .ref 9)] [] s _
  unfold wI
  rw [show yL_undo.cls = RL from rfl] at hC
  refine lx_aload_n hC dL_undo_0 rfl 1 rfl ?_
  refine lx_iconstv (v := 0) hC dL_undo_1 rfl ?_
  refine lx_aload_n hC dL_undo_2 rfl 0 rfl ?_
  refine lx_callC hC (sat_X7_undo (xl X) hl s) (run_V (as := []) (rest := [.int 0, .ref 9]) hC hE ly0 rfl cw_X7_undo ci_X7_undo wd1578 cs_X7_undo ce_X7_undo cd_X7_undo (by decide) (by decide) (Nat.le_of_ble_eq_true rfl) dL_undo_3 rfl) (fun E σ1 u hE0 hu R H locs hid ls q ce h2 h3 h4 h5 g1 g2 g3 hc hv hcl => ?_) (fun v s1 _ => ?_)
  · by_cases e0 : "java/lang/IllegalStateException" = E
    · subst e0
      rw [cd, if_pos rfl] at hu
      cases hu
      exact w_hand hC hr hE (pre := []) (suf := []) (a := 0) (b := 8) (h := 11) (ct := 15) ht (n := 1) (fun z hz => absurd hz List.not_mem_nil) ⟨by decide, by decide⟩ (by decide) wlE15 wcE15 (Or.inl ⟨2, by decide, dL_undo_11, dL_undo_12, dL_undo_13⟩) g1 g2 g3 hc hv hcl
    rw [cd, if_neg e0] at hu
    cases hu
  · refine lx_i2l hC dL_undo_6 ?_
    refine lx_lastore hC ly9 dL_undo_7 (fun s2 => ?_)
    refine lx_goto hC 14 dL_undo_8 (by decide) ?_
    refine lx_iconstv (v := 0) hC dL_undo_14 rfl ?_
    exact lx_iretN hC rfl hr dL_undo_15
theorem wd1590 : Cond.methodLink RL 176 yX7_restore ∈ gw := gwt7 (List.mem_of_getElem? (i := 63) rfl) (by decide +kernel)
set_option maxRecDepth 100000 in
set_option maxHeartbeats 2000000 in
theorem sat_L_restore (l : Launch) (hl : l.stackTraces = false) (s : Mem) : SatW l yL_restore (.codeWith yL_restore cL_restore 3 (some .int) [(0, 8, 11, 15)]) 34 586 (fun x => some (.int x)) [.ref 0, .ref 9] s (wI ["java/lang/IllegalStateException"] (m_X7_restore s)) := by
  refine satw_of (by decide) (Nat.le_of_ble_eq_true rfl) (fun X V A adV hxl hC hE ht hr => ?_) (mn_wI (n_X7_restore s))
  subst hxl
  show LX X V A 34 586 (nC s) (nS s) _ 0 [(0, .ref 0), (1, .ref 9)] [] s _
  unfold wI
  rw [show yL_restore.cls = RL from rfl] at hC
  refine lx_aload_n hC dL_restore_0 rfl 1 rfl ?_
  refine lx_iconstv (v := 0) hC dL_restore_1 rfl ?_
  refine lx_aload_n hC dL_restore_2 rfl 0 rfl ?_
  refine lx_callC hC (sat_X7_restore (xl X) hl s) (run_V (as := []) (rest := [.int 0, .ref 9]) hC hE ly0 rfl cw_X7_restore ci_X7_restore wd1590 cs_X7_restore ce_X7_restore cd_X7_restore (by decide) (by decide) (Nat.le_of_ble_eq_true rfl) dL_restore_3 rfl) (fun E σ1 u hE0 hu R H locs hid ls q ce h2 h3 h4 h5 g1 g2 g3 hc hv hcl => ?_) (fun v s1 _ => ?_)
  · by_cases e0 : "java/lang/IllegalStateException" = E
    · subst e0
      rw [cd, if_pos rfl] at hu
      cases hu
      exact w_hand hC hr hE (pre := []) (suf := []) (a := 0) (b := 8) (h := 11) (ct := 15) ht (n := 1) (fun z hz => absurd hz List.not_mem_nil) ⟨by decide, by decide⟩ (by decide) wlE15 wcE15 (Or.inl ⟨2, by decide, dL_restore_11, dL_restore_12, dL_restore_13⟩) g1 g2 g3 hc hv hcl
    rw [cd, if_neg e0] at hu
    cases hu
  · refine lx_i2l hC dL_restore_6 ?_
    refine lx_lastore hC ly9 dL_restore_7 (fun s2 => ?_)
    refine lx_goto hC 14 dL_restore_8 (by decide) ?_
    refine lx_iconstv (v := 0) hC dL_restore_14 rfl ?_
    exact lx_iretN hC rfl hr dL_restore_15
