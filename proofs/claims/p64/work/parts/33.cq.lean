/-! ===== the class: questions about a theatre ===== -/
theorem bO_some {α β : Type} {v : β} {f : β → Option α} : bindO (some v) f = f v := rfl
theorem bP_some {α β : Type} {v : β} {f : β → Res α} : bindP (some v) f = f v := rfl
theorem bR_l {α β : Type} {v : β} {s : Mem} {f : β → Mem → Res α} : bindR (some (.inl v, s)) f = f v s := rfl
theorem bR_r {α β : Type} {E : String} {s : Mem} {f : β → Mem → Res α} : bindR (some (.inr E, s)) f = some (.inr E, s) := rfl
theorem vl_i {γ δ : Type} {x : γ} {f : γ → δ} : vl x f = f x := rfl
theorem not_not_eq {p : Prop} : (¬ ¬ p) = p := propext Classical.not_not
theorem bI0 (b : Bool) : (bI b = nI 0) = (b = false) := by cases b <;> simp [bI] <;> decide
theorem bI1 (b : Bool) : (bI b = nI 1) = (b = true) := by cases b <;> simp [bI] <;> decide
theorem eo_m1 {o : Option Nat} (h : ∀ x, o = some x → x < 2 ^ 31) : (eo o = m1) = (o = none) := by
  cases o with
  | none => simp [eo]
  | some x => simp [eo, m1_eq (h x rfl)]
theorem eo_nI {o : Option Nat} {a : Nat} (h : ∀ x, o = some x → x < 2 ^ 31) (ha : a < 2 ^ 31) : (eo o = nI a) = (o = some a) := by
  cases o with
  | none => simp [eo, eq_m1 ha]
  | some x => simp [eo, nE (h x rfl) ha]
theorem m1_lt0 : (m1 < nI 0) = True := by decide
theorem dec_of {p : Int32} (h0 : ¬ p < 0) : ∃ a : Nat, a < 2 ^ 31 ∧ p = nI a := nI_of h0
section
variable {t : Nat} {s : Mem} {T : Th}
theorem c_hasRow_y (h : RC t s T) (w : Sz T) {r : Nat} (hr : r < tR T) : m_X6_hasRow t (nI r) s = some (nI 1) := by
  have hR := w.1
  simp (disch := omega) only [m_X6_hasRow, h.hR, ltI, nL, nLe, if_neg]
theorem c_hasRow_n (h : RC t s T) {p : Int32} (hp : p < 0 ∨ nI (tR T) ≤ p) : m_X6_hasRow t p s = some (nI 0) := by
  unfold m_X6_hasRow
  rw [h.hR]
  rcases hp with q | q
  · rw [if_pos q]; rfl
  · by_cases z : p < 0
    · rw [if_pos z]; rfl
    · rw [if_neg z, if_pos q]; rfl
/-- the slot of a number from outside, found -/
theorem c_slotOf (h : RC t s T) (w : Sz T) (p : Int32) : m_X6_slotOf t p s = some (eo (sltp T p)) := by
  have hN := w.2.1
  have hX := w.2.2.1.1
  refine lpO_d (fun k => nI k) (fun k => ∀ j, j < k → decide (nI (tI T j) = p) = false) (tN T) rfl (fun j hj => absurd hj (Nat.not_lt_zero _)) (by omega) fun k hk hI kf => ?_
  by_cases q : k < tN T
  · have h1 := (w.2.2.2.1 k q).1
    simp (disch := omega) only [m_X6_slotOf_b2, h.hN, h.hI q, nLe, nIb, nN, vl_i, nI_1, if_pos, if_neg]
    by_cases z : nI (tI T k) = p
    · left
      rw [if_neg (fun y => y z)]
      unfold sltp
      rw [fnd_some q (by simp [z]) hI]; rfl
    · right
      refine ⟨q, fun j hj => ?_, by rw [if_pos z]⟩
      by_cases y : j = k
      · subst y; simp [z]
      · exact hI j (by omega)
  · have e : k = tN T := by omega
    subst e
    left
    simp (disch := omega) only [m_X6_slotOf_b2, h.hN, nLe, if_pos, Nat.le_refl]
    unfold sltp
    rw [fnd_none hI]; rfl
theorem slt_of {d : Nat} (w : Sz T) (hd : d < 2 ^ 31) : sltp T (nI d) = slt T d := by
  unfold sltp slt
  refine fnd_congr fun n hn => ?_
  have h1 := (w.2.2.2.1 n hn).1
  have hX := w.2.2.1.1
  simp only [nE (show tI T n < 2 ^ 31 by omega) hd]
theorem sltp_lt {p : Int32} {k : Nat} (h : sltp T p = some k) : k < tN T ∧ p = nI (tI T k) := by
  obtain ⟨h1, h2, _⟩ := fnd_spec h
  exact ⟨h1, (of_decide_eq_true h2).symm⟩
theorem slt_lt {d k : Nat} (h : slt T d = some k) : k < tN T ∧ tI T k = d := by
  obtain ⟨h1, h2, _⟩ := fnd_spec h
  exact ⟨h1, of_decide_eq_true h2⟩
theorem hs_lt {j k : Nat} (h : hs T j = some k) : k < tN T ∧ tH T j = some (tI T k) := by
  unfold hs at h
  cases e : tH T j with
  | none => rw [e] at h; cases h
  | some d =>
    rw [e] at h
    obtain ⟨h1, h2⟩ := slt_lt h
    exact ⟨h1, by rw [h2]⟩
theorem sltp_sz (w : Sz T) (p : Int32) : ∀ x, sltp T p = some x → x < 2 ^ 31 := fun x hx => by
  have := (sltp_lt hx).1
  have := w.2.1
  omega
theorem hs_sz (w : Sz T) (k : Nat) : ∀ x, hs T k = some x → x < 2 ^ 31 := fun x hx => by
  have := (hs_lt hx).1
  have := w.2.1
  omega
theorem cnt_le (w : Sz T) (r : Nat) : cnt T r ≤ 24 := by
  have h := sm_le (f := fun k => if tW T k = r then 1 else 0) (n := tN T) (c := 1) (fun k _ => by by_cases z : tW T k = r <;> simp [z])
  have := w.2.1
  unfold cnt
  omega
theorem c_emptySeatsIn (h : RC t s T) (w : Sz T) {r : Nat} (hr : r < 8) (hc : cnt T r ≤ tC T r + tP T r) : m_X6_emptySeatsIn t (nI r) s = some (nI (tC T r + tP T r - cnt T r)) := by
  simp (disch := omega) only [m_X6_emptySeatsIn, nIb, nN, if_pos, h.hC hr, h.hP hr, c_echoesIn h w (show r < 2 ^ 31 by omega), bO_some, nI_add, nS']
theorem c_overfull (h : RC t s T) (w : Sz T) {r : Nat} (hr : r < 8) : m_X6_overfull t (nI r) s = some (nI (if cnt T r ≤ tC T r then 0 else 1)) := by
  have h1 := cnt_le w r
  have h2 := (w.2.2.2.2 r).1
  simp (disch := omega) only [m_X6_overfull, nIb, nN, if_pos, h.hC hr, c_echoesIn h w (show r < 2 ^ 31 by omega), bO_some, nLe]
  by_cases z : cnt T r ≤ tC T r
  · rw [if_pos z, if_pos z]; rfl
  · rw [if_neg z, if_neg z]; rfl
theorem c_heirSlotOf (h : RC t s T) (w : Sz T) {k : Nat} (hk : k < tN T) : m_X6_heirSlotOf t (nI k) s = some (eo (hs T k)) := by
  have hN := w.2.1
  have hX := w.2.2.1.1
  have hd := (w.2.2.2.1 k hk).2.2.2.2
  simp (disch := omega) only [m_X6_heirSlotOf, nIb, nN, if_pos, h.hH hk, ltI, ltm]
  unfold hs
  cases e : tH T k with
  | none => simp only [eo, not_true_eq_false, if_false]
  | some d =>
    have := hd d e
    simp (disch := omega) only [eo, m1_eq, not_false_eq_true, if_true, c_slotOf h w, bO_some, slt_of w]

theorem c_lockedRows (h : RC t s T) (w : Sz T) : m_X6_lockedRows t s = some (nI (sm (fun r => if tK T r then 1 else 0) (tR T))) := by
  have hR := w.1
  refine lpO_d (fun k => (nI (sm (fun r => if tK T r then 1 else 0) k), nI k)) (fun _ => True) (tR T) rfl trivial (by omega) fun k hk _ kf => ?_
  by_cases q : k < tR T
  · refine Or.inr ⟨q, trivial, ?_⟩
    simp (disch := omega) only [m_X6_lockedRows_b4, h.hR, h.hK (show k < 8 by omega), nLe, nIb, nN, vl_i, nI_1, nI_add, sm, if_pos, if_neg, ltI, bI0]
    cases tK T k <;> simp
  · have e : k = tR T := by omega
    subst e
    left
    simp (disch := omega) only [m_X6_lockedRows_b4, h.hR, nLe, if_pos, Nat.le_refl]
theorem c_loudnessOfAll (h : RC t s T) (w : Sz T) : m_X6_loudnessOfAll t s = some (lN (lall T)) := by
  have hN := w.2.1
  refine lpO_d (fun k => (lN (sm (tU T) k), nI k)) (fun _ => True) (tN T) rfl trivial (by omega) fun k hk _ kf => ?_
  by_cases q : k < tN T
  · have h1 := (w.2.2.2.1 k q).2.2.2.1
    refine Or.inr ⟨q, trivial, ?_⟩
    simp (disch := omega) only [m_X6_loudnessOfAll_b4, h.hN, h.hU q, nLe, nIb, nN, vl_i, nI_1, nI_l, lN_add, sm, if_pos, if_neg]
  · have e : k = tN T := by omega
    subst e
    left
    simp (disch := omega) only [m_X6_loudnessOfAll_b4, h.hN, nLe, if_pos, Nat.le_refl]
    rfl
theorem c_boxesNaming (h : RC t s T) (w : Sz T) {r : Nat} (hr : r < 2 ^ 31) : m_X6_boxesNaming t (nI r) s = some (nI (sm (fun b => if tB T b = some r then 1 else 0) 8)) := by
  refine lpO_d (fun k => (nI (sm (fun b => if tB T b = some r then 1 else 0) k), nI k)) (fun _ => True) 8 rfl trivial (by omega) fun k hk _ kf => ?_
  by_cases q : k < 8
  · have h1 := (w.2.2.2.2 k).2.2
    refine Or.inr ⟨q, trivial, ?_⟩
    simp (disch := omega) only [m_X6_boxesNaming_b4, h.hB q, nLe, nIb, nN, vl_i, nI_1, nI_add, sm, if_pos, if_neg, ltI, eo_nI (fun x hx => show x < 2 ^ 31 by have := h1 x hx; omega) hr]
    by_cases z : tB T k = some r <;> simp [z]
  · have e : k = 8 := by omega
    subst e
    left
    simp (disch := omega) only [m_X6_boxesNaming_b4, nLe, if_pos, Nat.le_refl, ltI]
theorem c_echoesWithHeir (h : RC t s T) (w : Sz T) {d : Nat} (hd : d < 2 ^ 31) : m_X6_echoesWithHeir t (nI d) s = some (nI (sm (fun k => if tH T k = some d then 1 else 0) (tN T))) := by
  have hN := w.2.1
  refine lpO_d (fun k => (nI (sm (fun k => if tH T k = some d then 1 else 0) k), nI k)) (fun _ => True) (tN T) rfl trivial (by omega) fun k hk _ kf => ?_
  by_cases q : k < tN T
  · have h1 := (w.2.2.2.1 k q).2.2.2.2
    have hX := w.2.2.1.1
    refine Or.inr ⟨q, trivial, ?_⟩
    simp (disch := omega) only [m_X6_echoesWithHeir_b4, h.hN, h.hH q, nLe, nIb, nN, vl_i, nI_1, nI_add, sm, if_pos, if_neg, eo_nI (fun x hx => show x < 2 ^ 31 by have := h1 x hx; omega) hd]
    by_cases z : tH T k = some d <;> simp [z]
  · have e : k = tN T := by omega
    subst e
    left
    simp (disch := omega) only [m_X6_echoesWithHeir_b4, h.hN, nLe, if_pos, Nat.le_refl]
/-- how many echoes of a row stand in the slots below n -/
def pos (T : Th) (r n : Nat) : Nat := sm (fun k => if tW T k = r then 1 else 0) n
theorem c_positionOf (h : RC t s T) (w : Sz T) {k0 : Nat} (hk0 : k0 < tN T) : m_X6_positionOf t (nI k0) s = some (nI (pos T (tW T k0) k0)) := by
  have hN := w.2.1
  have hR := w.1
  have h2 := (w.2.2.2.1 k0 hk0).2.1
  refine lpO_d (fun k => (nI (pos T (tW T k0) k), nI k)) (fun _ => True) k0 rfl trivial (by omega) fun k hk _ kf => ?_
  by_cases q : k < k0
  · have hq : k < tN T := by omega
    have h1 := (w.2.2.2.1 k hq).2.1
    refine Or.inr ⟨q, trivial, ?_⟩
    simp (disch := omega) only [m_X6_positionOf_b4, h.hW hq, h.hW hk0, nLe, nIb, nN, nE, vl_i, nI_1, pos, sm, if_pos, if_neg]
    by_cases z : tW T k = tW T k0 <;> simp [z]
  · have e : k = k0 := by omega
    subst e
    left
    simp (disch := omega) only [m_X6_positionOf_b4, nLe, if_pos, Nat.le_refl]
/-- the slot at a position of a row -/
def satp (T : Th) (r : Nat) (p : Int32) : Option Nat := fnd (fun k => decide (tW T k = r ∧ nI (pos T r k) = p)) (tN T)
theorem pos_le (T : Th) (r n : Nat) : pos T r n ≤ n := by
  have h := sm_le (f := fun k => if tW T k = r then 1 else 0) (n := n) (c := 1) (fun k _ => by by_cases z : tW T k = r <;> simp [z])
  unfold pos
  omega
theorem c_idAt (h : RC t s T) (w : Sz T) {r : Nat} (hr : r < 2 ^ 31) (p : Int32) : m_X6_idAt t (nI r) p s = some (match satp T r p with | none => m1 | some k => nI (tI T k)) := by
  have hN := w.2.1
  have hR := w.1
  refine lpO_d (fun k => (nI (pos T r k), nI k)) (fun k => ∀ j, j < k → decide (tW T j = r ∧ nI (pos T r j) = p) = false) (tN T) rfl (fun j hj => absurd hj (Nat.not_lt_zero _)) (by omega) fun k hk hI kf => ?_
  by_cases q : k < tN T
  · have h1 := (w.2.2.2.1 k q).2.1
    simp (disch := omega) only [m_X6_idAt_b5, h.hN, h.hW q, h.hI q, nLe, nIb, nN, nE, vl_i, nI_1, if_pos, if_neg]
    by_cases z : tW T k = r
    · by_cases y : nI (pos T r k) = p
      · left
        rw [if_neg (fun x => x z), if_neg (fun x => x y)]
        unfold satp
        rw [fnd_some q (by simp [z, y]) hI]
      · right
        refine ⟨q, fun j hj => ?_, by rw [if_neg (fun x => x z), if_pos y]; simp [pos, sm, z]⟩
        by_cases x : j = k
        · subst x; simp [y]
        · exact hI j (by omega)
    · right
      refine ⟨q, fun j hj => ?_, by rw [if_pos z]; simp [pos, sm, z]⟩
      by_cases x : j = k
      · subst x; simp [z]
      · exact hI j (by omega)
  · have e : k = tN T := by omega
    subst e
    left
    simp (disch := omega) only [m_X6_idAt_b5, h.hN, nLe, if_pos, Nat.le_refl]
    unfold satp
    rw [fnd_none hI]; rfl

end
