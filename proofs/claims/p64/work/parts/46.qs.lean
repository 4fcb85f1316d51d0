/-! ===== the class: its questions ===== -/
def rowQ {α : Type} (T : Th) (p : Int32) (g : Nat → Nat ⊕ α) : Nat ⊕ α := match rwp T p with
  | none => .inl 2
  | some r => g r
def actQ {α : Type} (T : Th) (p : Int32) (g : Nat → Nat ⊕ α) : Nat ⊕ α := match sltp T p with
  | none => .inl 1
  | some k => g k
def rngQ {α : Type} (T : Th) (p q : Int32) (g : Nat → Nat → Nat ⊕ α) : Nat ⊕ α := match rwp T p with
  | none => .inl 2
  | some a => match rwp T q with
    | none => .inl 2
    | some b => if a ≤ b then g a b else .inl 3
def rkp (T : Th) (p : Int32) : Option Nat := fnd (fun k => decide (nI (rnk T k) = p)) (tN T)
def rkQ {α : Type} (T : Th) (p : Int32) (g : Nat → Nat ⊕ α) : Nat ⊕ α := match rkp T p with
  | none => .inl 1
  | some k => g k
def boxQ {α : Type} (p : Int32) (g : Nat → Nat ⊕ α) : Nat ⊕ α := match bxp p with
  | none => .inl 3
  | some b => g b
def a_capacity (T : Th) (p : Int32) : Nat ⊕ Int32 := rowQ T p fun r => .inr (nI (tC T r))
def a_phantoms (T : Th) (p : Int32) : Nat ⊕ Int32 := rowQ T p fun r => .inr (nI (tP T r))
def a_occupancy (T : Th) (p : Int32) : Nat ⊕ Int32 := rowQ T p fun r => .inr (nI (cnt T r))
def a_freeSeats (T : Th) (p : Int32) : Nat ⊕ Int32 := rowQ T p fun r => .inr (nI (tC T r + tP T r - cnt T r))
def a_rowLoudness (T : Th) (p : Int32) : Nat ⊕ Int32 := rowQ T p fun r => .inr (nI (ld T r))
def a_isLocked (T : Th) (p : Int32) : Nat ⊕ Int32 := rowQ T p fun r => .inr (bI (tK T r))
def a_isCrowded (T : Th) (p : Int32) : Nat ⊕ Int32 := rowQ T p fun r => .inr (nI (if cnt T r ≤ tC T r then 0 else 1))
def a_idInRow (T : Th) (p q : Int32) : Nat ⊕ Int32 := rowQ T p fun r => match satp T r q with
  | none => .inl 1
  | some k => .inr (nI (tI T k))
def a_boxCount (T : Th) (p : Int32) : Nat ⊕ Int32 := rowQ T p fun r => .inr (nI (sm (fun b => if tB T b = some r then 1 else 0) 8))
def a_isActive (T : Th) (p : Int32) : Int32 := bI (sltp T p).isSome
def a_rowOf (T : Th) (p : Int32) : Nat ⊕ Int32 := actQ T p fun k => .inr (nI (tW T k))
def a_loudness (T : Th) (p : Int32) : Nat ⊕ Int32 := actQ T p fun k => .inr (nI (tU T k))
def a_positionInRow (T : Th) (p : Int32) : Nat ⊕ Int32 := actQ T p fun k => .inr (nI (pos T (tW T k) k))
def a_hasHeir (T : Th) (p : Int32) : Nat ⊕ Int32 := actQ T p fun k => .inr (bI (tH T k).isSome)
def a_heir (T : Th) (p : Int32) : Nat ⊕ Int32 := actQ T p fun k => match tH T k with
  | none => .inl 4
  | some d => .inr (nI d)
def a_lastHeir (T : Th) (p : Int32) : Nat ⊕ Int32 := actQ T p fun k => .inr (nI (tI T (lst T k)))
def a_stepsToLastHeir (T : Th) (p : Int32) : Nat ⊕ Int32 := actQ T p fun k => .inr (nI (lng T k))
def a_bequeathers (T : Th) (p : Int32) : Nat ⊕ Int32 := actQ T p fun k => .inr (nI (sm (fun j => if tH T j = some (tI T k) then 1 else 0) (tN T)))
def a_rank (T : Th) (p : Int32) : Nat ⊕ Int32 := actQ T p fun k => .inr (nI (rnk T k))
def a_countInRows (T : Th) (p q : Int32) : Nat ⊕ Int32 := rngQ T p q fun a b => .inr (nI (btw T a (b + 1)))
def a_idByRank (T : Th) (p : Int32) : Nat ⊕ Int32 := rkQ T p fun k => .inr (nI (tI T k))
def a_loudest (T : Th) : Nat ⊕ Int32 := match bst (fun _ => true) (tU T) (tN T) with
  | none => .inl 1
  | some k => .inr (nI (tI T k))
def a_quietestRow (T : Th) : Nat ⊕ Int32 := if tR T = 0 then .inl 1 else .inr (nI (qt T (tR T)))
def a_isNamed (T : Th) (p : Int32) : Nat ⊕ Int32 := boxQ p fun b => .inr (bI (tB T b).isSome)
def a_namedRow (T : Th) (p : Int32) : Nat ⊕ Int32 := boxQ p fun b => match tB T b with
  | none => .inl 1
  | some r => .inr (nI r)
def a_meanOccupancy (T : Th) : Nat ⊕ UInt64 := if tR T = 0 then .inl 5 else .inr (FP.ddiv (FP.i2d (nI (tN T))) (FP.i2d (nI (tR T))))
def a_realShare (T : Th) : Nat ⊕ UInt32 := if tR T = 0 then .inl 5 else .inr (FP.fdiv (FP.i2f (nI (tN T))) (FP.i2f (nI (sm (tC T) (tR T)))))
theorem rnk_top {T : Th} (w : Sz T) {k : Nat} (hk : k < tN T) : rnk T k < tN T := by
  have h1 := (rnk_row hk).2
  have h2 := (w.2.2.2.1 k hk).2.1
  have h3 : sm (cnt T) (tW T k + 1) ≤ sm (cnt T) (tR T) := sm_mono (by omega)
  rw [cnt_all fun k hk => (w.2.2.2.1 k hk).2.1] at h3
  omega
theorem rkp_of {T : Th} (w : Sz T) {p : Nat} (hp : p < 2 ^ 31) : rkp T (nI p) = rks T p := by
  unfold rkp rks
  refine fnd_congr fun n hn => ?_
  have h1 := rnk_top w hn
  have h2 := w.2.1
  simp (disch := omega) only [nE]
theorem rkp_no {T : Th} (w : Sz T) {p : Int32} (hp : p < 0 ∨ nI (tN T) ≤ p) : rkp T p = none := by
  refine fnd_none fun k hk => ?_
  have h1 := rnk_top w hk
  have h2 := w.2.1
  simp only [decide_eq_false_iff_not]
  intro e
  subst e
  rcases hp with q | q
  · exact nI_pos (by omega) q
  · rw [nLe (by omega) (by omega)] at q; omega
theorem fp64 : ∀ a, a < 25 → ∀ b, b < 9 → 1 ≤ b → np64 (FP.ddiv (FP.i2d (nI a)) (FP.i2d (nI b))) := by decide +kernel
theorem fp32 : ∀ a, a < 25 → ∀ b, b < 97 → 1 ≤ b → np32 (FP.fdiv (FP.i2f (nI a)) (FP.i2f (nI b))) := by decide +kernel
section
variable {s : Mem} {A : Ab} {n m : Nat}
theorem cl_in {α : Type} {v : α} (h : CK s A) : cl s (.inr v) A (.inl v) s := ⟨rfl, h, Ku.refl.up (by decide)⟩
theorem cl_tr {α : Type} {c : Nat} (h : CK s A) : cl (α := α) s (.inl c) A (.inr (xn c)) (pN s 1 6) := ⟨rfl, h.kp Kp.pN, Ku.pN⟩
theorem presq {α : Type} {F : Nat → Res α} {Q : α ⊕ String → Mem → Prop} (h : CK s A) (H : ∀ n, n < 10 → HSt n s A → okR (F (12 + n)) Q) : okR (bindP (m_X3_present s) (fun v1 => if isTh v1 then F v1 else none)) Q := by
  obtain ⟨⟨n, hn, hH⟩, _⟩ := h
  rw [c_present hH hn, bP_some, if_pos (th12 hn)]
  exact H n hn hH
theorem presO {α : Type} {F : Nat → Option α} {v : α} (h : CK s A) (H : ∀ n, n < 10 → HSt n s A → F (12 + n) = some v) : bindO (m_X3_present s) (fun v1 => if isTh v1 then F v1 else none) = some v := by
  obtain ⟨⟨n, hn, hH⟩, _⟩ := h
  rw [c_present hH hn, bO_some, if_pos (th12 hn)]
  exact H n hn hH
theorem rowq {α : Type} {f : Nat → Mem → Res α} {p : Int32} {g : Nat → Nat ⊕ α} (h : CK s A) (w : Sz (aT A)) (H : ∀ n r, n < 10 → HSt n s A → r < tR (aT A) → p = nI r → okR (f (12 + n) s) (cl s (g r) A)) : okR (bindR (m_X7_theatreWithRow p s) f) (cl s (rowQ (aT A) p g) A) := by
  have h0 := h
  obtain ⟨⟨n, hn, hH⟩, _⟩ := h
  unfold m_X7_theatreWithRow rowQ
  rw [c_present hH hn, bP_some, if_pos (th12 hn), c_hasRow hH.2.2.1 w, bP_some]
  cases e : rwp (aT A) p with
  | none => exact okR_some.mpr (cl_tr h0)
  | some r =>
    obtain ⟨e1, e2⟩ := rwp_lt e
    exact H n r hn hH e1 e2
theorem actq {α : Type} {f : Int32 → Mem → Res α} {p : Int32} {g : Nat → Nat ⊕ α} (h : CK s A) (w : Sz (aT A)) (H : ∀ k, k < tN (aT A) → p = nI (tI (aT A) k) → okR (f (nI k) s) (cl s (g k) A)) : okR (bindR (m_X7_slotOfActive p s) f) (cl s (actQ (aT A) p g) A) := by
  have h0 := h
  obtain ⟨⟨n, hn, hH⟩, _⟩ := h
  have hN := w.2.1
  unfold m_X7_slotOfActive actQ
  rw [c_present hH hn, bP_some, if_pos (th12 hn), c_slotOf hH.2.2.1 w, bP_some, ltI, ltm]
  cases e : sltp (aT A) p with
  | none => exact okR_some.mpr (cl_tr h0)
  | some k =>
    obtain ⟨e1, e2⟩ := sltp_lt e
    simp (disch := omega) only [eo, m1_eq, not_false_eq_true, if_true]
    exact H k e1 e2
theorem rngq {α : Type} {f : Nat → Mem → Res α} {p q : Int32} {g : Nat → Nat → Nat ⊕ α} (h : CK s A) (w : Sz (aT A)) (H : ∀ n a b, n < 10 → HSt n s A → a ≤ b → b < tR (aT A) → p = nI a → q = nI b → okR (f (12 + n) s) (cl s (g a b) A)) : okR (bindR (m_X7_theatreWithRange p q s) f) (cl s (rngQ (aT A) p q g) A) := by
  have h0 := h
  obtain ⟨⟨n, hn, hH⟩, _⟩ := h
  have hR := w.1
  unfold m_X7_theatreWithRange rngQ
  rw [c_present hH hn, bP_some, if_pos (th12 hn), c_hasRow hH.2.2.1 w, bP_some]
  cases e : rwp (aT A) p with
  | none => exact okR_some.mpr (cl_tr h0)
  | some a =>
    obtain ⟨e1, e2⟩ := rwp_lt e
    rw [c_hasRow hH.2.2.1 w]
    cases e3 : rwp (aT A) q with
    | none => exact okR_some.mpr (cl_tr h0)
    | some b =>
      obtain ⟨e4, e5⟩ := rwp_lt e3
      rw [show (if (some a).isSome = true then nI 1 else nI 0) = nI 1 from rfl, if_neg (show ¬ nI 1 = 0 by decide), bP_some, show (if (some b).isSome = true then nI 1 else nI 0) = nI 1 from rfl, if_pos (show ¬ nI 1 = 0 by decide), e2, e5]
      simp (disch := omega) only [nLe]
      by_cases z : a ≤ b
      · simp only [if_pos z]
        exact H n a b hn hH z e4 e2 e5
      · simp only [if_neg z]
        exact okR_some.mpr (cl_tr h0)
theorem rkq {α : Type} {f : Nat → Mem → Res α} {p : Int32} {g : Nat → Nat ⊕ α} (h : CK s A) (w : Sz (aT A)) (H : ∀ n a k, n < 10 → HSt n s A → a < tN (aT A) → p = nI a → rks (aT A) a = some k → okR (f (12 + n) s) (cl s (g k) A)) : okR (bindR (m_X7_theatreWithRank p s) f) (cl s (rkQ (aT A) p g) A) := by
  have h0 := h
  obtain ⟨⟨n, hn, hH⟩, _⟩ := h
  have hN := w.2.1
  unfold m_X7_theatreWithRank rkQ
  rw [c_present hH hn, bP_some, if_pos (th12 hn), hH.2.2.1.hN]
  by_cases q : p < 0
  · rw [if_pos q, rkp_no w (Or.inl q)]
    exact okR_some.mpr (cl_tr h0)
  · rw [if_neg q]
    obtain ⟨a, ha0, rfl⟩ := nI_of q
    simp (disch := omega) only [nL]
    by_cases ha : a < tN (aT A)
    · simp only [if_pos ha]
      obtain ⟨k, k1, k2, _⟩ := c_idRanked hH.2.2.1 w ha
      rw [rkp_of w (by omega), k2]
      exact H n a k hn hH ha rfl k2
    · simp only [if_neg ha]
      rw [rkp_no w (Or.inr (by rw [nLe (by omega) (by omega)]; omega))]
      exact okR_some.mpr (cl_tr h0)
/-! the changes' own methods -/
theorem k_addRow (h : CK s A) (W : WA m A) (hm : m < 10000) {p : Int32} : okR (m_X7_addRow p s) (cl s (chA A 0 p 0).1 (chA A 0 p 0).2) := by
  unfold m_X7_addRow
  rw [bR_id]
  exact c_change h W hm (kind := 0) (by decide)
theorem k_addPhantoms (h : CK s A) (W : WA m A) (hm : m < 10000) {p q : Int32} : okR (m_X7_addPhantoms p q s) (cl s (chA A 1 p q).1 (chA A 1 p q).2) := by
  unfold m_X7_addPhantoms
  rw [bR_id]
  exact c_change h W hm (kind := 1) (by decide)
theorem k_removePhantoms (h : CK s A) (W : WA m A) (hm : m < 10000) {p q : Int32} : okR (m_X7_removePhantoms p q s) (cl s (chA A 2 p q).1 (chA A 2 p q).2) := by
  unfold m_X7_removePhantoms
  rw [bR_id]
  exact c_change h W hm (kind := 2) (by decide)
theorem k_add (h : CK s A) (W : WA m A) (hm : m < 10000) {p q : Int32} : okR (m_X7_add p q s) (cl s (chA A 3 p q).1 (chA A 3 p q).2) := by
  unfold m_X7_add
  rw [bR_id]
  exact c_change h W hm (kind := 3) (by decide)
theorem k_move (h : CK s A) (W : WA m A) (hm : m < 10000) {p q : Int32} : okR (m_X7_move p q s) (cl s (chA A 4 p q).1 (chA A 4 p q).2) := by
  unfold m_X7_move
  rw [bR_id]
  exact c_change h W hm (kind := 4) (by decide)
theorem k_remove (h : CK s A) (W : WA m A) (hm : m < 10000) {p : Int32} : okR (m_X7_remove p s) (cl s (chA A 5 p 0).1 (chA A 5 p 0).2) := by
  unfold m_X7_remove
  rw [bR_id]
  exact c_change h W hm (kind := 5) (by decide)
theorem k_setHeir (h : CK s A) (W : WA m A) (hm : m < 10000) {p q : Int32} : okR (m_X7_setHeir p q s) (cl s (chA A 6 p q).1 (chA A 6 p q).2) := by
  unfold m_X7_setHeir
  rw [bR_id]
  exact c_change h W hm (kind := 6) (by decide)
theorem k_clearHeir (h : CK s A) (W : WA m A) (hm : m < 10000) {p : Int32} : okR (m_X7_clearHeir p s) (cl s (chA A 7 p 0).1 (chA A 7 p 0).2) := by
  unfold m_X7_clearHeir
  rw [bR_id]
  exact c_change h W hm (kind := 7) (by decide)
theorem k_lock (h : CK s A) (W : WA m A) (hm : m < 10000) {p : Int32} : okR (m_X7_lock p s) (cl s (chA A 8 p 0).1 (chA A 8 p 0).2) := by
  unfold m_X7_lock
  rw [bR_id]
  exact c_change h W hm (kind := 8) (by decide)
theorem k_unlock (h : CK s A) (W : WA m A) (hm : m < 10000) {p : Int32} : okR (m_X7_unlock p s) (cl s (chA A 9 p 0).1 (chA A 9 p 0).2) := by
  unfold m_X7_unlock
  rw [bR_id]
  exact c_change h W hm (kind := 9) (by decide)
theorem k_nameRow (h : CK s A) (W : WA m A) (hm : m < 10000) {p q : Int32} : okR (m_X7_nameRow p q s) (cl s (chA A 10 p q).1 (chA A 10 p q).2) := by
  unfold m_X7_nameRow
  rw [bR_id]
  exact c_change h W hm (kind := 10) (by decide)
theorem k_spread (h : CK s A) (W : WA m A) (hm : m < 10000) {p : Int32} : okR (m_X7_spread p s) (cl s (chA A 11 p 0).1 (chA A 11 p 0).2) := by
  unfold m_X7_spread
  rw [bR_id]
  exact c_change h W hm (kind := 11) (by decide)
theorem bR_id0 {α β : Type} {x : Res α} {f : α → Mem → Res β} : bindR (bindR x (fun v s => some (.inl v, s))) f = bindR x f := by rw [bR_id]
/-! the questions -/
theorem k_rowCount (h : CK s A) : m_X7_rowCount s = some (nI (tR (aT A))) := presO h fun n hn hH => by rw [hH.2.2.1.hR]
theorem k_echoCount (h : CK s A) : m_X7_echoCount s = some (nI (tN (aT A))) := presO h fun n hn hH => by rw [hH.2.2.1.hN]
theorem k_moveCount (h : CK s A) : m_X7_moveCount s = some (nI (tM (aT A))) := presO h fun n hn hH => by rw [hH.2.2.1.hM]
theorem k_removeCount (h : CK s A) : m_X7_removeCount s = some (nI (tV (aT A))) := presO h fun n hn hH => by rw [hH.2.2.1.hV]
theorem k_addedLoudness (h : CK s A) : m_X7_addedLoudness s = some (lN (tA (aT A))) := presO h fun n hn hH => by rw [hH.2.2.1.hA]
theorem k_lostLoudness (h : CK s A) : m_X7_lostLoudness s = some (lN (tL (aT A))) := presO h fun n hn hH => by rw [hH.2.2.1.hL]
theorem k_activeLoudness (h : CK s A) (w : Sz (aT A)) : m_X7_activeLoudness s = some (lN (lall (aT A))) := presO h fun n hn hH => by rw [c_loudnessOfAll hH.2.2.1 w, bO_some]
theorem k_isActive (h : CK s A) (w : Sz (aT A)) {p : Int32} : m_X7_isActive p s = some (a_isActive (aT A) p) := presO h fun n hn hH => by
  have hN := w.2.1
  rw [c_slotOf hH.2.2.1 w, bO_some, ltI, ltm]
  unfold a_isActive
  cases e : sltp (aT A) p with
  | none => rfl
  | some k =>
    have := (sltp_lt e).1
    simp (disch := omega) only [eo, m1_eq, if_false]
    rfl

theorem k_capacity (h : CK s A) (w : Sz (aT A)) {p : Int32} : okR (m_X7_capacity p s) (cl s (a_capacity (aT A) p) A) := rowq h w fun n r hn hH hr e => by
  have hR := w.1
  subst e
  simp (disch := omega) only [if_pos (th12 hn), nIb, nN, if_pos, hH.2.2.1.hC (show r < 8 by omega)]
  exact okR_some.mpr (cl_in h)
theorem k_isLocked (h : CK s A) (w : Sz (aT A)) {p : Int32} : okR (m_X7_isLocked p s) (cl s (a_isLocked (aT A) p) A) := rowq h w fun n r hn hH hr e => by
  have hR := w.1
  subst e
  simp (disch := omega) only [if_pos (th12 hn), nIb, nN, if_pos, hH.2.2.1.hK (show r < 8 by omega), nar_bI]
  exact okR_some.mpr (cl_in h)
theorem k_occupancy (h : CK s A) (w : Sz (aT A)) {p : Int32} : okR (m_X7_occupancy p s) (cl s (a_occupancy (aT A) p) A) := rowq h w fun n r hn hH hr e => by
  have hR := w.1
  subst e
  rw [if_pos (th12 hn), c_echoesIn hH.2.2.1 w (by omega), bP_some]
  exact okR_some.mpr (cl_in h)
theorem k_boxCount (h : CK s A) (w : Sz (aT A)) {p : Int32} : okR (m_X7_boxCount p s) (cl s (a_boxCount (aT A) p) A) := rowq h w fun n r hn hH hr e => by
  have hR := w.1
  subst e
  rw [if_pos (th12 hn), c_boxesNaming hH.2.2.1 w (by omega), bP_some]
  exact okR_some.mpr (cl_in h)
theorem k_isCrowded (h : CK s A) (w : Sz (aT A)) {p : Int32} : okR (m_X7_isCrowded p s) (cl s (a_isCrowded (aT A) p) A) := rowq h w fun n r hn hH hr e => by
  have hR := w.1
  subst e
  rw [if_pos (th12 hn), c_overfull hH.2.2.1 w (by omega), bP_some]
  have z : vp_nar .boolean (nI (if cnt (aT A) r ≤ tC (aT A) r then 0 else 1)) = nI (if cnt (aT A) r ≤ tC (aT A) r then 0 else 1) := by
    by_cases q : cnt (aT A) r ≤ tC (aT A) r
    · rw [if_pos q]; rfl
    · rw [if_neg q]; rfl
  rw [if_pos z]
  exact okR_some.mpr (cl_in h)
theorem k_idInRow (h : CK s A) (w : Sz (aT A)) {p q : Int32} : okR (m_X7_idInRow p q s) (cl s (a_idInRow (aT A) p q) A) := rowq h w fun n r hn hH hr e => by
  have hR := w.1
  have hX := w.2.2.1.1
  subst e
  rw [if_pos (th12 hn), c_idAt hH.2.2.1 w (by omega), bP_some, ltI, ltm]
  cases e : satp (aT A) r q with
  | none => exact okR_some.mpr (cl_tr h)
  | some k =>
    have h1 := (fnd_spec e).1
    have h2 := (w.2.2.2.1 k h1).1
    simp (disch := omega) only [m1_eq, not_false_eq_true, if_true]
    exact okR_some.mpr (cl_in h)
theorem k_rowOf (h : CK s A) (w : Sz (aT A)) {p : Int32} : okR (m_X7_rowOf p s) (cl s (a_rowOf (aT A) p) A) := presq h fun n hn hH => actq h w fun k hk e => by
  have hN := w.2.1
  have hC := hH.2.2.1
  simp (disch := omega) only [nIb, nN, if_pos, hC.hW hk]
  exact okR_some.mpr (cl_in h)
theorem k_loudness (h : CK s A) (w : Sz (aT A)) {p : Int32} : okR (m_X7_loudness p s) (cl s (a_loudness (aT A) p) A) := presq h fun n hn hH => actq h w fun k hk e => by
  have hN := w.2.1
  have hC := hH.2.2.1
  simp (disch := omega) only [nIb, nN, if_pos, hC.hU hk]
  exact okR_some.mpr (cl_in h)
theorem k_positionInRow (h : CK s A) (w : Sz (aT A)) {p : Int32} : okR (m_X7_positionInRow p s) (cl s (a_positionInRow (aT A) p) A) := presq h fun n hn hH => actq h w fun k hk e => by
  have hN := w.2.1
  have hC := hH.2.2.1
  rw [c_positionOf hC w hk, bP_some]
  exact okR_some.mpr (cl_in h)
theorem k_heir (h : CK s A) (w : Sz (aT A)) {p : Int32} : okR (m_X7_heir p s) (cl s (a_heir (aT A) p) A) := presq h fun n hn hH => actq h w fun k hk e => by
  have hN := w.2.1
  have hC := hH.2.2.1
  have hX := w.2.2.1.1
  simp (disch := omega) only [nIb, nN, if_pos, hC.hH hk, ↓vl_i, ltI, ltm]
  cases e : tH (aT A) k with
  | none => exact okR_some.mpr (cl_tr h)
  | some d =>
    have h2 := (w.2.2.2.1 k hk).2.2.2.2 d e
    simp (disch := omega) only [eo, m1_eq, not_false_eq_true, if_true]
    exact okR_some.mpr (cl_in h)
theorem k_lastHeir (h : CK s A) (w : Sz (aT A)) (ha : Ac (aT A)) {p : Int32} : okR (m_X7_lastHeir p s) (cl s (a_lastHeir (aT A) p) A) := presq h fun n hn hH => actq h w fun k hk e => by
  have hN := w.2.1
  have hC := hH.2.2.1
  have h2 : lst (aT A) k < tN (aT A) := it_lt hk 24
  rw [c_lastSlotFrom hC w ha hk, bP_some]
  simp (disch := omega) only [nIb, nN, if_pos, hC.hI h2]
  exact okR_some.mpr (cl_in h)
theorem k_stepsToLastHeir (h : CK s A) (w : Sz (aT A)) (ha : Ac (aT A)) {p : Int32} : okR (m_X7_stepsToLastHeir p s) (cl s (a_stepsToLastHeir (aT A) p) A) := presq h fun n hn hH => actq h w fun k hk e => by
  have hN := w.2.1
  have hC := hH.2.2.1
  rw [c_chainLengthFrom hC w ha hk, bP_some]
  exact okR_some.mpr (cl_in h)
theorem k_bequeathers (h : CK s A) (w : Sz (aT A)) {p : Int32} : okR (m_X7_bequeathers p s) (cl s (a_bequeathers (aT A) p) A) := presq h fun n hn hH => actq h w fun k hk e => by
  have hN := w.2.1
  have hC := hH.2.2.1
  have hX := w.2.2.1.1
  have h2 := (w.2.2.2.1 k hk).1
  simp (disch := omega) only [nIb, nN, if_pos, hC.hI hk]
  rw [c_echoesWithHeir hC w (by omega), bP_some]
  exact okR_some.mpr (cl_in h)
theorem k_rank (h : CK s A) (w : Sz (aT A)) {p : Int32} : okR (m_X7_rank p s) (cl s (a_rank (aT A) p) A) := presq h fun n hn hH => actq h w fun k hk e => by
  have hN := w.2.1
  have hC := hH.2.2.1
  rw [c_rankOf hC w hk, bP_some]
  exact okR_some.mpr (cl_in h)
theorem k_lastHeirByDoubling (h : CK s A) (w : Sz (aT A)) (ha : Ac (aT A)) {p : Int32} : okR (m_X7_lastHeirByDoubling p s) (cl s (a_lastHeir (aT A) p) A) := actq h w fun k hk e => presq h fun n hn hH => by
  have hN := w.2.1
  have h2 : lst (aT A) k < tN (aT A) := it_lt hk 24
  rw [okR_bindR]
  refine okR_mono (c_heirFill hH.2.2.1 w (th12 hn)) fun o s1 q => ?_
  obtain ⟨rfl, q1, q2⟩ := q
  have hC : RC (12 + n) s1 (aT A) := hH.2.2.1.ow q2 (by omega)
  rw [thn_l, c_endOfChain w ha q1 hk, bP_some]
  simp (disch := omega) only [nIb, nN, if_pos, hC.hI h2]
  exact okR_some.mpr ⟨rfl, h.kp (Kp.ow q2 (by decide)), (Ku.ow q2 (by decide)).up (by decide)⟩
theorem k_countInRows (h : CK s A) (w : Sz (aT A)) {p q : Int32} : okR (m_X7_countInRows p q s) (cl s (a_countInRows (aT A) p q) A) := rngq h w fun n a b hn hH hab hb e1 e2 => by
  have hR := w.1
  subst e1 e2
  rw [if_pos (th12 hn), c_echoesBetween hH.2.2.1 w (by omega) (by omega), bP_some]
  exact okR_some.mpr (cl_in h)
theorem k_countInRowsByTree (h : CK s A) (w : Sz (aT A)) {p q : Int32} : okR (m_X7_countInRowsByTree p q s) (cl s (a_countInRows (aT A) p q) A) := rngq h w fun n a b hn hH hab hb e1 e2 => by
  have hR := w.1
  subst e1 e2
  rw [if_pos (th12 hn), okR_bindR]
  refine okR_mono (c_treeFill hH.2.2.1 w (th12 hn)) fun o s1 q => ?_
  obtain ⟨rfl, q1, q2⟩ := q
  rw [thn_l, c_sumBetween q1 hab (by omega), bP_some, sm_btw _ (by omega)]
  exact okR_some.mpr ⟨rfl, h.kp (Kp.ow q2 (by decide)), (Ku.ow q2 (by decide)).up (by decide)⟩
theorem k_idByRank (h : CK s A) (w : Sz (aT A)) {p : Int32} : okR (m_X7_idByRank p s) (cl s (a_idByRank (aT A) p) A) := rkq h w fun n a k hn hH ha e1 e2 => by
  subst e1
  obtain ⟨k', _, k2, k3⟩ := c_idRanked hH.2.2.1 w ha
  have : k' = k := Option.some.inj (k2.symm.trans e2)
  subst this
  rw [if_pos (th12 hn), k3, bP_some]
  exact okR_some.mpr (cl_in h)
theorem k_idByRankByTree (h : CK s A) (w : Sz (aT A)) {p : Int32} : okR (m_X7_idByRankByTree p s) (cl s (a_idByRank (aT A) p) A) := rkq h w fun n a k hn hH ha e1 e2 => by
  subst e1
  rw [if_pos (th12 hn), okR_bindR]
  refine okR_mono (c_treeFill hH.2.2.1 w (th12 hn)) fun o s1 q => ?_
  obtain ⟨rfl, q1, q2⟩ := q
  have hC : RC (12 + n) s1 (aT A) := hH.2.2.1.ow q2 (by omega)
  obtain ⟨k', _, k2, k3⟩ := c_idRankedByTree hC w q1 ha
  have : k' = k := Option.some.inj (k2.symm.trans e2)
  subst this
  rw [thn_l, k3, bP_some]
  exact okR_some.mpr ⟨rfl, h.kp (Kp.ow q2 (by decide)), (Ku.ow q2 (by decide)).up (by decide)⟩
theorem k_loudest (h : CK s A) (w : Sz (aT A)) : okR (m_X7_loudest s) (cl s (a_loudest (aT A)) A) := presq h fun n hn hH => by
  have hN := w.2.1
  have hR := w.1
  have z : m_X6_loudestSlot (12 + n) 0 7 s = some (eo (bst (fun _ => true) (tU (aT A)) (tN (aT A)))) := c_loudestSlot hH.2.2.1 w (a := 0) (b := 7) (by decide) (by decide) (P := fun _ => true) (fun k hk => by have := (w.2.2.2.1 k hk).2.1; simp; omega)
  rw [z, bP_some, ltI, ltm]
  unfold a_loudest
  cases e : bst (fun _ => true) (tU (aT A)) (tN (aT A)) with
  | none => exact okR_some.mpr (cl_tr h)
  | some k =>
    have h1 := (bst_lt e).1
    simp (disch := omega) only [eo, m1_eq, not_false_eq_true, if_true, nIb, nN, if_pos, hH.2.2.1.hI h1]
    exact okR_some.mpr (cl_in h)
theorem boxq {α : Type} {f : Int32 → Mem → Res α} {p : Int32} {g : Nat → Nat ⊕ α} (h : CK s A) (H : ∀ b, b < 8 → okR (f (eo (tB (aT A) b)) s) (cl s (g b) A)) : okR (bindR (m_X7_rowNamedBy p s) f) (cl s (boxQ p g) A) := by
  have h0 := h
  obtain ⟨⟨n, hn, hH⟩, _⟩ := h
  unfold m_X7_rowNamedBy boxQ
  rw [c_isBoxName, bP_some]
  cases e : bxp p with
  | none => exact okR_some.mpr (cl_tr h0)
  | some b =>
    obtain ⟨e1, e2⟩ := bxp_lt e
    subst e2
    rw [show (if (some b).isSome = true then nI 1 else nI 0) = nI 1 from rfl, if_pos (show ¬ nI 1 = 0 by decide), c_present hH hn, bP_some, if_pos (th12 hn), show (97 : Int32) = nI 97 from rfl, nS' (by omega), show 97 + b - 97 = b by omega]
    simp (disch := omega) only [nIb, nN, if_pos, hH.2.2.1.hB e1]
    exact H b e1
theorem k_namedRow (h : CK s A) (w : Sz (aT A)) {p : Int32} : okR (m_X7_namedRow p s) (cl s (a_namedRow (aT A) p) A) := boxq h fun b hb => by
  rw [ltI, ltm]
  cases e : tB (aT A) b with
  | none => exact okR_some.mpr (cl_tr h)
  | some r =>
    have h1 := (w.2.2.2.2 b).2.2 r e
    simp (disch := omega) only [eo, m1_eq, not_false_eq_true, if_true]
    exact okR_some.mpr (cl_in h)
theorem seats_pos {c : Nat} {T : Th} (W : WT c T) (h : 1 ≤ tR T) : 1 ≤ sm (tC T) (tR T) ∧ sm (tC T) (tR T) ≤ 96 := by
  have h0 := W.1
  refine ⟨?_, Nat.le_trans (sm_le (c := 12) fun r _ => (W.2.2.2.2.2.2.2 r).1) (by omega)⟩
  have h1 := sm_mono (f := tC T) h
  have h2 := (W.2.2.2.2.2.2.1 0 h).1
  rw [show sm (tC T) 1 = tC T 0 from Nat.zero_add _] at h1
  omega
end
