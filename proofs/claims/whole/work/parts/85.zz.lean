/-! ===== each operation, in the class and in the reference ===== -/
def ZI (L : List String) (x : Res Int32) (y : Mem → Res Int32) (CC SS k : Nat) : Prop := ∃ v1 s1 v2 s2 A', wI L x = some (.inl v1, s1) ∧ y s1 = some (.inl v2, s2) ∧ gI s2 8 0 = v1 ∧ (v1 = 0 → gJ s2 9 0 = v2.toInt64) ∧ J CC SS (k + 1) s2 A'
def ZZ (L : List String) (x : Res Int32) (y : Mem → Res Int32) (CC SS k : Nat) : Prop := ∃ v1 s1 v2 s2 A', wZ L x = some (.inl v1, s1) ∧ y s1 = some (.inl v2, s2) ∧ gI s2 8 0 = v1 ∧ (v1 = 0 → gJ s2 9 0 = if v2 = 0 then 0 else 1) ∧ J CC SS (k + 1) s2 A'
def ZD (L : List String) (x : Res UInt64) (y : Mem → Res UInt64) (CC SS k : Nat) : Prop := ∃ v1 s1 v2 s2 A', wD L x = some (.inl v1, s1) ∧ y s1 = some (.inl v2, s2) ∧ gI s2 8 0 = v1 ∧ (v1 = 0 → gD s2 10 0 = v2 ∧ Op.cmpValue (FP.dcmp v2 v2) .l = 0) ∧ J CC SS (k + 1) s2 A'
def ZF (L : List String) (x : Res UInt32) (y : Mem → Res UInt32) (CC SS k : Nat) : Prop := ∃ v1 s1 v2 s2 A', wF L x = some (.inl v1, s1) ∧ y s1 = some (.inl v2, s2) ∧ gI s2 8 0 = v1 ∧ (v1 = 0 → gD s2 10 0 = FP.f2d v2 ∧ np64 (FP.f2d v2) ∧ Op.cmpValue (FP.dcmp (FP.f2d v2) (FP.f2d v2)) .l = 0) ∧ J CC SS (k + 1) s2 A'
def ZR {α : Type} (x : Res α) (y : Mem → Res α) (CC SS k : Nat) : Prop := ∃ v s1 s2 A', x = some (.inl v, s1) ∧ y s1 = some (.inl v, s2) ∧ J CC SS (k + 1) s2 A'
theorem fpD : ∀ a, a < 25 → ∀ b, b < 97 → 1 ≤ b → np64 (FP.f2d (FP.fdiv (FP.i2f (nI a)) (FP.i2f (nI b)))) := by decide +kernel
theorem fpE : ∀ a, a < 25 → ∀ b, b < 97 → 1 ≤ b → Op.cmpValue (FP.dcmp (FP.f2d (FP.fdiv (FP.i2f (nI a)) (FP.i2f (nI b)))) (FP.f2d (FP.fdiv (FP.i2f (nI a)) (FP.i2f (nI b))))) .l = 0 := by decide +kernel
theorem fpG : ∀ a, a < 25 → ∀ b, b < 9 → 1 ≤ b → Op.cmpValue (FP.dcmp (FP.ddiv (FP.i2d (nI a)) (FP.i2d (nI b))) (FP.ddiv (FP.i2d (nI a)) (FP.i2d (nI b)))) .l = 0 := by decide +kernel
section
variable {σ : Mem} {A A' : Ab} {CC SS k : Nat} {L : List String} {Lr : List Nat} {p q : Int32}
theorem zi_of {x : Res Int32} {y : Mem → Res Int32} {r : Nat ⊕ Int32} (h : J CC SS k σ A) (hx : okR x (cl σ r A')) (hy : ∀ s, MK s A → okR (y s) (ml Lr r A')) (hq : ∀ s, Fq s (y s)) (hL : Cdo L Lr r) (hw : WA (10 * (k + 1)) A') : ZI L x y CC SS k := by
  obtain ⟨v1, s1, v2, s2, a, b, c, d, e⟩ := z_I h hx hy hq hL hw
  exact ⟨v1, s1, v2, s2, _, a, b, c, d, e⟩
theorem zz_of {x : Res Int32} {y : Mem → Res Int32} {r : Nat ⊕ Int32} (h : J CC SS k σ A) (hx : okR x (cl σ r A')) (hy : ∀ s, MK s A → okR (y s) (ml Lr r A')) (hq : ∀ s, Fq s (y s)) (hL : Cdo L Lr r) (hw : WA (10 * (k + 1)) A') : ZZ L x y CC SS k := by
  obtain ⟨v1, s1, v2, s2, a, b, c, d, e⟩ := z_Z h hx hy hq hL hw
  exact ⟨v1, s1, v2, s2, _, a, b, c, d, e⟩
theorem zr_of {x : Res Int32} {v : Int32} {y : Mem → Res Int32} (h : J CC SS k σ A) (hx : okR x (cl σ (.inr v) A')) (hy : ∀ s, MK s A → okR (y s) (ml [] (.inr v) A')) (hq : ∀ s, Fq s (y s)) (hw : WA (10 * (k + 1)) A') : ZR x y CC SS k := by
  obtain ⟨s1, s2, a, b, c⟩ := z_R h hx hy hq hw
  exact ⟨v, s1, s2, _, a, b, c⟩
theorem zp_of {α : Type} {v : α} {x : Option α} {y : Mem → Res α} (h : J CC SS k σ A) (hx : x = some v) (hy : ∀ s, MK s A → okR (y s) (ml (α := α) [] (.inr v) A)) (hq : ∀ s, Fq s (y s)) : ZR (pur σ x) y CC SS k := by
  obtain ⟨s2, b, c⟩ := z_P h hy hq
  exact ⟨v, σ, s2, _, by rw [hx]; rfl, b, c⟩
theorem J.wt (h : J CC SS k σ A) : WT (10 * k) (aT A) := h.2.2.1.1
theorem J.sz (h : J CC SS k σ A) (hk : k ≤ 512) : Sz (aT A) := h.wt.sz (by omega)
theorem J.up (h : J CC SS k σ A) : WA (10 * (k + 1)) A := h.2.2.1.up (by omega)
theorem zo_addRow (h : J CC SS k σ A) (hk : k ≤ 512) : ZI ["java/lang/IllegalArgumentException", "java/lang/IllegalStateException"] (m_X7_addRow p σ) (m_X8_addRow p) CC SS k :=
  zi_of h (k_addRow h.1 h.2.2.1 (by omega)) (fun s hs => q_addRow hs h.2.2.1 (by omega)) (f_X8_addRow p) (cdo_ch (by decide) (by intro c hc; rcases hc with rfl | rfl | rfl | rfl <;> decide +kernel)) ((h.2.2.1.chA (by decide)).up (by omega))
theorem zo_addPhantoms (h : J CC SS k σ A) (hk : k ≤ 512) : ZI ["java/lang/IndexOutOfBoundsException", "java/lang/IllegalArgumentException", "java/lang/IllegalStateException"] (m_X7_addPhantoms p q σ) (m_X8_addPhantoms p q) CC SS k :=
  zi_of h (k_addPhantoms h.1 h.2.2.1 (by omega)) (fun s hs => q_addPhantoms hs h.2.2.1 (by omega)) (f_X8_addPhantoms p q) (cdo_ch (by decide) (by intro c hc; rcases hc with rfl | rfl | rfl | rfl <;> decide +kernel)) ((h.2.2.1.chA (by decide)).up (by omega))
theorem zo_removePhantoms (h : J CC SS k σ A) (hk : k ≤ 512) : ZI ["java/lang/IndexOutOfBoundsException", "java/lang/IllegalArgumentException", "java/lang/IllegalStateException"] (m_X7_removePhantoms p q σ) (m_X8_removePhantoms p q) CC SS k :=
  zi_of h (k_removePhantoms h.1 h.2.2.1 (by omega)) (fun s hs => q_removePhantoms hs h.2.2.1 (by omega)) (f_X8_removePhantoms p q) (cdo_ch (by decide) (by intro c hc; rcases hc with rfl | rfl | rfl | rfl <;> decide +kernel)) ((h.2.2.1.chA (by decide)).up (by omega))
theorem zo_add (h : J CC SS k σ A) (hk : k ≤ 512) : ZI ["java/lang/IndexOutOfBoundsException", "java/lang/IllegalArgumentException", "java/lang/IllegalStateException"] (m_X7_add p q σ) (m_X8_add p q) CC SS k :=
  zi_of h (k_add h.1 h.2.2.1 (by omega)) (fun s hs => q_add hs h.2.2.1 (by omega)) (f_X8_add p q) (cdo_ch (by decide) (by intro c hc; rcases hc with rfl | rfl | rfl | rfl <;> decide +kernel)) ((h.2.2.1.chA (by decide)).up (by omega))
theorem zo_move (h : J CC SS k σ A) (hk : k ≤ 512) : ZI ["java/util/NoSuchElementException", "java/lang/IndexOutOfBoundsException", "java/lang/IllegalStateException"] (m_X7_move p q σ) (m_X8_move p q) CC SS k :=
  zi_of h (k_move h.1 h.2.2.1 (by omega)) (fun s hs => q_move hs h.2.2.1 (by omega)) (f_X8_move p q) (cdo_ch (by decide) (by intro c hc; rcases hc with rfl | rfl | rfl | rfl <;> decide +kernel)) ((h.2.2.1.chA (by decide)).up (by omega))
theorem zo_remove (h : J CC SS k σ A) (hk : k ≤ 512) : ZI ["java/util/NoSuchElementException", "java/lang/IllegalStateException"] (m_X7_remove p σ) (m_X8_remove p) CC SS k :=
  zi_of h (k_remove h.1 h.2.2.1 (by omega)) (fun s hs => q_remove hs h.2.2.1 (by omega)) (f_X8_remove p) (cdo_ch (by decide) (by intro c hc; rcases hc with rfl | rfl | rfl | rfl <;> decide +kernel)) ((h.2.2.1.chA (by decide)).up (by omega))
theorem zo_setHeir (h : J CC SS k σ A) (hk : k ≤ 512) : ZI ["java/util/NoSuchElementException", "java/lang/IllegalArgumentException", "java/lang/IllegalStateException"] (m_X7_setHeir p q σ) (m_X8_setHeir p q) CC SS k :=
  zi_of h (k_setHeir h.1 h.2.2.1 (by omega)) (fun s hs => q_setHeir hs h.2.2.1 (by omega)) (f_X8_setHeir p q) (cdo_ch (by decide) (by intro c hc; rcases hc with rfl | rfl | rfl | rfl <;> decide +kernel)) ((h.2.2.1.chA (by decide)).up (by omega))
theorem zo_clearHeir (h : J CC SS k σ A) (hk : k ≤ 512) : ZI ["java/util/NoSuchElementException", "java/lang/IllegalStateException"] (m_X7_clearHeir p σ) (m_X8_clearHeir p) CC SS k :=
  zi_of h (k_clearHeir h.1 h.2.2.1 (by omega)) (fun s hs => q_clearHeir hs h.2.2.1 (by omega)) (f_X8_clearHeir p) (cdo_ch (by decide) (by intro c hc; rcases hc with rfl | rfl | rfl | rfl <;> decide +kernel)) ((h.2.2.1.chA (by decide)).up (by omega))
theorem zo_lock (h : J CC SS k σ A) (hk : k ≤ 512) : ZI ["java/lang/IndexOutOfBoundsException", "java/lang/IllegalStateException"] (m_X7_lock p σ) (m_X8_lock p) CC SS k :=
  zi_of h (k_lock h.1 h.2.2.1 (by omega)) (fun s hs => q_lock hs h.2.2.1 (by omega)) (f_X8_lock p) (cdo_ch (by decide) (by intro c hc; rcases hc with rfl | rfl | rfl | rfl <;> decide +kernel)) ((h.2.2.1.chA (by decide)).up (by omega))
theorem zo_unlock (h : J CC SS k σ A) (hk : k ≤ 512) : ZI ["java/lang/IndexOutOfBoundsException", "java/lang/IllegalStateException"] (m_X7_unlock p σ) (m_X8_unlock p) CC SS k :=
  zi_of h (k_unlock h.1 h.2.2.1 (by omega)) (fun s hs => q_unlock hs h.2.2.1 (by omega)) (f_X8_unlock p) (cdo_ch (by decide) (by intro c hc; rcases hc with rfl | rfl | rfl | rfl <;> decide +kernel)) ((h.2.2.1.chA (by decide)).up (by omega))
theorem zo_nameRow (h : J CC SS k σ A) (hk : k ≤ 512) : ZI ["java/lang/IllegalArgumentException", "java/lang/IndexOutOfBoundsException"] (m_X7_nameRow p q σ) (m_X8_nameRow p q) CC SS k :=
  zi_of h (k_nameRow h.1 h.2.2.1 (by omega)) (fun s hs => q_nameRow hs h.2.2.1 (by omega)) (f_X8_nameRow p q) (cdo_ch (by decide) (by intro c hc; rcases hc with rfl | rfl | rfl | rfl <;> decide +kernel)) ((h.2.2.1.chA (by decide)).up (by omega))
theorem zo_spread (h : J CC SS k σ A) (hk : k ≤ 512) : ZI ["java/lang/IndexOutOfBoundsException", "java/lang/IllegalStateException"] (m_X7_spread p σ) (m_X8_spread p) CC SS k :=
  zi_of h (k_spread h.1 h.2.2.1 (by omega)) (fun s hs => q_spread hs h.2.2.1 (by omega)) (f_X8_spread p) (cdo_ch (by decide) (by intro c hc; rcases hc with rfl | rfl | rfl | rfl <;> decide +kernel)) ((h.2.2.1.chA (by decide)).up (by omega))
theorem zo_capacity (h : J CC SS k σ A) (hk : k ≤ 512) : ZI ["java/lang/IndexOutOfBoundsException"] (m_X7_capacity p σ) (m_X8_capacity p) CC SS k :=
  zi_of h (k_capacity h.1 (h.sz hk)) (fun s hs => q_capacity hs (h.sz hk)) (f_X8_capacity p) (cdo_of (P := fun c => c = 2) (fun c e => rowQ_l (P := fun c => c = 2) rfl (fun r c e => by simp at e) e) (by rintro c rfl; decide +kernel)) h.up
theorem zo_phantoms (h : J CC SS k σ A) (hk : k ≤ 512) : ZI ["java/lang/IndexOutOfBoundsException"] (m_X7_phantoms p σ) (m_X8_phantoms p) CC SS k :=
  zi_of h (k_phantoms h.1 (h.sz hk)) (fun s hs => q_phantoms hs (h.sz hk)) (f_X8_phantoms p) (cdo_of (P := fun c => c = 2) (fun c e => rowQ_l (P := fun c => c = 2) rfl (fun r c e => by simp at e) e) (by rintro c rfl; decide +kernel)) h.up
theorem zo_occupancy (h : J CC SS k σ A) (hk : k ≤ 512) : ZI ["java/lang/IndexOutOfBoundsException"] (m_X7_occupancy p σ) (m_X8_occupancy p) CC SS k :=
  zi_of h (k_occupancy h.1 (h.sz hk)) (fun s hs => q_occupancy hs (h.sz hk)) (f_X8_occupancy p) (cdo_of (P := fun c => c = 2) (fun c e => rowQ_l (P := fun c => c = 2) rfl (fun r c e => by simp at e) e) (by rintro c rfl; decide +kernel)) h.up
theorem zo_rowLoudness (h : J CC SS k σ A) (hk : k ≤ 512) : ZI ["java/lang/IndexOutOfBoundsException"] (m_X7_rowLoudness p σ) (m_X8_rowLoudness p) CC SS k :=
  zi_of h (k_rowLoudness h.1 (h.sz hk)) (fun s hs => q_rowLoudness hs (h.sz hk)) (f_X8_rowLoudness p) (cdo_of (P := fun c => c = 2) (fun c e => rowQ_l (P := fun c => c = 2) rfl (fun r c e => by simp at e) e) (by rintro c rfl; decide +kernel)) h.up
theorem zo_boxCount (h : J CC SS k σ A) (hk : k ≤ 512) : ZI ["java/lang/IndexOutOfBoundsException"] (m_X7_boxCount p σ) (m_X8_boxCount p) CC SS k :=
  zi_of h (k_boxCount h.1 (h.sz hk)) (fun s hs => q_boxCount hs (h.sz hk)) (f_X8_boxCount p) (cdo_of (P := fun c => c = 2) (fun c e => rowQ_l (P := fun c => c = 2) rfl (fun r c e => by simp at e) e) (by rintro c rfl; decide +kernel)) h.up
theorem zo_freeSeats (h : J CC SS k σ A) (hk : k ≤ 512) : ZI ["java/lang/IndexOutOfBoundsException"] (m_X7_freeSeats p σ) (m_X8_freeSeats p) CC SS k :=
  zi_of h (k_freeSeats h.1 (h.sz hk) h.wt) (fun s hs => q_freeSeats hs (h.sz hk) h.wt) (f_X8_freeSeats p) (cdo_of (P := fun c => c = 2) (fun c e => rowQ_l (P := fun c => c = 2) rfl (fun r c e => by simp at e) e) (by rintro c rfl; decide +kernel)) h.up
theorem zo_isLocked (h : J CC SS k σ A) (hk : k ≤ 512) : ZZ ["java/lang/IndexOutOfBoundsException"] (m_X7_isLocked p σ) (m_X8_isLocked p) CC SS k :=
  zz_of h (k_isLocked h.1 (h.sz hk)) (fun s hs => q_isLocked hs (h.sz hk)) (f_X8_isLocked p) (cdo_of (P := fun c => c = 2) (fun c e => rowQ_l (P := fun c => c = 2) rfl (fun r c e => by simp at e) e) (by rintro c rfl; decide +kernel)) h.up
theorem zo_isCrowded (h : J CC SS k σ A) (hk : k ≤ 512) : ZZ ["java/lang/IndexOutOfBoundsException"] (m_X7_isCrowded p σ) (m_X8_isCrowded p) CC SS k :=
  zz_of h (k_isCrowded h.1 (h.sz hk)) (fun s hs => q_isCrowded hs (h.sz hk)) (f_X8_isCrowded p) (cdo_of (P := fun c => c = 2) (fun c e => rowQ_l (P := fun c => c = 2) rfl (fun r c e => by simp at e) e) (by rintro c rfl; decide +kernel)) h.up
theorem zo_idInRow (h : J CC SS k σ A) (hk : k ≤ 512) : ZI ["java/lang/IndexOutOfBoundsException", "java/util/NoSuchElementException"] (m_X7_idInRow p q σ) (m_X8_idInRow p q) CC SS k :=
  zi_of h (k_idInRow h.1 (h.sz hk)) (fun s hs => q_idInRow hs (h.sz hk)) (f_X8_idInRow p q) (cdo_of (P := fun c => c = 2 ∨ c = 1) (fun c e => rowQ_l (P := fun c => c = 2 ∨ c = 1) (Or.inl rfl) (fun r c e => by revert e; split <;> intro e <;> simp at e <;> omega) e) (by rintro c (rfl | rfl) <;> decide +kernel)) h.up
theorem zo_rowOf (h : J CC SS k σ A) (hk : k ≤ 512) : ZI ["java/util/NoSuchElementException"] (m_X7_rowOf p σ) (m_X8_rowOf p) CC SS k :=
  zi_of h (k_rowOf h.1 (h.sz hk)) (fun s hs => q_rowOf hs (h.sz hk)) (f_X8_rowOf p) (cdo_of (P := fun c => c = 1) (fun c e => actQ_l (P := fun c => c = 1) rfl (fun r c e => by simp at e) e) (by rintro c rfl; decide +kernel)) h.up
theorem zo_loudness (h : J CC SS k σ A) (hk : k ≤ 512) : ZI ["java/util/NoSuchElementException"] (m_X7_loudness p σ) (m_X8_loudness p) CC SS k :=
  zi_of h (k_loudness h.1 (h.sz hk)) (fun s hs => q_loudness hs (h.sz hk)) (f_X8_loudness p) (cdo_of (P := fun c => c = 1) (fun c e => actQ_l (P := fun c => c = 1) rfl (fun r c e => by simp at e) e) (by rintro c rfl; decide +kernel)) h.up
theorem zo_positionInRow (h : J CC SS k σ A) (hk : k ≤ 512) : ZI ["java/util/NoSuchElementException"] (m_X7_positionInRow p σ) (m_X8_positionInRow p) CC SS k :=
  zi_of h (k_positionInRow h.1 (h.sz hk)) (fun s hs => q_positionInRow hs (h.sz hk)) (f_X8_positionInRow p) (cdo_of (P := fun c => c = 1) (fun c e => actQ_l (P := fun c => c = 1) rfl (fun r c e => by simp at e) e) (by rintro c rfl; decide +kernel)) h.up
theorem zo_bequeathers (h : J CC SS k σ A) (hk : k ≤ 512) : ZI ["java/util/NoSuchElementException"] (m_X7_bequeathers p σ) (m_X8_bequeathers p) CC SS k :=
  zi_of h (k_bequeathers h.1 (h.sz hk)) (fun s hs => q_bequeathers hs (h.sz hk)) (f_X8_bequeathers p) (cdo_of (P := fun c => c = 1) (fun c e => actQ_l (P := fun c => c = 1) rfl (fun r c e => by simp at e) e) (by rintro c rfl; decide +kernel)) h.up
theorem zo_rank (h : J CC SS k σ A) (hk : k ≤ 512) : ZI ["java/util/NoSuchElementException"] (m_X7_rank p σ) (m_X8_rank p) CC SS k :=
  zi_of h (k_rank h.1 (h.sz hk)) (fun s hs => q_rank hs (h.sz hk)) (f_X8_rank p) (cdo_of (P := fun c => c = 1) (fun c e => actQ_l (P := fun c => c = 1) rfl (fun r c e => by simp at e) e) (by rintro c rfl; decide +kernel)) h.up
theorem zo_hasHeir (h : J CC SS k σ A) (hk : k ≤ 512) : ZZ ["java/util/NoSuchElementException"] (m_X7_hasHeir p σ) (m_X8_hasHeir p) CC SS k :=
  zz_of h (k_hasHeir h.1 (h.sz hk)) (fun s hs => q_hasHeir hs (h.sz hk)) (f_X8_hasHeir p) (cdo_of (P := fun c => c = 1) (fun c e => actQ_l (P := fun c => c = 1) rfl (fun r c e => by simp at e) e) (by rintro c rfl; decide +kernel)) h.up
theorem zo_heir (h : J CC SS k σ A) (hk : k ≤ 512) : ZI ["java/util/NoSuchElementException", "java/lang/IllegalStateException"] (m_X7_heir p σ) (m_X8_heir p) CC SS k :=
  zi_of h (k_heir h.1 (h.sz hk)) (fun s hs => q_heir hs (h.sz hk)) (f_X8_heir p) (cdo_of (P := fun c => c = 1 ∨ c = 4) (fun c e => actQ_l (P := fun c => c = 1 ∨ c = 4) (Or.inl rfl) (fun r c e => by revert e; split <;> intro e <;> simp at e <;> omega) e) (by rintro c (rfl | rfl) <;> decide +kernel)) h.up
theorem zo_lastHeir (h : J CC SS k σ A) (hk : k ≤ 512) : ZI ["java/util/NoSuchElementException"] (m_X7_lastHeir p σ) (m_X8_lastHeir p) CC SS k :=
  zi_of h (k_lastHeir h.1 (h.sz hk) h.wt.ac) (fun s hs => q_lastHeir hs (h.sz hk) h.wt) (f_X8_lastHeir p) (cdo_of (P := fun c => c = 1) (fun c e => actQ_l (P := fun c => c = 1) rfl (fun r c e => by simp at e) e) (by rintro c rfl; decide +kernel)) h.up
theorem zo_lastHeirByDoubling (h : J CC SS k σ A) (hk : k ≤ 512) : ZI ["java/util/NoSuchElementException"] (m_X7_lastHeirByDoubling p σ) (m_X8_lastHeirByDoubling p) CC SS k :=
  zi_of h (k_lastHeirByDoubling h.1 (h.sz hk) h.wt.ac) (fun s hs => q_lastHeirByDoubling hs (h.sz hk) h.wt) (f_X8_lastHeirByDoubling p) (cdo_of (P := fun c => c = 1) (fun c e => actQ_l (P := fun c => c = 1) rfl (fun r c e => by simp at e) e) (by rintro c rfl; decide +kernel)) h.up
theorem zo_stepsToLastHeir (h : J CC SS k σ A) (hk : k ≤ 512) : ZI ["java/util/NoSuchElementException"] (m_X7_stepsToLastHeir p σ) (m_X8_stepsToLastHeir p) CC SS k :=
  zi_of h (k_stepsToLastHeir h.1 (h.sz hk) h.wt.ac) (fun s hs => q_stepsToLastHeir hs (h.sz hk) h.wt) (f_X8_stepsToLastHeir p) (cdo_of (P := fun c => c = 1) (fun c e => actQ_l (P := fun c => c = 1) rfl (fun r c e => by simp at e) e) (by rintro c rfl; decide +kernel)) h.up
theorem zo_countInRows (h : J CC SS k σ A) (hk : k ≤ 512) : ZI ["java/lang/IndexOutOfBoundsException", "java/lang/IllegalArgumentException"] (m_X7_countInRows p q σ) (m_X8_countInRows p q) CC SS k :=
  zi_of h (k_countInRows h.1 (h.sz hk)) (fun s hs => q_countInRows hs (h.sz hk)) (f_X8_countInRows p q) (cdo_of (P := fun c => c = 2 ∨ c = 3) (fun c e => rngQ_l (P := fun c => c = 2 ∨ c = 3) (Or.inl rfl) (Or.inr rfl) (fun a b c e => by simp at e) e) (by rintro c (rfl | rfl) <;> decide +kernel)) h.up
theorem zo_countInRowsByTree (h : J CC SS k σ A) (hk : k ≤ 512) : ZI ["java/lang/IndexOutOfBoundsException", "java/lang/IllegalArgumentException"] (m_X7_countInRowsByTree p q σ) (m_X8_countInRowsByTree p q) CC SS k :=
  zi_of h (k_countInRowsByTree h.1 (h.sz hk)) (fun s hs => q_countInRowsByTree hs (h.sz hk)) (f_X8_countInRowsByTree p q) (cdo_of (P := fun c => c = 2 ∨ c = 3) (fun c e => rngQ_l (P := fun c => c = 2 ∨ c = 3) (Or.inl rfl) (Or.inr rfl) (fun a b c e => by simp at e) e) (by rintro c (rfl | rfl) <;> decide +kernel)) h.up
theorem zo_idByRank (h : J CC SS k σ A) (hk : k ≤ 512) : ZI ["java/util/NoSuchElementException"] (m_X7_idByRank p σ) (m_X8_idByRank p) CC SS k :=
  zi_of h (k_idByRank h.1 (h.sz hk)) (fun s hs => q_idByRank hs (h.sz hk)) (f_X8_idByRank p) (cdo_of (P := fun c => c = 1) (fun c e => rkQ_l (P := fun c => c = 1) rfl (fun r c e => by simp at e) e) (by rintro c rfl; decide +kernel)) h.up
theorem zo_idByRankByTree (h : J CC SS k σ A) (hk : k ≤ 512) : ZI ["java/util/NoSuchElementException"] (m_X7_idByRankByTree p σ) (m_X8_idByRankByTree p) CC SS k :=
  zi_of h (k_idByRankByTree h.1 (h.sz hk)) (fun s hs => q_idByRankByTree hs (h.sz hk)) (f_X8_idByRankByTree p) (cdo_of (P := fun c => c = 1) (fun c e => rkQ_l (P := fun c => c = 1) rfl (fun r c e => by simp at e) e) (by rintro c rfl; decide +kernel)) h.up
theorem zo_loudest (h : J CC SS k σ A) (hk : k ≤ 512) : ZI ["java/util/NoSuchElementException"] (m_X7_loudest σ) (m_X8_loudest) CC SS k :=
  zi_of h (k_loudest h.1 (h.sz hk)) (fun s hs => q_loudest hs (h.sz hk)) (f_X8_loudest) (cdo_of (P := fun c => c = 1) (fun c e => by revert e; unfold a_loudest; (repeat' split) <;> intro e <;> simp at e <;> omega) (by rintro c (rfl) <;> decide +kernel)) h.up
theorem zo_quietestRow (h : J CC SS k σ A) (hk : k ≤ 512) : ZI ["java/util/NoSuchElementException"] (m_X7_quietestRow σ) (m_X8_quietestRow) CC SS k :=
  zi_of h (k_quietestRow h.1 (h.sz hk)) (fun s hs => q_quietestRow hs (h.sz hk)) (f_X8_quietestRow) (cdo_of (P := fun c => c = 1) (fun c e => by revert e; unfold a_quietestRow; (repeat' split) <;> intro e <;> simp at e <;> omega) (by rintro c (rfl) <;> decide +kernel)) h.up
theorem zo_isNamed (h : J CC SS k σ A) (hk : k ≤ 512) : ZZ ["java/lang/IllegalArgumentException"] (m_X7_isNamed p σ) (m_X8_isNamed p) CC SS k :=
  zz_of h (k_isNamed h.1 (h.sz hk)) (fun s hs => q_isNamed hs (h.sz hk)) (f_X8_isNamed p) (cdo_of (P := fun c => c = 3) (fun c e => boxQ_l (P := fun c => c = 3) rfl (fun r c e => by simp at e) e) (by rintro c rfl; decide +kernel)) h.up
theorem zo_namedRow (h : J CC SS k σ A) (hk : k ≤ 512) : ZI ["java/lang/IllegalArgumentException", "java/util/NoSuchElementException"] (m_X7_namedRow p σ) (m_X8_namedRow p) CC SS k :=
  zi_of h (k_namedRow h.1 (h.sz hk)) (fun s hs => q_namedRow hs (h.sz hk)) (f_X8_namedRow p) (cdo_of (P := fun c => c = 3 ∨ c = 1) (fun c e => boxQ_l (P := fun c => c = 3 ∨ c = 1) (Or.inl rfl) (fun r c e => by revert e; split <;> intro e <;> simp at e <;> omega) e) (by rintro c (rfl | rfl) <;> decide +kernel)) h.up
theorem zo_formatRow (h : J CC SS k σ A) (hk : k ≤ 512) : ZI ["java/lang/IndexOutOfBoundsException"] (m_X7_formatRow p σ) (m_X8_formatRow p) CC SS k :=
  zi_of h (k_formatRow h.1 (h.sz hk)) (fun s hs => q_formatRow hs (h.sz hk)) (f_X8_formatRow p) (cdo_of (P := fun c => c = 2) (fun c e => by revert e; unfold frA; (repeat' split) <;> intro e <;> simp at e <;> omega) (by rintro c (rfl) <;> decide +kernel)) ((h.2.2.1.fr (h.sz hk)).up (by omega))
theorem zo_formatEcho (h : J CC SS k σ A) (hk : k ≤ 512) : ZI ["java/util/NoSuchElementException"] (m_X7_formatEcho p σ) (m_X8_formatEcho p) CC SS k :=
  zi_of h (k_formatEcho h.1 (h.sz hk)) (fun s hs => q_formatEcho hs (h.sz hk)) (f_X8_formatEcho p) (cdo_of (P := fun c => c = 1) (fun c e => by revert e; unfold feA; (repeat' split) <;> intro e <;> simp at e <;> omega) (by rintro c (rfl) <;> decide +kernel)) ((h.2.2.1.fe (h.sz hk)).up (by omega))
theorem zo_lineChar (h : J CC SS k σ A) (hk : k ≤ 512) : ZI ["java/lang/IndexOutOfBoundsException"] (m_X7_lineChar p σ) (m_X8_lineChar p) CC SS k :=
  zi_of h (k_lineChar h.1 h.2.2.1.2.2.2.2.2.1 h.2.2.1.2.2.2.2.2.2.2.2.2) (fun s hs => q_lineChar hs h.2.2.1.2.2.2.2.2.1 h.2.2.1.2.2.2.2.2.2.2.2.2) (f_X8_lineChar p) (cdo_of (P := fun c => c = 2) (fun c e => by revert e; unfold a_lineChar; (repeat' split) <;> intro e <;> simp at e <;> omega) (by rintro c (rfl) <;> decide +kernel)) h.up
theorem zo_append (h : J CC SS k σ A) (hk : k ≤ 512) : ZI ["java/lang/IllegalArgumentException", "java/lang/IllegalStateException"] (m_X7_append p σ) (m_X8_append p) CC SS k :=
  zi_of h (k_append h.1 h.2.2.1.2.2.2.2.1) (fun s hs => q_append hs h.2.2.1.2.2.2.2.1) (f_X8_append p) (cdo_of (P := fun c => c = 3 ∨ c = 4) (fun c e => by revert e; unfold apA; (repeat' split) <;> intro e <;> simp at e <;> omega) (by rintro c (rfl | rfl) <;> decide +kernel)) (h.2.2.1.ap.up (by omega))
theorem zo_run (h : J CC SS k σ A) (hk : k ≤ 512) : ZI ["java/lang/IllegalArgumentException", "java/lang/IllegalStateException"] (m_X7_run σ) (m_X8_run) CC SS k :=
  zi_of h (k_run h.1 h.2.2.1 (by omega)) (fun s hs => q_run hs h.2.2.1 (by omega)) (f_X8_run) (cdo_of (P := fun c => c = 3 ∨ c = 4) (fun c e => by revert e; unfold runA; (repeat' split) <;> intro e <;> simp at e <;> omega) (by rintro c (rfl | rfl) <;> decide +kernel)) (h.2.2.1.run.up (by omega))
theorem zo_errorPosition (h : J CC SS k σ A) (hk : k ≤ 512) : ZI ["java/util/NoSuchElementException"] (m_X7_errorPosition σ) (m_X8_errorPosition) CC SS k :=
  zi_of h (k_errorPosition h.1 h.2.2.1.2.2.2.2.2.2.1) (fun s hs => q_errorPosition hs h.2.2.1.2.2.2.2.2.2.1) (f_X8_errorPosition) (cdo_of (P := fun c => c = 1) (fun c e => by revert e; unfold stoQ; (repeat' split) <;> intro e <;> simp at e <;> omega) (by rintro c (rfl) <;> decide +kernel)) h.up
theorem zo_failedCommand (h : J CC SS k σ A) (hk : k ≤ 512) : ZI ["java/util/NoSuchElementException"] (m_X7_failedCommand σ) (m_X8_failedCommand) CC SS k :=
  zi_of h (k_failedCommand h.1 h.2.2.1.2.2.2.2.2.2.2.1) (fun s hs => q_failedCommand hs h.2.2.1.2.2.2.2.2.2.2.1) (f_X8_failedCommand) (cdo_of (P := fun c => c = 1) (fun c e => by revert e; unfold stoQ; (repeat' split) <;> intro e <;> simp at e <;> omega) (by rintro c (rfl) <;> decide +kernel)) h.up
theorem zo_undo (h : J CC SS k σ A) (hk : k ≤ 512) : ZI ["java/lang/IllegalStateException"] (m_X7_undo σ) (m_X8_undo) CC SS k :=
  zi_of h (k_undo h.1 h.2.2.1.2.1) (fun s hs => q_undo hs h.2.2.1.2.1 (fun j hj => (h.2.2.1.2.2.1 j hj).sz (by omega))) (f_X8_undo) (cdo_of (P := fun c => c = 4) (fun c e => by revert e; unfold undA; (repeat' split) <;> intro e <;> simp at e <;> omega) (by rintro c (rfl) <;> decide +kernel)) (h.2.2.1.und.up (by omega))
theorem zo_restore (h : J CC SS k σ A) (hk : k ≤ 512) : ZI ["java/lang/IllegalStateException"] (m_X7_restore σ) (m_X8_restore) CC SS k :=
  zi_of h (k_restore h.1 (fun T e => (h.2.2.1.2.2.2.1 T e).sz (by omega))) (fun s hs => q_restore hs (fun T e => (h.2.2.1.2.2.2.1 T e).sz (by omega))) (f_X8_restore) (cdo_of (P := fun c => c = 4) (fun c e => by revert e; unfold rstA; (repeat' split) <;> intro e <;> simp at e <;> omega) (by rintro c (rfl) <;> decide +kernel)) (h.2.2.1.rst.up (by omega))
theorem zo_rowCount (h : J CC SS k σ A) (hk : k ≤ 512) : ZR (pur σ (m_X7_rowCount σ)) (m_X8_rowCount) CC SS k :=
  zp_of h (k_rowCount h.1 ) (fun s hs => q_rowCount hs ) (f_X8_rowCount)
theorem zo_echoCount (h : J CC SS k σ A) (hk : k ≤ 512) : ZR (pur σ (m_X7_echoCount σ)) (m_X8_echoCount) CC SS k :=
  zp_of h (k_echoCount h.1 ) (fun s hs => q_echoCount hs ) (f_X8_echoCount)
theorem zo_moveCount (h : J CC SS k σ A) (hk : k ≤ 512) : ZR (pur σ (m_X7_moveCount σ)) (m_X8_moveCount) CC SS k :=
  zp_of h (k_moveCount h.1 ) (fun s hs => q_moveCount hs ) (f_X8_moveCount)
theorem zo_removeCount (h : J CC SS k σ A) (hk : k ≤ 512) : ZR (pur σ (m_X7_removeCount σ)) (m_X8_removeCount) CC SS k :=
  zp_of h (k_removeCount h.1 ) (fun s hs => q_removeCount hs ) (f_X8_removeCount)
theorem zo_undoableCount (h : J CC SS k σ A) (hk : k ≤ 512) : ZR (pur σ (m_X7_undoableCount σ)) (m_X8_undoableCount) CC SS k :=
  zp_of h (k_undoableCount h.1 ) (fun s hs => q_undoableCount hs ) (f_X8_undoableCount)
theorem zo_addedLoudness (h : J CC SS k σ A) (hk : k ≤ 512) : ZR (pur σ (m_X7_addedLoudness σ)) (m_X8_addedLoudness) CC SS k :=
  zp_of h (k_addedLoudness h.1 ) (fun s hs => q_addedLoudness hs (h.sz hk)) (f_X8_addedLoudness)
theorem zo_lostLoudness (h : J CC SS k σ A) (hk : k ≤ 512) : ZR (pur σ (m_X7_lostLoudness σ)) (m_X8_lostLoudness) CC SS k :=
  zp_of h (k_lostLoudness h.1 ) (fun s hs => q_lostLoudness hs (h.sz hk)) (f_X8_lostLoudness)
theorem zo_activeLoudness (h : J CC SS k σ A) (hk : k ≤ 512) : ZR (pur σ (m_X7_activeLoudness σ)) (m_X8_activeLoudness) CC SS k :=
  zp_of h (k_activeLoudness h.1 (h.sz hk)) (fun s hs => q_activeLoudness hs (h.sz hk)) (f_X8_activeLoudness)
theorem zo_isActive (h : J CC SS k σ A) (hk : k ≤ 512) : ZR (pur σ (m_X7_isActive p σ)) (m_X8_isActive p) CC SS k :=
  zp_of h (k_isActive h.1 (h.sz hk)) (fun s hs => q_isActive hs (h.sz hk)) (f_X8_isActive p)
theorem zo_isConsistent (h : J CC SS k σ A) (hk : k ≤ 512) : ZR (m_X7_isConsistent σ) m_X8_isConsistent CC SS k :=
  zr_of h (k_isConsistent h.1 (h.sz hk) h.wt) (fun s hs => q_isConsistent hs (h.sz hk) h.wt) f_X8_isConsistent h.up
theorem zo_save (h : J CC SS k σ A) (hk : k ≤ 512) : ZR (m_X7_save σ) m_X8_save CC SS k :=
  zr_of h (k_save h.1 (h.sz hk)) (fun s hs => q_save hs (h.sz hk)) f_X8_save (h.2.2.1.sav.up (by omega))
theorem zo_meanOccupancy (h : J CC SS k σ A) (hk : k ≤ 512) : ZD ["java/lang/ArithmeticException"] (m_X7_meanOccupancy σ) m_X8_meanOccupancy CC SS k := by
  obtain ⟨v1, s1, v2, s2, a, b, c, d, e⟩ := z_D (L := ["java/lang/ArithmeticException"]) h (k_meanOccupancy h.1 (h.sz hk)) (fun s hs => q_meanOccupancy hs (h.sz hk)) f_X8_meanOccupancy (cdo_of (P := fun c => c = 5) (fun c e => by revert e; unfold a_meanOccupancy; (repeat' split) <;> intro e <;> simp at e <;> omega) (by rintro c (rfl) <;> decide +kernel)) h.up
  refine ⟨v1, s1, v2, s2, _, a, b, c, fun z => ⟨(d z).1, ?_⟩, e⟩
  have h2 := (d z).2
  have hN := (h.sz hk).2.1
  have hR := (h.sz hk).1
  unfold a_meanOccupancy at h2
  by_cases q : tR (aT A) = 0
  · rw [if_pos q] at h2; cases h2
  · rw [if_neg q] at h2
    cases h2
    exact fpG _ (by omega) _ (by omega) (by omega)
theorem zo_realShare (h : J CC SS k σ A) (hk : k ≤ 512) : ZF ["java/lang/ArithmeticException"] (m_X7_realShare σ) m_X8_realShare CC SS k := by
  have hN := (h.sz hk).2.1
  have hR := (h.sz hk).1
  have hv : ∀ v, a_realShare (aT A) = .inr v → np64 (FP.f2d v) ∧ Op.cmpValue (FP.dcmp (FP.f2d v) (FP.f2d v)) .l = 0 := fun v h2 => by
    unfold a_realShare at h2
    by_cases q : tR (aT A) = 0
    · rw [if_pos q] at h2; cases h2
    · rw [if_neg q] at h2
      cases h2
      have h1 := seats_pos h.wt (by omega)
      exact ⟨fpD _ (by omega) _ (by omega) (by omega), fpE _ (by omega) _ (by omega) (by omega)⟩
  obtain ⟨v1, s1, v2, s2, a, b, c, d, e⟩ := z_F (L := ["java/lang/ArithmeticException"]) h (k_realShare h.1 (h.sz hk) h.wt) (fun s hs => q_realShare hs (h.sz hk) h.wt) f_X8_realShare (cdo_of (P := fun c => c = 5) (fun c e => by revert e; unfold a_realShare; (repeat' split) <;> intro e <;> simp at e <;> omega) (by rintro c (rfl) <;> decide +kernel)) (fun v e => (hv v e).1) h.up
  exact ⟨v1, s1, v2, s2, _, a, b, c, fun z => ⟨(d z).1, hv _ (d z).2⟩, e⟩
end
