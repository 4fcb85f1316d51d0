/-! ===== writes; what stays ===== -/
theorem gI_o {s : Mem} {a k c j : Nat} {v : Int32} (h : c ≠ a) : gI (pI s a k v) c j = gI s c j := (gI_ne h).1 j
theorem gI_s {s : Mem} {a k : Nat} {v : Int32} : gI (pI s a k v) a k = v := by rw [gI_at, if_pos rfl]
theorem gI_k {s : Mem} {a k j : Nat} {v : Int32} (h : j ≠ k) : gI (pI s a k v) a j = gI s a j := by rw [gI_at, if_neg h]
theorem gI_J {s : Mem} {a k c j : Nat} {v : Int64} : gI (pJ s a k v) c j = gI s c j := rfl
theorem gJ_I {s : Mem} {a k c j : Nat} {v : Int32} : gJ (pI s a k v) c j = gJ s c j := rfl
theorem gJ_o {s : Mem} {a k c j : Nat} {v : Int64} (h : c ≠ a) : gJ (pJ s a k v) c j = gJ s c j := (gJ_ne h).2.1 j
theorem gJ_s {s : Mem} {a k : Nat} {v : Int64} : gJ (pJ s a k v) a k = v := by rw [gJ_at, if_pos rfl]
theorem gJ_k {s : Mem} {a k j : Nat} {v : Int64} (h : j ≠ k) : gJ (pJ s a k v) a j = gJ s a j := by rw [gJ_at, if_neg h]
/-- all but what an object owns has stayed -/
def Ow (t : Nat) (s s' : Mem) : Prop := (∀ c, c % 64 ≠ t → (∀ j, gI s' c j = gI s c j) ∧ ∀ j, gJ s' c j = gJ s c j) ∧ s'.2.2 = s.2.2
theorem Ow.refl {t : Nat} {s : Mem} : Ow t s s := ⟨fun _ _ => ⟨fun _ => rfl, fun _ => rfl⟩, rfl⟩
theorem Ow.trans {t : Nat} {s s1 s2 : Mem} (h1 : Ow t s s1) (h2 : Ow t s1 s2) : Ow t s s2 :=
  ⟨fun c hc => ⟨fun j => ((h2.1 c hc).1 j).trans ((h1.1 c hc).1 j), fun j => ((h2.1 c hc).2 j).trans ((h1.1 c hc).2 j)⟩, h2.2.trans h1.2⟩
theorem Ow.pI {t : Nat} {s s1 : Mem} (h : Ow t s s1) {a k : Nat} {v : Int32} (ha : a % 64 = t) : Ow t s (pI s1 a k v) :=
  h.trans ⟨fun c hc => ⟨fun j => gI_o (fun e => by subst e; exact hc ha), fun _ => rfl⟩, rfl⟩
theorem Ow.pJ {t : Nat} {s s1 : Mem} (h : Ow t s s1) {a k : Nat} {v : Int64} (ha : a % 64 = t) : Ow t s (pJ s1 a k v) :=
  h.trans ⟨fun c hc => ⟨fun _ => rfl, fun j => gJ_o (fun e => by subst e; exact hc ha)⟩, rfl⟩
theorem Ow.gI {t : Nat} {s s1 : Mem} (h : Ow t s s1) {c : Nat} (hc : c % 64 ≠ t) (j : Nat) : gI s1 c j = gI s c j := (h.1 c hc).1 j
theorem Ow.gJ {t : Nat} {s s1 : Mem} (h : Ow t s s1) {c : Nat} (hc : c % 64 ≠ t) (j : Nat) : gJ s1 c j = gJ s c j := (h.1 c hc).2 j
theorem Ow.nC {t : Nat} {s s1 : Mem} (h : Ow t s s1) : nC s1 = nC s := by unfold Jvm.Pilot.CEchoCensusLaw_law_r2636_45b157.nC; rw [h.2]
theorem Ow.nS {t : Nat} {s s1 : Mem} (h : Ow t s s1) : nS s1 = nS s := by unfold Jvm.Pilot.CEchoCensusLaw_law_r2636_45b157.nS; rw [h.2]
theorem Ow.gB {t : Nat} {s s1 : Mem} (h : Ow t s s1) : gB s1 = gB s := by funext o; unfold Jvm.Pilot.CEchoCensusLaw_law_r2636_45b157.gB; rw [h.2]
/-- a theatre that stays -/
theorem RC.kept {t : Nat} {s s1 : Mem} {T : Th} (h : RC t s T) (hI : ∀ c, c % 64 = t % 64 → ∀ j, _root_.Jvm.Pilot.CEchoCensusLaw_law_r2636_45b157.gI s1 c j = _root_.Jvm.Pilot.CEchoCensusLaw_law_r2636_45b157.gI s c j) (hJ : ∀ j, _root_.Jvm.Pilot.CEchoCensusLaw_law_r2636_45b157.gJ s1 t j = _root_.Jvm.Pilot.CEchoCensusLaw_law_r2636_45b157.gJ s t j) : RC t s1 T := by
  obtain ⟨⟨a1, a2, a3, a4, a5, a6, a7⟩, h2, h3⟩ := h
  refine ⟨⟨?_, ?_, ?_, ?_, ?_, ?_, ?_⟩, fun r hr => ?_, fun k hk => ?_⟩
  · rw [hI _ rfl, a1]
  · rw [hI _ rfl, a2]
  · rw [hI _ rfl, a3]
  · rw [hI _ rfl, a4]
  · rw [hI _ rfl, a5]
  · rw [hJ, a6]
  · rw [hJ, a7]
  · rw [hI _ (by omega), hI _ (by omega), hI _ (by omega), hI _ (by omega)]; exact h2 r hr
  · rw [hI _ (by omega), hI _ (by omega), hI _ (by omega), hI _ (by omega)]; exact h3 k hk
theorem RC.ow {t o : Nat} {s s1 : Mem} {T : Th} (h : RC t s T) (ho : Ow o s s1) (ht : t % 64 ≠ o) : RC t s1 T :=
  h.kept (fun c hc j => ho.gI (by omega) j) (fun j => ho.gJ ht j)
/-! ===== the tree ===== -/
theorem lp_s {α β : Type} {body : (α → Res β) → α → Res β} {n : Nat} {a : α} : lp body (n + 1) a = body (lp body n) a := rfl
theorem lpO_s {α β : Type} {body : (α → Option β) → α → Option β} {n : Nat} {a : α} : lpO body (n + 1) a = body (lpO body n) a := rfl
theorem lp_F {α β : Type} {body : (α → Res β) → α → Res β} {a : α} : lp body FUEL a = body (lp body (4090 + 5)) a := rfl
theorem lpO_F {α β : Type} {body : (α → Option β) → α → Option β} {a : α} : lpO body FUEL a = body (lpO body (4090 + 5)) a := rfl
theorem lb1 : nI 1 + (nI 1 &&& -nI 1) = nI 2 := by decide
theorem lb2 : nI 2 + (nI 2 &&& -nI 2) = nI 4 := by decide
theorem lb3 : nI 3 + (nI 3 &&& -nI 3) = nI 4 := by decide
theorem lb4 : nI 4 + (nI 4 &&& -nI 4) = nI 8 := by decide
theorem lb5 : nI 5 + (nI 5 &&& -nI 5) = nI 6 := by decide
theorem lb6 : nI 6 + (nI 6 &&& -nI 6) = nI 8 := by decide
theorem lb7 : nI 7 + (nI 7 &&& -nI 7) = nI 8 := by decide
theorem lb8 : nI 8 + (nI 8 &&& -nI 8) = nI 16 := by decide
theorem lc1 : nI 1 - (nI 1 &&& -nI 1) = nI 0 := by decide
theorem lc2 : nI 2 - (nI 2 &&& -nI 2) = nI 0 := by decide
theorem lc3 : nI 3 - (nI 3 &&& -nI 3) = nI 2 := by decide
theorem lc4 : nI 4 - (nI 4 &&& -nI 4) = nI 0 := by decide
theorem lc5 : nI 5 - (nI 5 &&& -nI 5) = nI 4 := by decide
theorem lc6 : nI 6 - (nI 6 &&& -nI 6) = nI 4 := by decide
theorem lc7 : nI 7 - (nI 7 &&& -nI 7) = nI 6 := by decide
theorem lc8 : nI 8 - (nI 8 &&& -nI 8) = nI 0 := by decide
/-- the rows that a node of the tree adds up -/
def inr (node r : Nat) : Bool := decide (r < node) && decide (node ≤ r + [0, 1, 2, 1, 4, 1, 2, 1, 8].getD node 0)
/-- a node's sum over the first k rows -/
def fsm (f : Nat → Nat) (k node : Nat) : Nat := sm (fun r => if inr node r then f r else 0) k
def FW (f : Nat → Nat) (k : Nat) (s : Mem) : Prop := ∀ node, node < 9 → gI s 67 node = nI (fsm f k node)
theorem FW.kept {f : Nat → Nat} {k : Nat} {s s1 : Mem} (h : FW f k s) (hI : ∀ j, gI s1 67 j = gI s 67 j) : FW f k s1 := fun node hn => by rw [hI]; exact h node hn
theorem c_count {s : Mem} {f : Nat → Nat} {k : Nat} (h : FW f k s) (hk : k < 8) : okR (m_X1_count (nI k) (nI (f k)) s) (fun o s' => o = .inl () ∧ FW f (k + 1) s' ∧ Ow 3 s s') := by
  have hf : ∀ node, fsm f (k + 1) node = fsm f k node + if inr node k then f k else 0 := fun _ => rfl
  have hw : ∀ {s1 s2 : Mem} (P : Nat → Bool), (∀ node, node < 9 → P node = inr node k) → (∀ node, node < 9 → gI s2 67 node = if P node then gI s1 67 node + nI (f k) else gI s1 67 node) → FW f k s1 → FW f (k + 1) s2 := by
    intro s1 s2 P hP h2 h1 node hn
    rw [h2 node hn, hf, h1 node hn, hP node hn, nI_add]
    cases inr node k <;> simp
  unfold m_X1_count
  rw [okR_vl, ltI, nI_add, lp_F]
  rcases (show k = 0 ∨ k = 1 ∨ k = 2 ∨ k = 3 ∨ k = 4 ∨ k = 5 ∨ k = 6 ∨ k = 7 by omega) with rfl | rfl | rfl | rfl | rfl | rfl | rfl | rfl
  · simp (disch := omega) only [m_X1_count_b4, lp_s, ltI, nL, nIb, nN, ↓reduceIte, ↓vl_i, lb1, lb2, lb3, lb4, lb5, lb6, lb7, lb8, Nat.zero_add, Nat.reduceAdd, Nat.reduceLT]
    rw [okR_some]
    refine ⟨rfl, hw (fun node => decide (node = 1 ∨ node = 2 ∨ node = 4 ∨ node = 8)) (by decide) (fun node hn => ?_) h, by repeat (first | exact Ow.refl | refine Ow.pI ?_ (by decide))⟩
    simp only [gI_at, decide_eq_true_eq]
    rcases (show node = 0 ∨ node = 1 ∨ node = 2 ∨ node = 3 ∨ node = 4 ∨ node = 5 ∨ node = 6 ∨ node = 7 ∨ node = 8 by omega) with rfl | rfl | rfl | rfl | rfl | rfl | rfl | rfl | rfl <;> rfl
  · simp (disch := omega) only [m_X1_count_b4, lp_s, ltI, nL, nIb, nN, ↓reduceIte, ↓vl_i, lb1, lb2, lb3, lb4, lb5, lb6, lb7, lb8, Nat.zero_add, Nat.reduceAdd, Nat.reduceLT]
    rw [okR_some]
    refine ⟨rfl, hw (fun node => decide (node = 2 ∨ node = 4 ∨ node = 8)) (by decide) (fun node hn => ?_) h, by repeat (first | exact Ow.refl | refine Ow.pI ?_ (by decide))⟩
    simp only [gI_at, decide_eq_true_eq]
    rcases (show node = 0 ∨ node = 1 ∨ node = 2 ∨ node = 3 ∨ node = 4 ∨ node = 5 ∨ node = 6 ∨ node = 7 ∨ node = 8 by omega) with rfl | rfl | rfl | rfl | rfl | rfl | rfl | rfl | rfl <;> rfl
  · simp (disch := omega) only [m_X1_count_b4, lp_s, ltI, nL, nIb, nN, ↓reduceIte, ↓vl_i, lb1, lb2, lb3, lb4, lb5, lb6, lb7, lb8, Nat.zero_add, Nat.reduceAdd, Nat.reduceLT]
    rw [okR_some]
    refine ⟨rfl, hw (fun node => decide (node = 3 ∨ node = 4 ∨ node = 8)) (by decide) (fun node hn => ?_) h, by repeat (first | exact Ow.refl | refine Ow.pI ?_ (by decide))⟩
    simp only [gI_at, decide_eq_true_eq]
    rcases (show node = 0 ∨ node = 1 ∨ node = 2 ∨ node = 3 ∨ node = 4 ∨ node = 5 ∨ node = 6 ∨ node = 7 ∨ node = 8 by omega) with rfl | rfl | rfl | rfl | rfl | rfl | rfl | rfl | rfl <;> rfl
  · simp (disch := omega) only [m_X1_count_b4, lp_s, ltI, nL, nIb, nN, ↓reduceIte, ↓vl_i, lb1, lb2, lb3, lb4, lb5, lb6, lb7, lb8, Nat.zero_add, Nat.reduceAdd, Nat.reduceLT]
    rw [okR_some]
    refine ⟨rfl, hw (fun node => decide (node = 4 ∨ node = 8)) (by decide) (fun node hn => ?_) h, by repeat (first | exact Ow.refl | refine Ow.pI ?_ (by decide))⟩
    simp only [gI_at, decide_eq_true_eq]
    rcases (show node = 0 ∨ node = 1 ∨ node = 2 ∨ node = 3 ∨ node = 4 ∨ node = 5 ∨ node = 6 ∨ node = 7 ∨ node = 8 by omega) with rfl | rfl | rfl | rfl | rfl | rfl | rfl | rfl | rfl <;> rfl
  · simp (disch := omega) only [m_X1_count_b4, lp_s, ltI, nL, nIb, nN, ↓reduceIte, ↓vl_i, lb1, lb2, lb3, lb4, lb5, lb6, lb7, lb8, Nat.zero_add, Nat.reduceAdd, Nat.reduceLT]
    rw [okR_some]
    refine ⟨rfl, hw (fun node => decide (node = 5 ∨ node = 6 ∨ node = 8)) (by decide) (fun node hn => ?_) h, by repeat (first | exact Ow.refl | refine Ow.pI ?_ (by decide))⟩
    simp only [gI_at, decide_eq_true_eq]
    rcases (show node = 0 ∨ node = 1 ∨ node = 2 ∨ node = 3 ∨ node = 4 ∨ node = 5 ∨ node = 6 ∨ node = 7 ∨ node = 8 by omega) with rfl | rfl | rfl | rfl | rfl | rfl | rfl | rfl | rfl <;> rfl
  · simp (disch := omega) only [m_X1_count_b4, lp_s, ltI, nL, nIb, nN, ↓reduceIte, ↓vl_i, lb1, lb2, lb3, lb4, lb5, lb6, lb7, lb8, Nat.zero_add, Nat.reduceAdd, Nat.reduceLT]
    rw [okR_some]
    refine ⟨rfl, hw (fun node => decide (node = 6 ∨ node = 8)) (by decide) (fun node hn => ?_) h, by repeat (first | exact Ow.refl | refine Ow.pI ?_ (by decide))⟩
    simp only [gI_at, decide_eq_true_eq]
    rcases (show node = 0 ∨ node = 1 ∨ node = 2 ∨ node = 3 ∨ node = 4 ∨ node = 5 ∨ node = 6 ∨ node = 7 ∨ node = 8 by omega) with rfl | rfl | rfl | rfl | rfl | rfl | rfl | rfl | rfl <;> rfl
  · simp (disch := omega) only [m_X1_count_b4, lp_s, ltI, nL, nIb, nN, ↓reduceIte, ↓vl_i, lb1, lb2, lb3, lb4, lb5, lb6, lb7, lb8, Nat.zero_add, Nat.reduceAdd, Nat.reduceLT]
    rw [okR_some]
    refine ⟨rfl, hw (fun node => decide (node = 7 ∨ node = 8)) (by decide) (fun node hn => ?_) h, by repeat (first | exact Ow.refl | refine Ow.pI ?_ (by decide))⟩
    simp only [gI_at, decide_eq_true_eq]
    rcases (show node = 0 ∨ node = 1 ∨ node = 2 ∨ node = 3 ∨ node = 4 ∨ node = 5 ∨ node = 6 ∨ node = 7 ∨ node = 8 by omega) with rfl | rfl | rfl | rfl | rfl | rfl | rfl | rfl | rfl <;> rfl
  · simp (disch := omega) only [m_X1_count_b4, lp_s, ltI, nL, nIb, nN, ↓reduceIte, ↓vl_i, lb1, lb2, lb3, lb4, lb5, lb6, lb7, lb8, Nat.zero_add, Nat.reduceAdd, Nat.reduceLT]
    rw [okR_some]
    refine ⟨rfl, hw (fun node => decide (node = 8)) (by decide) (fun node hn => ?_) h, by repeat (first | exact Ow.refl | refine Ow.pI ?_ (by decide))⟩
    simp only [gI_at, decide_eq_true_eq]
    rcases (show node = 0 ∨ node = 1 ∨ node = 2 ∨ node = 3 ∨ node = 4 ∨ node = 5 ∨ node = 6 ∨ node = 7 ∨ node = 8 by omega) with rfl | rfl | rfl | rfl | rfl | rfl | rfl | rfl | rfl <;> rfl
