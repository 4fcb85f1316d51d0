/-! ===== a removal and a spreading keep what always holds; all together ===== -/
theorem del_lo {α : Type} {f : Nat → α} {k j : Nat} (h : j < k) : del k f j = f j := if_pos h
theorem del_hi {α : Type} {f : Nat → α} {k j : Nat} (h : ¬ j < k) : del k f j = f (j + 1) := if_neg h
/-- where a slot comes to when a gap closes -/
def dix (k j : Nat) : Nat := if j < k then j else j - 1
theorem del_dix {α : Type} {f : Nat → α} {k j : Nat} (h : j ≠ k) : del k f (dix k j) = f j := by
  unfold dix
  by_cases q : j < k
  · rw [if_pos q, del_lo q]
  · rw [if_neg q, del_hi (by omega), show j - 1 + 1 = j by omega]
/-- a slot behind the closed gap is one before -/
theorem del_ex {k n i : Nat} (hi : i + 1 < n) : ∃ j, j < n ∧ j ≠ k ∧ dix k j = i ∧ ∀ {α : Type} (f : Nat → α), del k f i = f j := by
  by_cases q : i < k
  · exact ⟨i, by omega, by omega, if_pos q, fun f => del_lo q⟩
  · exact ⟨i + 1, hi, by omega, by unfold dix; rw [if_neg (by omega)]; omega, fun f => del_hi q⟩
section
variable {T : Th} {n : Nat}
theorem hs_ne (ha : Ac T) {k j : Nat} (hk : k < tN T) (h : hs T k = some j) : j ≠ k := by
  obtain ⟨rk, hr⟩ := ha
  have h1 := hs_lt h
  have h2 := hr k hk _ h1.2
  intro e
  subst e
  exact Nat.lt_irrefl _ h2
theorem lall_op5 (ha : Ac T) {k0 : Nat} (h0 : k0 < tN T) : lall (op5 T k0) + lost T k0 = lall T := by
  obtain ⟨M, hM⟩ : ∃ M, tN T = M + 1 := ⟨tN T - 1, by omega⟩
  have h1 : lall (op5 T k0) = sm (del k0 (bqU T k0)) M := by
    show sm (del k0 (bqU T k0)) (tN T - 1) = _
    rw [hM]; rfl
  have h2 := sm_del (f := bqU T k0) (k := k0) (n := M) (by omega)
  rw [h1]
  unfold lall
  rw [hM]
  cases e : hs T k0 with
  | none =>
    have e1 : bqU T k0 = tU T := by unfold bqU; rw [e]
    have e2 : lost T k0 = tU T k0 := by unfold lost; rw [e]
    rw [e1] at h2 ⊢
    rw [e2]; exact h2
  | some j =>
    have hj := hs_lt e
    have hne := hs_ne ha h0 e
    have e1 : bqU T k0 = uf (tU T) j (min (tU T j + tU T k0) 999) := by unfold bqU; rw [e]
    have e2 : lost T k0 = tU T j + tU T k0 - min (tU T j + tU T k0) 999 := by unfold lost; rw [e]
    have h3 := sm_uf (f := tU T) (k := j) (v := min (tU T j + tU T k0) 999) (n := M + 1) (by omega)
    rw [e1, uf_k (fun v => hne v.symm)] at h2
    rw [e1, e2]
    omega
theorem cnt_op5 {k0 r : Nat} (h0 : k0 < tN T) : cnt (op5 T k0) r ≤ cnt T r := by
  obtain ⟨M, hM⟩ : ∃ M, tN T = M + 1 := ⟨tN T - 1, by omega⟩
  have h1 : cnt (op5 T k0) r = sm (del k0 (fun k => if tW T k = r then 1 else 0)) M := by
    show sm (fun k => if del k0 (tW T) k = r then 1 else 0) (tN T - 1) = _
    rw [hM]
    refine sm_congr fun k _ => ?_
    by_cases q : k < k0
    · rw [del_lo q, del_lo q]
    · rw [del_hi q, del_hi q]
  have h2 := sm_del (f := fun k => if tW T k = r then 1 else 0) (k := k0) (n := M) (by omega)
  rw [h1]
  unfold cnt
  rw [hM]
  omega
theorem bqU_rng (h : WT n T) {k0 k : Nat} (h0 : k0 < tN T) (hk : k < tN T) : 1 ≤ bqU T k0 k ∧ bqU T k0 k ≤ 999 := by
  have h1 := (h.2.2.2.2.1 k hk).2.2
  unfold bqU
  cases e : hs T k0 with
  | none => exact ⟨h1.1, h1.2.1⟩
  | some j =>
    have hj := hs_lt e
    have h2 := (h.2.2.2.2.1 j hj.1).2.2
    show 1 ≤ uf (tU T) j (min (tU T j + tU T k0) 999) k ∧ uf (tU T) j (min (tU T j + tU T k0) 999) k ≤ 999
    by_cases q : k = j
    · subst q; rw [uf_s]; omega
    · rw [uf_k q]; exact ⟨h1.1, h1.2.1⟩
theorem bqH_old {k0 k d : Nat} (hd : bqH T k0 k = some d) : (tH T k = some d ∧ d ≠ tI T k0) ∨ (tH T k = some (tI T k0) ∧ tH T k0 = some d) := by
  unfold bqH at hd
  by_cases q : tH T k = some (tI T k0)
  · rw [if_pos q] at hd; exact Or.inr ⟨q, hd⟩
  · rw [if_neg q] at hd
    refine Or.inl ⟨hd, fun e => ?_⟩
    subst e; exact q hd
theorem WT.k5 (h : WT n T) {k0 : Nat} (h0 : k0 < tN T) : WT (n + 1) (op5 T k0) := by
  have hW := h
  have hl := lall_op5 h.ac h0
  obtain ⟨a1, a2, ⟨b1, b2, b3, b4, b5⟩, a4, a5, ⟨rk, a6⟩, a7, a8⟩ := h
  refine ⟨a1, show tN T - 1 ≤ 24 by omega, ⟨show tX T ≤ _ by omega, show tM T ≤ _ by omega, show tV T + 1 ≤ _ by omega, show tA T ≤ _ by omega, show tA T = _ + (tL T + lost T k0) by omega⟩, fun j k hj hk => ?_, fun k hk => ?_, ⟨rk, fun k hk d hd => ?_⟩, fun r hr => ?_, a8⟩
  · have hk' : k < tN T - 1 := hk
    show del k0 (tI T) j < del k0 (tI T) k
    by_cases q : k < k0
    · rw [del_lo q, del_lo (by omega)]; exact a4 j k hj (by omega)
    · rw [del_hi q]
      by_cases z : j < k0
      · rw [del_lo z]; exact a4 j (k + 1) (by omega) (by omega)
      · rw [del_hi z]; exact a4 (j + 1) (k + 1) (by omega) (by omega)
  · have hk' : k < tN T - 1 := hk
    obtain ⟨j, hj, hne, e1, e2⟩ := del_ex (k := k0) (n := tN T) (i := k) (by omega)
    show del k0 (tI T) k < tX T ∧ del k0 (tW T) k < tR T ∧ 1 ≤ del k0 (bqU T k0) k ∧ del k0 (bqU T k0) k ≤ 999 ∧ ∀ d, del k0 (bqH T k0) k = some d → ∃ j, j < tN T - 1 ∧ del k0 (tI T) j = d
    rw [e2, e2, e2, e2]
    obtain ⟨c1, c2, c3, c4, c5⟩ := a5 j hj
    refine ⟨c1, c2, (bqU_rng hW h0 hj).1, (bqU_rng hW h0 hj).2, fun d hd => ?_⟩
    have key : ∀ x, x < tN T → tI T x = d → x ≠ k0 → ∃ j, j < tN T - 1 ∧ del k0 (tI T) j = d := by
      intro x hx hxd hxk
      refine ⟨dix k0 x, ?_, by rw [del_dix hxk]; exact hxd⟩
      unfold dix
      by_cases q : x < k0
      · rw [if_pos q]; omega
      · rw [if_neg q]; omega
    rcases bqH_old hd with ⟨q1, q2⟩ | ⟨q1, q2⟩
    · obtain ⟨x, hx, hxd⟩ := c5 d q1
      exact key x hx hxd (fun e => q2 (by rw [← hxd, e]))
    · obtain ⟨x, hx, hxd⟩ := (a5 k0 h0).2.2.2.2 d q2
      refine key x hx hxd (fun e => ?_)
      have h3 := a6 k0 h0 d q2
      rw [← hxd, e] at h3
      exact Nat.lt_irrefl _ h3
  · have hk' : k < tN T - 1 := hk
    obtain ⟨j, hj, hne, e1, e2⟩ := del_ex (k := k0) (n := tN T) (i := k) (by omega)
    have hd' : del k0 (bqH T k0) k = some d := hd
    show rk d < rk (del k0 (tI T) k)
    rw [e2] at hd' ⊢
    rcases bqH_old hd' with ⟨q1, q2⟩ | ⟨q1, q2⟩
    · exact a6 j hj d q1
    · have h3 := a6 k0 h0 d q2
      have h4 := a6 j hj _ q1
      omega
  · have := cnt_op5 (r := r) h0
    have h6 := a7 r hr
    exact ⟨h6.1, Nat.le_trans this h6.2⟩
theorem rsp_lt {r x : Nat} (h : rsp T r = some x) : x < tR T ∧ tK T x = false ∧ cnt T x < tC T x := by
  unfold rsp at h
  cases e : fnd (fun d => decide (1 ≤ d ∧ tK T ((r + d) % tR T) = false ∧ cnt T ((r + d) % tR T) < tC T ((r + d) % tR T))) (tR T) with
  | none => rw [e] at h; cases h
  | some d =>
    rw [e] at h
    obtain ⟨h1, h2, _⟩ := fnd_spec e
    have h3 := of_decide_eq_true h2
    have h4 : (r + d) % tR T = x := by cases h; rfl
    rw [← h4]
    exact ⟨Nat.mod_lt _ (by omega), h3.2⟩
theorem ldst_lt {r k : Nat} (h : ldst T r = some k) : k < tN T ∧ tW T k = r := by
  obtain ⟨h1, h2⟩ := bst_lt h
  exact ⟨h1, of_decide_eq_true h2⟩
/-- a step of spreading, if there is one -/
theorem sps_is {r : Nat} {T' : Th} (h : sps T r = some T') : ∃ k x, tC T r < cnt T r ∧ ldst T r = some k ∧ rsp T r = some x ∧ x ≠ r ∧ T' = op4 T k x := by
  unfold sps at h
  by_cases q : cnt T r ≤ tC T r
  · rw [if_pos q] at h; cases h
  · rw [if_neg q] at h
    cases e1 : ldst T r with
    | none => rw [e1] at h; cases h
    | some k =>
      cases e2 : rsp T r with
      | none => rw [e1, e2] at h; cases h
      | some x =>
        rw [e1, e2] at h
        have h3 := (rsp_lt e2).2.2
        refine ⟨k, x, by omega, rfl, rfl, fun e => ?_, by cases h; rfl⟩
        subst e; omega
theorem spn_w (h : WT n T) {r : Nat} : ∀ m, WT n (mvs 0 (spn T r m).2) ∧ tM (spn T r m).2 ≤ tM T + m ∧ (spn T r m).1 ≤ m ∧ tR (spn T r m).2 = tR T ∧ tN (spn T r m).2 = tN T ∧ tC (spn T r m).2 = tC T ∧ (sps (spn T r m).2 r = none ∨ ((spn T r m).1 = m ∧ cnt (spn T r m).2 r + m = cnt T r))
  | 0 => ⟨h.mv (Nat.zero_le _), Nat.le_refl _, Nat.le_refl _, rfl, rfl, rfl, Or.inr ⟨rfl, rfl⟩⟩
  | m + 1 => by
    obtain ⟨h1, h2, h3, h4, h5, h6, h7⟩ := spn_w h (r := r) m
    cases e : sps (spn T r m).2 r with
    | none =>
      have e2 : spn T r (m + 1) = spn T r m := by
        show (match sps (spn T r m).2 r with | none => spn T r m | some T' => ((spn T r m).1 + 1, T')) = _
        rw [e]
      rw [e2]
      exact ⟨h1, by omega, by omega, h4, h5, h6, Or.inl e⟩
    | some T' =>
      have e2 : spn T r (m + 1) = ((spn T r m).1 + 1, T') := by
        show (match sps (spn T r m).2 r with | none => spn T r m | some T' => ((spn T r m).1 + 1, T')) = _
        rw [e]
      rw [e2]
      obtain ⟨k, x, q1, q2, q3, q4, q5⟩ := sps_is e
      obtain ⟨p1, p2⟩ := ldst_lt q2
      obtain ⟨p3, p4, p5⟩ := rsp_lt q3
      rcases h7 with h7 | ⟨h7, h8⟩
      · rw [e] at h7; cases h7
      · subst q5
        refine ⟨WT.k4 (T := mvs 0 (spn T r m).2) h1 p1 p3 (fun v => q4 (v.symm.trans p2)) (Nat.lt_of_lt_of_le p5 (Nat.le_add_right _ _)), show tM (spn T r m).2 + 1 ≤ _ by omega, show (spn T r m).1 + 1 ≤ _ by omega, h4, h5, h6, Or.inr ⟨by show (spn T r m).1 + 1 = _; omega, ?_⟩⟩
        have h9 := cnt_op4 (T := (spn T r m).2) (r0 := x) (r := r) p1
        rw [if_pos p2, if_neg q4] at h9
        show cnt (op4 (spn T r m).2 k x) r + (m + 1) = _
        omega
theorem spn_end (h : WT n T) {r : Nat} : sps (spn T r 24).2 r = none := by
  obtain ⟨_, _, _, h4, h5, h6, h7⟩ := spn_w h (r := r) 24
  rcases h7 with h7 | ⟨h7, h8⟩
  · exact h7
  · have h1 := sm_le (f := fun k => if tW T k = r then 1 else 0) (n := tN T) (c := 1) (fun k _ => by by_cases z : tW T k = r <;> simp [z])
    have h2 : cnt T r ≤ 24 := by
      have := h.2.1
      unfold cnt; omega
    unfold sps
    rw [if_pos (by omega)]
theorem WT.k11 (h : WT n T) {r : Nat} : WT (n + 1) (spn T r 24).2 := by
  obtain ⟨h1, h2, _⟩ := spn_w h (r := r) 24
  have := h.2.2.1.2.1
  exact h1.vm (by omega) (by omega)
theorem opN11 {a b : Nat} : opN T 11 a b = (nI (spn T a 24).1, (spn T a 24).2) := by
  unfold opN
  simp only [Nat.reduceEqDiff, if_false]
theorem WT.kN (h : WT n T) {kind a b : Nat} (hk : kind < 12) (ho : okN T kind a b) : WT (n + 1) (opN T kind a b).2 := by
  obtain ⟨o0, o1, o2, o3, o4, o5, o6, o7, o8, o9, o10, o11⟩ := ho
  rcases (show kind = 0 ∨ kind = 1 ∨ kind = 2 ∨ kind = 3 ∨ kind = 4 ∨ kind = 5 ∨ kind = 6 ∨ kind = 7 ∨ kind = 8 ∨ kind = 9 ∨ kind = 10 ∨ kind = 11 by omega) with rfl | rfl | rfl | rfl | rfl | rfl | rfl | rfl | rfl | rfl | rfl | rfl
  · obtain ⟨q1, q2, q3⟩ := o0 rfl
    exact h.k0 q1 q2 q3
  · obtain ⟨q1, q2, q3⟩ := o1 rfl
    exact h.kP q1 q3 (by have := h.full q1; omega)
  · obtain ⟨q1, q2, q3, q4⟩ := o2 rfl
    exact h.kP q1 (by have := (h.2.2.2.2.2.2.2 a).2.1; omega) (by omega)
  · obtain ⟨q1, q2, q3, q4, q5⟩ := o3 rfl
    exact h.k3 q1 q2 q3 q4 q5
  · obtain ⟨q1, q2, q3, q4⟩ := o4 rfl
    exact (h.k4 q1 q2 q3 q4).vm (Nat.le_succ _) (by show tM T + 1 ≤ _; have := h.2.2.1.2.1; omega)
  · exact h.k5 (o5 rfl)
  · obtain ⟨q1, q2, q3, q4⟩ := o6 rfl
    exact h.k6 q1 (fun d hd => ⟨b, q2, by cases hd; rfl, q4⟩)
  · exact h.k6 (o7 rfl) (fun d hd => by cases hd)
  · exact h.k8 (o8 rfl)
  · exact h.k8 (o9 rfl)
  · exact h.k10 (o10 rfl).2
  · rw [opN11]
    dsimp only
    exact h.k11 (r := a)
/-- what the rules accept is in order -/
theorem rs_ok {kind a b : Nat} {p q : Int32} (hk : kind < 12) (h : rs T kind p q = .inr (a, b)) : okN T kind a b := by
  have no : ∀ {x y : Nat} {P : Prop}, x ≠ y → x = y → P := fun h1 h2 => absurd h2 h1
  rcases (show kind = 0 ∨ kind = 1 ∨ kind = 2 ∨ kind = 3 ∨ kind = 4 ∨ kind = 5 ∨ kind = 6 ∨ kind = 7 ∨ kind = 8 ∨ kind = 9 ∨ kind = 10 ∨ kind = 11 by omega) with rfl | rfl | rfl | rfl | rfl | rfl | rfl | rfl | rfl | rfl | rfl | rfl
  · refine ⟨fun _ => ?_, no (by decide), no (by decide), no (by decide), no (by decide), no (by decide), no (by decide), no (by decide), no (by decide), no (by decide), no (by decide), no (by decide)⟩
    have h : rs0 T p = .inr (a, b) := h
    unfold rs0 at h
    cases e : nbp 12 p with
    | none => rw [e] at h; cases h
    | some c =>
      rw [e] at h
      obtain ⟨h1, h2, _⟩ := nbp_lt e
      by_cases z : tR T < 8
      · simp only [z, if_true] at h; cases h; exact ⟨h1, h2, z⟩
      · simp only [z, if_false] at h; cases h
  · refine ⟨no (by decide), fun _ => ?_, no (by decide), no (by decide), no (by decide), no (by decide), no (by decide), no (by decide), no (by decide), no (by decide), no (by decide), no (by decide)⟩
    have h : rs1 T p q = .inr (a, b) := h
    unfold rs1 at h
    cases e : rwp T p with
    | none => rw [e] at h; cases h
    | some r =>
      cases e2 : nbp 6 q with
      | none => rw [e, e2] at h; cases h
      | some c =>
        rw [e, e2] at h
        obtain ⟨h1, h2, _⟩ := nbp_lt e2
        obtain ⟨h3, _⟩ := rwp_lt e
        by_cases z : tK T r = false ∧ tP T r + c ≤ 6
        · simp only [z, and_self, if_true] at h; cases h; exact ⟨h3, h1, z.2⟩
        · simp only [z, if_false] at h; cases h
  · refine ⟨no (by decide), no (by decide), fun _ => ?_, no (by decide), no (by decide), no (by decide), no (by decide), no (by decide), no (by decide), no (by decide), no (by decide), no (by decide)⟩
    have h : rs2 T p q = .inr (a, b) := h
    unfold rs2 at h
    cases e : rwp T p with
    | none => rw [e] at h; cases h
    | some r =>
      cases e2 : nbp 6 q with
      | none => rw [e, e2] at h; cases h
      | some c =>
        rw [e, e2] at h
        obtain ⟨h1, h2, _⟩ := nbp_lt e2
        obtain ⟨h3, _⟩ := rwp_lt e
        by_cases z : tK T r = false ∧ c ≤ tP T r ∧ cnt T r + c ≤ tC T r + tP T r
        · simp only [z, and_self, if_true] at h; cases h; exact ⟨h3, h1, z.2⟩
        · simp only [z, if_false] at h; cases h
  · refine ⟨no (by decide), no (by decide), no (by decide), fun _ => ?_, no (by decide), no (by decide), no (by decide), no (by decide), no (by decide), no (by decide), no (by decide), no (by decide)⟩
    have h : rs3 T p q = .inr (a, b) := h
    unfold rs3 at h
    cases e : rwp T p with
    | none => rw [e] at h; cases h
    | some r =>
      cases e2 : nbp 999 q with
      | none => rw [e, e2] at h; cases h
      | some c =>
        rw [e, e2] at h
        obtain ⟨h1, h2, _⟩ := nbp_lt e2
        obtain ⟨h3, _⟩ := rwp_lt e
        by_cases z : tK T r = false ∧ cnt T r < tC T r + tP T r ∧ tN T < 24
        · simp only [z, and_self, if_true] at h; cases h; exact ⟨h3, h1, h2, z.2⟩
        · simp only [z, if_false] at h; cases h
  · refine ⟨no (by decide), no (by decide), no (by decide), no (by decide), fun _ => ?_, no (by decide), no (by decide), no (by decide), no (by decide), no (by decide), no (by decide), no (by decide)⟩
    have h : rs4 T p q = .inr (a, b) := h
    unfold rs4 at h
    cases e : sltp T p with
    | none => rw [e] at h; cases h
    | some k =>
      cases e2 : rwp T q with
      | none => rw [e, e2] at h; cases h
      | some r =>
        rw [e, e2] at h
        obtain ⟨h1, _⟩ := sltp_lt e
        obtain ⟨h3, _⟩ := rwp_lt e2
        by_cases z : tW T k ≠ r ∧ tK T (tW T k) = false ∧ tK T r = false ∧ cnt T r < tC T r + tP T r
        · simp only [if_pos z] at h; cases h; exact ⟨h1, h3, z.1, z.2.2.2⟩
        · simp only [if_neg z] at h; cases h
  · refine ⟨no (by decide), no (by decide), no (by decide), no (by decide), no (by decide), fun _ => ?_, no (by decide), no (by decide), no (by decide), no (by decide), no (by decide), no (by decide)⟩
    have h : rs5 T p = .inr (a, b) := h
    unfold rs5 at h
    cases e : sltp T p with
    | none => rw [e] at h; cases h
    | some k =>
      rw [e] at h
      obtain ⟨h1, _⟩ := sltp_lt e
      by_cases z : tK T (tW T k) = false
      · simp only [if_pos z] at h; cases h; exact h1
      · simp only [if_neg z] at h; cases h
  · refine ⟨no (by decide), no (by decide), no (by decide), no (by decide), no (by decide), no (by decide), fun _ => ?_, no (by decide), no (by decide), no (by decide), no (by decide), no (by decide)⟩
    have h : rs6 T p q = .inr (a, b) := h
    unfold rs6 at h
    cases e : sltp T p with
    | none => rw [e] at h; cases h
    | some k =>
      cases e2 : sltp T q with
      | none => rw [e, e2] at h; cases h
      | some j =>
        rw [e, e2] at h
        obtain ⟨h1, _⟩ := sltp_lt e
        obtain ⟨h3, _⟩ := sltp_lt e2
        by_cases z : k = j
        · simp only [if_pos z] at h; cases h
        · by_cases y : pasb T j k = true
          · simp only [if_neg z, if_pos y] at h; cases h
          · simp only [if_neg z, if_neg y] at h
            cases h
            exact ⟨h1, h3, z, fun v => y (pasb_y v)⟩
  · refine ⟨no (by decide), no (by decide), no (by decide), no (by decide), no (by decide), no (by decide), no (by decide), fun _ => ?_, no (by decide), no (by decide), no (by decide), no (by decide)⟩
    have h : rs7 T p = .inr (a, b) := h
    unfold rs7 at h
    cases e : sltp T p with
    | none => rw [e] at h; cases h
    | some k =>
      rw [e] at h
      obtain ⟨h1, _⟩ := sltp_lt e
      by_cases z : tH T k = none
      · simp only [if_pos z] at h; cases h
      · simp only [if_neg z] at h; cases h; exact h1
  · refine ⟨no (by decide), no (by decide), no (by decide), no (by decide), no (by decide), no (by decide), no (by decide), no (by decide), fun _ => ?_, no (by decide), no (by decide), no (by decide)⟩
    have h : rs8 true T p = .inr (a, b) := h
    unfold rs8 at h
    cases e : rwp T p with
    | none => rw [e] at h; cases h
    | some k =>
      rw [e] at h
      obtain ⟨h1, _⟩ := rwp_lt e
      by_cases z : tK T k = true
      · simp only [if_pos z] at h; cases h
      · simp only [if_neg z] at h; cases h; exact h1
  · refine ⟨no (by decide), no (by decide), no (by decide), no (by decide), no (by decide), no (by decide), no (by decide), no (by decide), no (by decide), fun _ => ?_, no (by decide), no (by decide)⟩
    have h : rs8 false T p = .inr (a, b) := h
    unfold rs8 at h
    cases e : rwp T p with
    | none => rw [e] at h; cases h
    | some k =>
      rw [e] at h
      obtain ⟨h1, _⟩ := rwp_lt e
      by_cases z : tK T k = false
      · simp only [if_pos z] at h; cases h
      · simp only [if_neg z] at h; cases h; exact h1
  · refine ⟨no (by decide), no (by decide), no (by decide), no (by decide), no (by decide), no (by decide), no (by decide), no (by decide), no (by decide), no (by decide), fun _ => ?_, no (by decide)⟩
    have h : rs10 T p q = .inr (a, b) := h
    unfold rs10 at h
    cases e : bxp p with
    | none => rw [e] at h; cases h
    | some k =>
      cases e2 : rwp T q with
      | none => rw [e, e2] at h; cases h
      | some r =>
        rw [e, e2] at h
        obtain ⟨h1, _⟩ := bxp_lt e
        obtain ⟨h2, _⟩ := rwp_lt e2
        cases h
        exact ⟨h1, h2⟩
  · refine ⟨no (by decide), no (by decide), no (by decide), no (by decide), no (by decide), no (by decide), no (by decide), no (by decide), no (by decide), no (by decide), no (by decide), fun _ => ?_⟩
    have h : rs8 true T p = .inr (a, b) := h
    unfold rs8 at h
    cases e : rwp T p with
    | none => rw [e] at h; cases h
    | some k =>
      rw [e] at h
      obtain ⟨h1, _⟩ := rwp_lt e
      by_cases z : tK T k = true
      · simp only [if_pos z] at h; cases h
      · simp only [if_neg z] at h; cases h; exact h1
end
