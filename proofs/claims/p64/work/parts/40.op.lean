/-! ===== the changes, as numbers; what they keep ===== -/
def uf {α : Type} (f : Nat → α) (k : Nat) (v : α) : Nat → α := fun j => if j = k then v else f j
def del {α : Type} (k : Nat) (f : Nat → α) : Nat → α := fun j => if j < k then f j else f (j + 1)
theorem uf_s {α : Type} {f : Nat → α} {k : Nat} {v : α} : uf f k v k = v := if_pos rfl
theorem uf_k {α : Type} {f : Nat → α} {k j : Nat} {v : α} (h : j ≠ k) : uf f k v j = f j := if_neg h
theorem sm_uf {f : Nat → Nat} {k v n : Nat} (hk : k < n) : sm (uf f k v) n + f k = sm f n + v := by
  induction n with
  | zero => omega
  | succ n ih =>
    rw [sm, sm]
    by_cases q : k < n
    · have := ih q
      rw [uf_k (by omega)]
      omega
    · have e : k = n := by omega
      subst e
      rw [uf_s, sm_congr (g := f) fun j hj => uf_k (by omega)]
      omega
theorem sm_ufo {f : Nat → Nat} {k v n : Nat} (hk : n ≤ k) : sm (uf f k v) n = sm f n := sm_congr fun j hj => uf_k (by omega)
theorem sm_del {f : Nat → Nat} {k n : Nat} (hk : k < n + 1) : sm (del k f) n + f k = sm f (n + 1) := by
  induction n with
  | zero =>
    have : k = 0 := by omega
    subst this; rfl
  | succ n ih =>
    by_cases q : k < n + 1
    · have h1 := ih q
      have h2 : del k f n = f (n + 1) := if_neg (by omega)
      rw [sm, h2, sm]
      omega
    · have e : k = n + 1 := by omega
      subst e
      rw [sm, sm_congr (f := del (n + 1) f) (g := f) fun j hj => if_pos (by omega), show del (n + 1) f n = f n from if_pos (by omega)]
      rfl
def op0 (T : Th) (c : Nat) : Th := ((tR T + 1, T.1.2), uf (tC T) (tR T) c, T.2.2)
def opP (T : Th) (r v : Nat) : Th := (T.1, tC T, uf (tP T) r v, T.2.2.2)
def op3 (T : Th) (r u : Nat) : Th := ((tR T, tN T + 1, tX T + 1, tM T, tV T, tA T + u, tL T), tC T, tP T, tK T, tB T, uf (tI T) (tN T) (tX T), uf (tW T) (tN T) r, uf (tU T) (tN T) u, uf (tH T) (tN T) none)
def op4 (T : Th) (k r : Nat) : Th := ((tR T, tN T, tX T, tM T + 1, T.1.2.2.2.2), tC T, tP T, tK T, tB T, tI T, uf (tW T) k r, tU T, tH T)
def lost (T : Th) (k : Nat) : Nat := match hs T k with
  | none => tU T k
  | some j => tU T j + tU T k - min (tU T j + tU T k) 999
def bqU (T : Th) (k : Nat) : Nat → Nat := match hs T k with
  | none => tU T
  | some j => uf (tU T) j (min (tU T j + tU T k) 999)
def bqH (T : Th) (k : Nat) : Nat → Option Nat := fun i => if tH T i = some (tI T k) then tH T k else tH T i
def op5 (T : Th) (k : Nat) : Th := ((tR T, tN T - 1, tX T, tM T, tV T + 1, tA T, tL T + lost T k), tC T, tP T, tK T, tB T, del k (tI T), del k (tW T), del k (bqU T k), del k (bqH T k))
def op6 (T : Th) (k : Nat) (h : Option Nat) : Th := (T.1, tC T, tP T, tK T, tB T, tI T, tW T, tU T, uf (tH T) k h)
def op8 (T : Th) (r : Nat) (b : Bool) : Th := (T.1, tC T, tP T, uf (tK T) r b, T.2.2.2.2)
def op10 (T : Th) (b r : Nat) : Th := (T.1, tC T, tP T, tK T, uf (tB T) b (some r), T.2.2.2.2.2)
/-- the loudest of a row -/
def ldst (T : Th) (r : Nat) : Option Nat := bst (fun k => decide (tW T k = r)) (tU T) (tN T)
/-- one step of spreading -/
def sps (T : Th) (r : Nat) : Option Th := if cnt T r ≤ tC T r then none else match ldst T r with
  | none => none
  | some k => match rsp T r with
    | none => none
    | some x => some (op4 T k x)
def spn (T : Th) (r : Nat) : Nat → Nat × Th
  | 0 => (0, T)
  | m + 1 => match sps (spn T r m).2 r with
    | none => spn T r m
    | some T' => ((spn T r m).1 + 1, T')
def lkd (T : Th) : Nat := sm (fun r => if tK T r then 1 else 0) (tR T)
def opN (T : Th) (kind a b : Nat) : Int32 × Th :=
  if kind = 0 then (nI (tR T), op0 T a) else if kind = 1 then (nI (tP T a + b), opP T a (tP T a + b)) else if kind = 2 then (nI (tP T a - b), opP T a (tP T a - b)) else if kind = 3 then (nI (tX T), op3 T a b) else if kind = 4 then (nI (tW T a), op4 T a b) else if kind = 5 then (nI (lost T a), op5 T a) else if kind = 6 then (eo (tH T a), op6 T a (some (tI T b))) else if kind = 7 then (eo (tH T a), op6 T a none) else if kind = 8 then (nI (lkd (op8 T a true)), op8 T a true) else if kind = 9 then (nI (lkd (op8 T a false)), op8 T a false) else if kind = 10 then (eo (tB T a), op10 T a b) else (nI (spn T a 24).1, (spn T a 24).2)
/-- what the rules have seen to -/
def okN (T : Th) (kind a b : Nat) : Prop :=
  (kind = 0 → 1 ≤ a ∧ a ≤ 12 ∧ tR T < 8) ∧ (kind = 1 → a < tR T ∧ 1 ≤ b ∧ tP T a + b ≤ 6) ∧ (kind = 2 → a < tR T ∧ 1 ≤ b ∧ b ≤ tP T a ∧ cnt T a + b ≤ tC T a + tP T a) ∧ (kind = 3 → a < tR T ∧ 1 ≤ b ∧ b ≤ 999 ∧ cnt T a < tC T a + tP T a ∧ tN T < 24) ∧ (kind = 4 → a < tN T ∧ b < tR T ∧ tW T a ≠ b ∧ cnt T b < tC T b + tP T b) ∧ (kind = 5 → a < tN T) ∧ (kind = 6 → a < tN T ∧ b < tN T ∧ a ≠ b ∧ ¬ pas T b a) ∧ (kind = 7 → a < tN T) ∧ (kind = 8 → a < tR T) ∧ (kind = 9 → a < tR T) ∧ (kind = 10 → a < 8 ∧ b < tR T) ∧ (kind = 11 → a < tR T)
section
variable {T : Th} {n : Nat}
theorem WT.asc (h : WT n T) {j k : Nat} (h1 : j < k) (h2 : k < tN T) : tI T j < tI T k := h.2.2.2.1 j k h1 h2
theorem WT.inj (h : WT n T) {j k : Nat} (h1 : j < tN T) (h2 : k < tN T) (e : tI T j = tI T k) : j = k := by
  rcases Nat.lt_trichotomy j k with q | q | q
  · have := h.asc q h2; omega
  · exact q
  · have := h.asc q h1; omega
theorem WT.sltE (h : WT n T) {k : Nat} (hk : k < tN T) : slt T (tI T k) = some k :=
  fnd_some hk (by simp) fun j hj => by
    simp only [decide_eq_false_iff_not]
    have := h.asc hj hk
    omega
theorem WT.hsE (h : WT n T) {k d : Nat} (hk : k < tN T) (e : tH T k = some d) : ∃ j, j < tN T ∧ tI T j = d ∧ hs T k = some j := by
  obtain ⟨j, hj, e2⟩ := (h.2.2.2.2.1 k hk).2.2.2.2 d e
  refine ⟨j, hj, e2, ?_⟩
  unfold hs
  rw [e]
  show slt T d = some j
  rw [← e2]
  exact h.sltE hj
theorem it_head {i x : Nat} (h : hs T i = some x) : ∀ m, it T (m + 1) i = it T m x
  | 0 => by show (match hs T i with | some j => j | none => i) = x; rw [h]
  | m + 1 => by
    show (match hs T (it T (m + 1) i) with | some j => j | none => it T (m + 1) i) = (match hs T (it T m x) with | some j => j | none => it T m x)
    rw [it_head h m]
theorem pas_head (ha : Ac T) (hN : tN T ≤ 24) {i x k : Nat} (hi : i < tN T) (h : hs T i = some x) (hp : pas T x k) : pas T i k := by
  obtain ⟨m, hm, e⟩ := hp
  by_cases q : m + 1 < 24
  · exact ⟨m + 1, q, by rw [it_head h]; exact e⟩
  · have e2 : m = 23 := by omega
    subst e2
    refine ⟨23, by omega, ?_⟩
    have h1 := it_end (it_stop ha hi (m := 23) (by omega)) 1
    rw [← it_head h 23] at e
    rw [← h1]
    exact e
/-! what each keeps -/
theorem WT.k0 (h : WT n T) {c : Nat} (h1 : 1 ≤ c) (h2 : c ≤ 12) (h3 : tR T < 8) : WT (n + 1) (op0 T c) := by
  obtain ⟨a1, a2, ⟨b1, b2, b3, b4, b5⟩, a4, a5, a6, a7, a8⟩ := h
  refine ⟨show tR T + 1 ≤ 8 by omega, a2, ⟨show tX T ≤ _ by omega, show tM T ≤ _ by omega, show tV T ≤ _ by omega, show tA T ≤ _ by omega, b5⟩, a4, fun k hk => ?_, a6, fun r hr => ?_, fun r => ?_⟩
  · obtain ⟨c1, c2, c3⟩ := a5 k hk
    exact ⟨c1, Nat.lt_succ_of_lt c2, c3⟩
  · show 1 ≤ uf (tC T) (tR T) c r ∧ cnt T r ≤ uf (tC T) (tR T) c r + tP T r
    by_cases q : r = tR T
    · subst q
      rw [uf_s]
      have : cnt T (tR T) = 0 := sm_zero fun k hk => if_neg (by have := (a5 k hk).2.1; omega)
      exact ⟨h1, by omega⟩
    · rw [uf_k q]; exact a7 r (by have : r < tR T + 1 := hr; omega)
  · obtain ⟨c1, c2, c3, c4⟩ := a8 r
    refine ⟨?_, c2, fun q => c3 (by have : tR T + 1 ≤ r := q; omega), fun x hx => Nat.lt_succ_of_lt (c4 x hx)⟩
    show uf (tC T) (tR T) c r ≤ 12
    by_cases q : r = tR T
    · subst q; rw [uf_s]; exact h2
    · rw [uf_k q]; exact c1
theorem WT.kP (h : WT n T) {r0 v : Nat} (h0 : r0 < tR T) (h1 : v ≤ 6) (h2 : cnt T r0 ≤ tC T r0 + v) : WT (n + 1) (opP T r0 v) := by
  obtain ⟨a1, a2, ⟨b1, b2, b3, b4, b5⟩, a4, a5, a6, a7, a8⟩ := h
  refine ⟨a1, a2, ⟨show tX T ≤ _ by omega, show tM T ≤ _ by omega, show tV T ≤ _ by omega, show tA T ≤ _ by omega, b5⟩, a4, a5, a6, fun r hr => ?_, fun r => ?_⟩
  · show 1 ≤ tC T r ∧ cnt T r ≤ tC T r + uf (tP T) r0 v r
    refine ⟨(a7 r hr).1, ?_⟩
    by_cases q : r = r0
    · subst q; rw [uf_s]; exact h2
    · rw [uf_k q]; exact (a7 r hr).2
  · obtain ⟨c1, c2, c3, c4⟩ := a8 r
    show tC T r ≤ 12 ∧ uf (tP T) r0 v r ≤ 6 ∧ (tR T ≤ r → uf (tP T) r0 v r = 0 ∧ tK T r = false) ∧ _
    by_cases q : r = r0
    · subst q; rw [uf_s]; exact ⟨c1, h1, fun z => by omega, c4⟩
    · rw [uf_k q]; exact ⟨c1, c2, c3, c4⟩
theorem cnt_op3 {r0 u r : Nat} : cnt (op3 T r0 u) r = cnt T r + if r0 = r then 1 else 0 := by
  show sm (fun k => if uf (tW T) (tN T) r0 k = r then 1 else 0) (tN T + 1) = _
  rw [sm, uf_s]
  congr 1
  exact sm_congr fun k hk => by rw [uf_k (by omega)]
theorem WT.k3 (h : WT n T) {r0 u : Nat} (h0 : r0 < tR T) (h1 : 1 ≤ u) (h2 : u ≤ 999) (h3 : cnt T r0 < tC T r0 + tP T r0) (h4 : tN T < 24) : WT (n + 1) (op3 T r0 u) := by
  obtain ⟨a1, a2, ⟨b1, b2, b3, b4, b5⟩, a4, a5, ⟨rk, a6⟩, a7, a8⟩ := h
  refine ⟨a1, show tN T + 1 ≤ 24 by omega, ⟨show tX T + 1 ≤ _ by omega, show tM T ≤ _ by omega, show tV T ≤ _ by omega, show tA T + u ≤ _ by omega, ?_⟩, fun j k hj hk => ?_, fun k hk => ?_, ⟨rk, fun k hk d hd => ?_⟩, fun r hr => ?_, a8⟩
  · show tA T + u = sm (uf (tU T) (tN T) u) (tN T + 1) + tL T
    rw [sm, uf_s, sm_ufo (Nat.le_refl _), b5]
    unfold lall; omega
  · show uf (tI T) (tN T) (tX T) j < uf (tI T) (tN T) (tX T) k
    have hk' : k < tN T + 1 := hk
    rw [uf_k (show j ≠ tN T by omega)]
    by_cases q : k = tN T
    · subst q; rw [uf_s]; exact (a5 j (by omega)).1
    · rw [uf_k q]; exact a4 j k hj (by omega)
  · have hk' : k < tN T + 1 := hk
    show uf (tI T) (tN T) (tX T) k < tX T + 1 ∧ uf (tW T) (tN T) r0 k < tR T ∧ 1 ≤ uf (tU T) (tN T) u k ∧ uf (tU T) (tN T) u k ≤ 999 ∧ ∀ d, uf (tH T) (tN T) none k = some d → ∃ j, j < tN T + 1 ∧ uf (tI T) (tN T) (tX T) j = d
    by_cases q : k = tN T
    · subst q
      rw [uf_s, uf_s, uf_s, uf_s]
      exact ⟨by omega, h0, h1, h2, fun d hd => by cases hd⟩
    · rw [uf_k q, uf_k q, uf_k q, uf_k q]
      obtain ⟨c1, c2, c3, c4, c5⟩ := a5 k (by omega)
      refine ⟨by omega, c2, c3, c4, fun d hd => ?_⟩
      obtain ⟨j, hj, e⟩ := c5 d hd
      exact ⟨j, by omega, by rw [uf_k (by omega)]; exact e⟩
  · have hk' : k < tN T + 1 := hk
    have hd' : uf (tH T) (tN T) none k = some d := hd
    show rk d < rk (uf (tI T) (tN T) (tX T) k)
    by_cases q : k = tN T
    · subst q; rw [uf_s] at hd'; cases hd'
    · rw [uf_k q] at hd' ⊢
      exact a6 k (by omega) d hd'
  · rw [cnt_op3]
    show 1 ≤ tC T r ∧ _ ≤ tC T r + tP T r
    refine ⟨(a7 r hr).1, ?_⟩
    by_cases q : r0 = r
    · subst q; rw [if_pos rfl]; omega
    · rw [if_neg q]; exact (a7 r hr).2
theorem cnt_op4 {k r0 r : Nat} (hk : k < tN T) : cnt (op4 T k r0) r + (if tW T k = r then 1 else 0) = cnt T r + if r0 = r then 1 else 0 := by
  have h := sm_uf (f := fun j => if tW T j = r then 1 else 0) (k := k) (v := if r0 = r then 1 else 0) hk
  refine Eq.trans ?_ h
  congr 1
  exact sm_congr fun j hj => by
    show (if uf (tW T) k r0 j = r then 1 else 0) = uf (fun j => if tW T j = r then 1 else 0) k (if r0 = r then 1 else 0) j
    by_cases q : j = k
    · subst q; rw [uf_s, uf_s]
    · rw [uf_k q, uf_k q]
/-- a theatre with another number of moves -/
def mvs (m : Nat) (T : Th) : Th := ((tR T, tN T, tX T, m, T.1.2.2.2.2), T.2)
theorem WT.mv (h : WT n T) {m : Nat} (hm : m ≤ 24 * n) : WT n (mvs m T) := by
  obtain ⟨a1, a2, ⟨b1, b2, b3, b4, b5⟩, a4⟩ := h
  exact ⟨a1, a2, ⟨b1, hm, b3, b4, b5⟩, a4⟩
theorem WT.vm {m : Nat} (h : WT n (mvs m T)) {n' : Nat} (hn : n ≤ n') (hm : tM T ≤ 24 * n') : WT n' T := by
  obtain ⟨a1, a2, ⟨b1, b2, b3, b4, b5⟩, a4⟩ := h
  exact ⟨a1, a2, ⟨Nat.le_trans b1 hn, hm, Nat.le_trans b3 hn, Nat.le_trans b4 (Nat.mul_le_mul_left _ hn), b5⟩, a4⟩
theorem WT.k4 (h : WT n T) {k0 r0 : Nat} (h0 : k0 < tN T) (h1 : r0 < tR T) (h2 : tW T k0 ≠ r0) (h3 : cnt T r0 < tC T r0 + tP T r0) : WT n (mvs 0 (op4 T k0 r0)) := by
  obtain ⟨a1, a2, ⟨b1, b2, b3, b4, b5⟩, a4, a5, a6, a7, a8⟩ := h
  refine ⟨a1, a2, ⟨b1, Nat.zero_le _, b3, b4, b5⟩, a4, fun k hk => ?_, a6, fun r hr => ?_, a8⟩
  · obtain ⟨c1, c2, c3⟩ := a5 k hk
    refine ⟨c1, ?_, c3⟩
    show uf (tW T) k0 r0 k < tR T
    by_cases q : k = k0
    · subst q; rw [uf_s]; exact h1
    · rw [uf_k q]; exact c2
  · show 1 ≤ tC T r ∧ cnt (op4 T k0 r0) r ≤ tC T r + tP T r
    refine ⟨(a7 r hr).1, ?_⟩
    have h5 := cnt_op4 (T := T) (r0 := r0) (r := r) h0
    have h6 := (a7 r hr).2
    by_cases q : r0 = r
    · subst q
      rw [if_neg h2, if_pos rfl] at h5
      omega
    · rw [if_neg q] at h5
      omega
/-- the rank where those that come to an echo stand higher -/
def bns (rk : Nat → Nat) : Option Nat → Nat
  | none => 0
  | some e => rk e + 1
def rku (T : Th) (k0 : Nat) (rk : Nat → Nat) (B d : Nat) : Nat := match slt T d with
  | none => rk d
  | some x => if pasb T x k0 = true then rk d + B else rk d
theorem WT.k6 (h : WT n T) {k0 : Nat} {v : Option Nat} (h0 : k0 < tN T) (h1 : ∀ d, v = some d → ∃ j, j < tN T ∧ tI T j = d ∧ ¬ pas T j k0) : WT (n + 1) (op6 T k0 v) := by
  have hW := h
  have ha := h.ac
  obtain ⟨a1, a2, ⟨b1, b2, b3, b4, b5⟩, a4, a5, ⟨rk, a6⟩, a7, a8⟩ := h
  refine ⟨a1, a2, ⟨show tX T ≤ _ by omega, show tM T ≤ _ by omega, show tV T ≤ _ by omega, show tA T ≤ _ by omega, b5⟩, a4, fun k hk => ?_, ?_, a7, a8⟩
  · obtain ⟨c1, c2, c3, c4, c5⟩ := a5 k hk
    refine ⟨c1, c2, c3, c4, fun d hd => ?_⟩
    have hd' : uf (tH T) k0 v k = some d := hd
    by_cases q : k = k0
    · subst q
      rw [uf_s] at hd'
      obtain ⟨j, hj, e, _⟩ := h1 d hd'
      exact ⟨j, hj, e⟩
    · rw [uf_k q] at hd'; exact c5 d hd'
  · -- the rank: those that come to the echo stand higher
    refine ⟨rku T k0 rk (bns rk v), fun k hk d hd => ?_⟩
    have hd' : uf (tH T) k0 v k = some d := hd
    show rku T k0 rk (bns rk v) d < rku T k0 rk (bns rk v) (tI T k)
    unfold rku
    have hk' : k < tN T := hk
    rw [hW.sltE hk']
    by_cases q : k = k0
    · subst q
      rw [uf_s] at hd'
      obtain ⟨j, hj, e, hp⟩ := h1 d hd'
      subst e
      rw [hW.sltE hj, hd']
      simp only [pasb_n hp, pasb_y (show pas T k k from ⟨0, by omega, rfl⟩), if_true, bns]
      rw [if_neg (by simp)]
      omega
    · rw [uf_k q] at hd'
      obtain ⟨j, hj, e, h2⟩ := hW.hsE hk' hd'
      subst e
      rw [hW.sltE hj]
      have h3 := a6 k hk' _ hd'
      by_cases z : pas T j k0
      · simp only [pasb_y z, pasb_y (pas_head ha a2 hk' h2 z), if_true]
        omega
      · simp only [pasb_n z]
        rw [if_neg (by simp)]
        by_cases y : pasb T k k0 = true
        · rw [if_pos y]; omega
        · rw [if_neg y]; exact h3
theorem WT.k8 (h : WT n T) {r0 : Nat} {b : Bool} (h0 : r0 < tR T) : WT (n + 1) (op8 T r0 b) := by
  obtain ⟨a1, a2, ⟨b1, b2, b3, b4, b5⟩, a4, a5, a6, a7, a8⟩ := h
  refine ⟨a1, a2, ⟨show tX T ≤ _ by omega, show tM T ≤ _ by omega, show tV T ≤ _ by omega, show tA T ≤ _ by omega, b5⟩, a4, a5, a6, a7, fun r => ?_⟩
  obtain ⟨c1, c2, c3, c4⟩ := a8 r
  refine ⟨c1, c2, fun q => ⟨(c3 q).1, ?_⟩, c4⟩
  have q' : tR T ≤ r := q
  show uf (tK T) r0 b r = false
  rw [uf_k (by omega)]
  exact (c3 q).2
theorem WT.k10 (h : WT n T) {b0 r0 : Nat} (h0 : r0 < tR T) : WT (n + 1) (op10 T b0 r0) := by
  obtain ⟨a1, a2, ⟨b1, b2, b3, b4, b5⟩, a4, a5, a6, a7, a8⟩ := h
  refine ⟨a1, a2, ⟨show tX T ≤ _ by omega, show tM T ≤ _ by omega, show tV T ≤ _ by omega, show tA T ≤ _ by omega, b5⟩, a4, a5, a6, a7, fun r => ?_⟩
  obtain ⟨c1, c2, c3, c4⟩ := a8 r
  refine ⟨c1, c2, c3, fun x hx => ?_⟩
  have hx' : uf (tB T) b0 (some r0) r = some x := hx
  show x < tR T
  by_cases q : r = b0
  · subst q; rw [uf_s] at hx'; cases hx'; exact h0
  · rw [uf_k q] at hx'; exact c4 x hx'
end
