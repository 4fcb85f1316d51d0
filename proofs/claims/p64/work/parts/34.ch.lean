/-! ===== chains of heirs, the loudest, the quietest, ranks: as numbers ===== -/
theorem sm_lt {f g : Nat → Nat} {n j : Nat} (h : ∀ k, k < n → f k ≤ g k) (hj : j < n) (hs : f j < g j) : sm f n < sm g n := by
  induction n with
  | zero => omega
  | succ n ih =>
    rw [sm, sm]
    have h1 := h n (by omega)
    by_cases q : j < n
    · have := ih (fun k hk => h k (by omega)) q
      omega
    · have e : j = n := by omega
      subst e
      have : ∀ m, m ≤ j → sm f m ≤ sm g m := by
        intro m
        induction m with
        | zero => intro _; exact Nat.le_refl _
        | succ m ih2 => intro hm; rw [sm, sm]; exact Nat.add_le_add (ih2 (by omega)) (h m (by omega))
      have := this j (Nat.le_refl _)
      omega
theorem sm_leP {f g : Nat → Nat} {n : Nat} (h : ∀ k, k < n → f k ≤ g k) : sm f n ≤ sm g n := by
  induction n with
  | zero => exact Nat.le_refl _
  | succ n ih => rw [sm, sm]; exact Nat.add_le_add (ih fun k hk => h k (by omega)) (h n (by omega))
theorem sm_zero {n : Nat} {f : Nat → Nat} (h : ∀ k, k < n → f k = 0) : sm f n = 0 := by
  induction n with
  | zero => rfl
  | succ n ih => rw [sm, ih (fun k hk => h k (by omega)), h n (by omega)]
theorem sm_add {f g : Nat → Nat} {n : Nat} : sm (fun k => f k + g k) n = sm f n + sm g n := by
  induction n with
  | zero => rfl
  | succ n ih => rw [sm, sm, sm, ih]; omega
theorem sm_swap {f : Nat → Nat → Nat} {n m : Nat} : sm (fun r => sm (f r) n) m = sm (fun k => sm (fun r => f r k) m) n := by
  induction m with
  | zero => exact (sm_zero fun _ _ => rfl).symm
  | succ m ih => rw [sm, ih, ← sm_add]; rfl
theorem sm_one {x R : Nat} (h : x < R) : sm (fun r => if x = r then 1 else 0) R = 1 := by
  induction R with
  | zero => omega
  | succ R ih =>
    rw [sm]
    by_cases q : x < R
    · rw [ih q, if_neg (by omega)]
    · have e : x = R := by omega
      subst e
      rw [if_pos rfl, sm_zero fun k hk => if_neg (by omega)]
/-- the slot that is m steps of heirs away, or the last -/
def it (T : Th) : Nat → Nat → Nat
  | 0, k => k
  | m + 1, k => match hs T (it T m k) with
    | some j => j
    | none => it T m k
theorem it_end {T : Th} {k m : Nat} (h : hs T (it T m k) = none) : ∀ j, it T (m + j) k = it T m k
  | 0 => rfl
  | j + 1 => by
    show (match hs T (it T (m + j) k) with | some j => j | none => it T (m + j) k) = _
    rw [it_end h j, h]
theorem it_lt {T : Th} {k : Nat} (hk : k < tN T) : ∀ m, it T m k < tN T
  | 0 => hk
  | m + 1 => by
    show (match hs T (it T m k) with | some j => j | none => it T m k) < _
    cases e : hs T (it T m k) with
    | none => exact it_lt hk m
    | some j => exact (hs_lt e).1
/-- chains end -/
def Ac (T : Th) : Prop := ∃ rk : Nat → Nat, ∀ k, k < tN T → ∀ d, tH T k = some d → rk d < rk (tI T k)
theorem WT.ac {c : Nat} {T : Th} (h : WT c T) : Ac T := h.2.2.2.2.2.1
def msr (T : Th) (rk : Nat → Nat) (k : Nat) : Nat := sm (fun x => if rk (tI T x) < rk (tI T k) then 1 else 0) (tN T)
theorem msr_lt {T : Th} {rk : Nat → Nat} {k j : Nat} (hk : j < tN T) (h : rk (tI T j) < rk (tI T k)) : msr T rk j < msr T rk k := by
  refine sm_lt (j := j) (fun x _ => ?_) hk ?_
  · by_cases q : rk (tI T x) < rk (tI T j)
    · rw [if_pos q, if_pos (by omega)]; exact Nat.le_refl _
    · rw [if_neg q]; exact Nat.zero_le _
  · rw [if_neg (Nat.lt_irrefl _), if_pos h]; exact Nat.zero_lt_one
theorem msr_top {T : Th} {rk : Nat → Nat} {k : Nat} (hk : k < tN T) : msr T rk k < tN T := by
  have h1 : msr T rk k < sm (fun _ => 1) (tN T) := by
    refine sm_lt (j := k) (fun x _ => ?_) hk ?_
    · by_cases q : rk (tI T x) < rk (tI T k)
      · rw [if_pos q]; exact Nat.le_refl _
      · rw [if_neg q]; exact Nat.zero_le _
    · rw [if_neg (Nat.lt_irrefl _)]; exact Nat.zero_lt_one
  have h2 : ∀ n, sm (fun _ => 1) n = n := by
    intro n
    induction n with
    | zero => rfl
    | succ n ih => rw [sm, ih]
  rw [h2] at h1
  exact h1
theorem it_stop {T : Th} (ha : Ac T) {k : Nat} (hk : k < tN T) {m : Nat} (hm : tN T ≤ m + 1) : hs T (it T m k) = none := by
  obtain ⟨rk, hr⟩ := ha
  cases e : hs T (it T m k) with
  | none => rfl
  | some j =>
    exfalso
    have key : ∀ i, i ≤ m → msr T rk (it T i k) + i ≤ msr T rk k ∧ hs T (it T i k) ≠ none := by
      intro i
      induction i with
      | zero =>
        intro _
        refine ⟨Nat.le_refl _, fun q => ?_⟩
        have := it_end (m := 0) q m
        rw [Nat.zero_add] at this
        rw [this] at e
        rw [q] at e
        cases e
      | succ i ih =>
        intro hi
        obtain ⟨h1, h2⟩ := ih (by omega)
        refine ⟨?_, fun q => ?_⟩
        · cases f : hs T (it T i k) with
          | none => exact absurd f h2
          | some x =>
            have h3 := hs_lt f
            have h4 : it T (i + 1) k = x := by
              show (match hs T (it T i k) with | some j => j | none => it T i k) = x
              rw [f]
            rw [h4]
            have h5 := msr_lt (rk := rk) (k := it T i k) h3.1 (hr _ (it_lt hk i) _ h3.2)
            omega
        · have h3 := it_end q (m - (i + 1))
          rw [show i + 1 + (m - (i + 1)) = m by omega] at h3
          rw [h3, q] at e
          cases e
    have h1 := (key m (Nat.le_refl _)).1
    have h2 := msr_top (rk := rk) hk
    have h3 := hs_lt e
    have h4 := msr_lt (rk := rk) (k := it T m k) h3.1 (hr _ (it_lt hk m) _ h3.2)
    omega
/-- the last of a chain; how many steps; whether it comes by a slot -/
def lst (T : Th) (k : Nat) : Nat := it T 24 k
def lng (T : Th) (k : Nat) : Nat := sm (fun i => if (hs T (it T i k)).isSome then 1 else 0) 24
def pas (T : Th) (k x : Nat) : Prop := ∃ m, m < 24 ∧ it T m k = x
/-- at the end of a chain -/
theorem lst_at {T : Th} {k m : Nat} (h : hs T (it T m k) = none) (hm : m ≤ 24) : lst T k = it T m k := by
  have := it_end h (24 - m)
  rw [show m + (24 - m) = 24 by omega] at this
  exact this
theorem lng_at {T : Th} {k m : Nat} (h : hs T (it T m k) = none) (hm : m ≤ 24) (hb : ∀ i, i < m → hs T (it T i k) ≠ none) : lng T k = m := by
  have : ∀ n, n ≤ 24 → sm (fun i => if (hs T (it T i k)).isSome then 1 else 0) n = min n m := by
    intro n
    induction n with
    | zero => intro _; rw [sm]; omega
    | succ n ih =>
      intro hn
      rw [sm, ih (by omega)]
      by_cases q : n < m
      · have h1 := hb n q
        have h2 : (hs T (it T n k)).isSome = true := by
          cases e : hs T (it T n k) with
          | none => exact absurd e h1
          | some _ => rfl
        rw [if_pos h2]; omega
      · have h1 := it_end h (n - m)
        rw [show m + (n - m) = n by omega] at h1
        have h2 : ¬ (hs T (it T n k)).isSome = true := by rw [h1, h]; exact fun z => Bool.noConfusion z
        rw [if_neg h2]; omega
  have h3 := this 24 (Nat.le_refl _)
  unfold lng
  rw [h3]; omega
/-- the first greatest -/
def bst (P : Nat → Bool) (f : Nat → Nat) : Nat → Option Nat
  | 0 => none
  | n + 1 => match bst P f n with
    | none => if P n then some n else none
    | some b => if P n ∧ f b < f n then some n else some b
theorem bst_lt {P : Nat → Bool} {f : Nat → Nat} {n b : Nat} (h : bst P f n = some b) : b < n ∧ P b = true := by
  induction n generalizing b with
  | zero => cases h
  | succ n ih =>
    rw [bst] at h
    cases e : bst P f n with
    | none =>
      rw [e] at h
      by_cases q : P n = true
      · simp [q] at h; subst h; exact ⟨by omega, q⟩
      · simp [q] at h
    | some x =>
      rw [e] at h
      have h1 := ih e
      by_cases q : P n = true ∧ f x < f n
      · simp [q] at h; subst h; exact ⟨by omega, q.1⟩
      · simp only [q, if_false] at h
        cases h
        exact ⟨by omega, h1.2⟩
/-- the quietest row of the first n -/
def qt (T : Th) : Nat → Nat
  | 0 => 0
  | n + 1 => if n = 0 then 0 else if ld T n < ld T (qt T n) then n else qt T n
theorem qt_lt (T : Th) {n : Nat} (h : 0 < n) : qt T n < n := by
  induction n with
  | zero => omega
  | succ n ih =>
    rw [qt]
    by_cases q : n = 0
    · rw [if_pos q]; omega
    · rw [if_neg q]
      have := ih (by omega)
      by_cases z : ld T n < ld T (qt T n)
      · rw [if_pos z]; omega
      · rw [if_neg z]; omega
/-- echoes of the rows a .. b-1 -/
def btw (T : Th) (a b : Nat) : Nat := sm (fun i => cnt T (a + i)) (b - a)
theorem btw0 (T : Th) (b : Nat) : btw T 0 b = sm (cnt T) b := sm_congr fun k _ => by rw [Nat.zero_add]
def rnk (T : Th) (k : Nat) : Nat := sm (cnt T) (tW T k) + pos T (tW T k) k
theorem cnt_all {T : Th} (h : ∀ k, k < tN T → tW T k < tR T) : sm (cnt T) (tR T) = tN T := by
  have h1 : sm (cnt T) (tR T) = sm (fun k => sm (fun r => if tW T k = r then 1 else 0) (tR T)) (tN T) := sm_swap (f := fun r k => if tW T k = r then 1 else 0)
  rw [h1, sm_congr (g := fun _ => 1) fun k hk => sm_one (h k hk)]
  have : ∀ n, sm (fun _ => 1) n = n := by
    intro n
    induction n with
    | zero => rfl
    | succ n ih => rw [sm, ih]
  exact this _
theorem pos_cnt {T : Th} {k : Nat} (hk : k < tN T) : pos T (tW T k) k < cnt T (tW T k) := by
  have h1 : pos T (tW T k) (k + 1) ≤ cnt T (tW T k) := sm_mono (by omega)
  have h2 : pos T (tW T k) (k + 1) = pos T (tW T k) k + 1 := by show sm _ (k + 1) = _; rw [sm, if_pos rfl]; rfl
  omega
theorem pos_inj {T : Th} {r j k : Nat} (hj : tW T j = r) (hk : tW T k = r) (h : pos T r j = pos T r k) : j = k := by
  have key : ∀ a b, tW T a = r → a < b → pos T r a < pos T r b := by
    intro a b ha hab
    have h1 : pos T r (a + 1) ≤ pos T r b := sm_mono (by omega)
    have h2 : pos T r (a + 1) = pos T r a + 1 := by show sm _ (a + 1) = _; rw [sm, if_pos ha]; rfl
    omega
  rcases Nat.lt_trichotomy j k with q | q | q
  · have := key j k hj q; omega
  · exact q
  · have := key k j hk q; omega
theorem rnk_row {T : Th} {k : Nat} (hk : k < tN T) : sm (cnt T) (tW T k) ≤ rnk T k ∧ rnk T k < sm (cnt T) (tW T k + 1) := by
  have h1 := pos_cnt hk
  have h2 : sm (cnt T) (tW T k + 1) = sm (cnt T) (tW T k) + cnt T (tW T k) := rfl
  unfold rnk
  omega
theorem row_of {T : Th} {a b p : Nat} (h1 : sm (cnt T) a ≤ p) (h2 : p < sm (cnt T) (a + 1)) (h3 : sm (cnt T) b ≤ p) (h4 : p < sm (cnt T) (b + 1)) : a = b := by
  rcases Nat.lt_trichotomy a b with q | q | q
  · have := sm_mono (f := cnt T) (show a + 1 ≤ b by omega); omega
  · exact q
  · have := sm_mono (f := cnt T) (show b + 1 ≤ a by omega); omega
theorem rnk_inj {T : Th} {j k : Nat} (hj : j < tN T) (hk : k < tN T) (h : rnk T j = rnk T k) : j = k := by
  have h1 := rnk_row hj
  have h2 := rnk_row hk
  rw [h] at h1
  have e := row_of h1.1 h1.2 h2.1 h2.2
  refine pos_inj (r := tW T k) e rfl ?_
  unfold rnk at h
  rw [e] at h
  omega
/-- the echo of a rank -/
def rks (T : Th) (p : Nat) : Option Nat := fnd (fun k => decide (rnk T k = p)) (tN T)
theorem rks_some {T : Th} {k : Nat} (hk : k < tN T) : rks T (rnk T k) = some k :=
  fnd_some hk (by simp) fun j hj => by
    simp only [decide_eq_false_iff_not]
    intro q
    have := rnk_inj (by omega) hk q
    omega
/-- a position below the count is taken -/
theorem pos_hit {T : Th} {r p n : Nat} (h : p < pos T r n) : ∃ k, k < n ∧ tW T k = r ∧ pos T r k = p := by
  induction n with
  | zero => exact absurd h (Nat.not_lt_zero _)
  | succ n ih =>
    have h2 : pos T r (n + 1) = pos T r n + if tW T n = r then 1 else 0 := rfl
    by_cases q : p < pos T r n
    · obtain ⟨k, h3, h4⟩ := ih q
      exact ⟨k, by omega, h4⟩
    · by_cases z : tW T n = r
      · rw [if_pos z] at h2
        exact ⟨n, by omega, z, by omega⟩
      · rw [if_neg z] at h2; omega
theorem satp_some {T : Th} {k : Nat} (w : Sz T) (hk : k < tN T) {p : Nat} (hp : pos T (tW T k) k = p) : satp T (tW T k) (nI p) = some k := by
  have hN := w.2.1
  have hle := pos_le T (tW T k) k
  refine fnd_some hk (by simp [hp]) fun j hj => ?_
  simp only [decide_eq_false_iff_not]
  rintro ⟨h1, h2⟩
  have h3 := pos_le T (tW T k) j
  rw [nE (by omega) (by omega)] at h2
  have := pos_inj h1 rfl (h2.trans hp.symm)
  omega
/-- the echo of a rank, by its row -/
theorem satp_rks {T : Th} (w : Sz T) {r p : Nat} (h1 : sm (cnt T) r ≤ p) (h2 : p < sm (cnt T) (r + 1)) : ∃ k, k < tN T ∧ rks T p = some k ∧ satp T r (nI (p - sm (cnt T) r)) = some k := by
  have h3 : sm (cnt T) (r + 1) = sm (cnt T) r + cnt T r := rfl
  obtain ⟨k, hk, h4, h5⟩ := pos_hit (T := T) (r := r) (n := tN T) (p := p - sm (cnt T) r) (show _ < cnt T r by omega)
  refine ⟨k, hk, ?_, ?_⟩
  · have : rnk T k = p := by unfold rnk; rw [h4, h5]; omega
    rw [← this]; exact rks_some hk
  · have := satp_some w hk (p := p - sm (cnt T) r) (by rw [h4]; exact h5)
    rw [h4] at this
    exact this
theorem rks_lt {T : Th} {p k : Nat} (h : rks T p = some k) : k < tN T ∧ rnk T k = p := by
  obtain ⟨h1, h2, _⟩ := fnd_spec h
  exact ⟨h1, of_decide_eq_true h2⟩
/-- the row of a rank -/
theorem row_ex {T : Th} {p : Nat} : ∀ {R : Nat}, p < sm (cnt T) R → ∃ r, r < R ∧ sm (cnt T) r ≤ p ∧ p < sm (cnt T) (r + 1)
  | 0, h => absurd h (Nat.not_lt_zero _)
  | R + 1, h => by
    by_cases q : p < sm (cnt T) R
    · obtain ⟨r, h1, h2⟩ := row_ex q
      exact ⟨r, by omega, h2⟩
    · exact ⟨R, by omega, by omega, h⟩
