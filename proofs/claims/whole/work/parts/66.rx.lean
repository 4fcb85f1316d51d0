/-! ===== the reference: its changes ===== -/
def pcl (kind : Nat) : List Nat := [[0, 0, 0, 1, 2], [0, 0, 1, 2, 3], [0, 0, 1, 2, 3], [0, 0, 1, 2, 3], [0, 1, 2, 0, 3], [0, 1, 0, 0, 2], [0, 1, 0, 2, 3], [0, 1, 0, 0, 2], [0, 0, 1, 0, 2], [0, 0, 1, 0, 2], [0, 0, 2, 1, 0], [0, 0, 1, 0, 2]].getD kind []
theorem pcd_l {kind c : Nat} : pcd kind (.inl c) = (pcl kind).getD c 0 := rfl
section
variable {s s1 s2 : Mem} {T : Th} {A : Ab} {n m f : Nat} {p q : Int32}
theorem rs_pc {kind c : Nat} (hk : kind < 12) (h : rs T kind p q = .inl c) : 1 ≤ (pcl kind).getD c 0 ∧ (pcl kind).getD c 0 ≤ 3 := by
  rcases (show kind = 0 ∨ kind = 1 ∨ kind = 2 ∨ kind = 3 ∨ kind = 4 ∨ kind = 5 ∨ kind = 6 ∨ kind = 7 ∨ kind = 8 ∨ kind = 9 ∨ kind = 10 ∨ kind = 11 by omega) with rfl | rfl | rfl | rfl | rfl | rfl | rfl | rfl | rfl | rfl | rfl | rfl
  · have h : rs0 T p = .inl c := h
    unfold rs0 at h
    repeat' split at h
    all_goals first | (cases h; decide) | (cases h; done)
  · have h : rs1 T p q = .inl c := h
    unfold rs1 at h
    repeat' split at h
    all_goals first | (cases h; decide) | (cases h; done)
  · have h : rs2 T p q = .inl c := h
    unfold rs2 at h
    repeat' split at h
    all_goals first | (cases h; decide) | (cases h; done)
  · have h : rs3 T p q = .inl c := h
    unfold rs3 at h
    repeat' split at h
    all_goals first | (cases h; decide) | (cases h; done)
  · have h : rs4 T p q = .inl c := h
    unfold rs4 at h
    repeat' split at h
    all_goals first | (cases h; decide) | (cases h; done)
  · have h : rs5 T p = .inl c := h
    unfold rs5 at h
    repeat' split at h
    all_goals first | (cases h; decide) | (cases h; done)
  · have h : rs6 T p q = .inl c := h
    unfold rs6 at h
    repeat' split at h
    all_goals first | (cases h; decide) | (cases h; done)
  · have h : rs7 T p = .inl c := h
    unfold rs7 at h
    repeat' split at h
    all_goals first | (cases h; decide) | (cases h; done)
  · have h : rs8 true T p = .inl c := h
    unfold rs8 at h
    repeat' split at h
    all_goals first | (cases h; decide) | (cases h; done)
  · have h : rs8 false T p = .inl c := h
    unfold rs8 at h
    repeat' split at h
    all_goals first | (cases h; decide) | (cases h; done)
  · have h : rs10 T p q = .inl c := h
    unfold rs10 at h
    repeat' split at h
    all_goals first | (cases h; decide) | (cases h; done)
  · have h : rs8 true T p = .inl c := h
    unfold rs8 at h
    repeat' split at h
    all_goals first | (cases h; decide) | (cases h; done)
theorem MK.f6 {T' : Th} (h1 : RF 136 0 s2 T') (h2 : ∃ f, f < 8 ∧ MH f s (pushA A T')) (h3 : MR s A) (k : F6 s s2) : MK s2 (pushA A T') := by
  obtain ⟨f, hf, h2⟩ := h2
  exact ⟨h1, ⟨f, hf, h2.kp (k.1 8 (by decide) 5) (k.1 8 (by decide) 6) (k.1 200 (by decide))⟩, h3.kp fun c j hc => k.1 c (mrc_o hc (by decide)) j⟩
theorem r_remembers (h : MK s A) (W : WA m A) (hm : m ≤ 10000) (T' : Th) : okR (m_X8_remembers s) (fun o s' => o = .inl () ∧ RF 136 0 s' (aT A) ∧ (∃ f', f' < 8 ∧ MH f' s' (pushA A T')) ∧ MR s' A ∧ gI s' 8 0 = gI s 8 0) := by
  obtain ⟨h1, ⟨f, hf, h2⟩, h3⟩ := h
  have w := W.1.sz hm
  unfold m_X8_remembers
  rw [okR_bindR]
  refine okR_mono (r_copies h1 w) fun o s1 z => ?_
  obtain ⟨rfl, z1, z2⟩ := z
  rw [thn_l, okR_bindR]
  refine okR_mono (r_keeps z1 w (h2.kp (z2 8 (by decide) 5) (z2 8 (by decide) 6) (z2 200 (by decide))) hf W.2.1 (fun j hj => (W.2.2.1 j hj).sz hm) T') fun o s2 y => ?_
  obtain ⟨rfl, y1, y2⟩ := y
  rw [thn_l, okR_some]
  refine ⟨rfl, h1.kp (fun j => (y2 136 j (by decide) (Or.inl (by decide))).trans (z2 136 (by decide) j)), y1, h3.kp fun c j hc => (y2 c j (mrc_o hc (by decide)) ?_).trans (z2 c (mrc_o hc (by decide)) j), (y2 8 0 (by decide) (Or.inr (by decide))).trans (z2 8 (by decide) 0)⟩
  rcases mrc_8 hc (k := 5) (by decide) with z | z
  · exact Or.inl z
  · rcases mrc_8 hc (k := 6) (by decide) with y | y
    · exact Or.inl y
    · exact Or.inr ⟨z, y⟩
theorem r_change (h : MK s A) (W : WA m A) (hm : m < 10000) {kind : Nat} (hk : kind < 12) {N : Mem → Option Int32} {O : Mem → Res Int32} (hN : ∀ u, RF 136 0 u (aT A) → N u = some (nI (pcd kind (rs (aT A) kind p q)))) (hO : ∀ u a b, RF 136 0 u (aT A) → rs (aT A) kind p q = .inr (a, b) → okR (O u) (rch u (opN (aT A) kind a b).1 (opN (aT A) kind a b).2)) : okR (vl (pI s 8 0 0) (fun s1 => bindP (N s1) (fun v2 => if v2 = 0 then (bindR (m_X8_remembers s1) (fun v3 s4 => bindR (O s4) (fun v5 s6 => some (.inl v5, s6)))) else (bindR (m_X8_fails v2 s1) (fun v7 s8 => some (.inl v7, s8)))))) (ml (pcl kind) (chA A kind p q).1 (chA A kind p q).2) := by
  have h1 : MK (pI s 8 0 0) A := h.p8 (by decide) (by decide) (by decide)
  rw [okR_vl, hN _ h1.1, bP_some]
  unfold chA
  cases e : rs (aT A) kind p q with
  | inl c =>
    have hc := rs_pc hk e
    rw [pcd_l, if_neg (show ¬ nI ((pcl kind).getD c 0) = 0 from nI_ne0 (by omega) (by omega))]
    exact r_fails h1 rfl (fun u => ⟨0, rfl⟩)
  | inr ab =>
    obtain ⟨a, b⟩ := ab
    rw [show pcd kind (.inr (a, b)) = 0 from rfl, if_pos (show nI 0 = 0 from rfl), okR_bindR]
    refine okR_mono (r_remembers h1 W (by omega) (opN (aT A) kind a b).2) fun o s4 z => ?_
    obtain ⟨rfl, z1, z2, z3, z4⟩ := z
    rw [thn_l, bR_id]
    refine okR_mono (hO s4 a b z1 e) fun o s6 y => ?_
    obtain ⟨y1, y2, y3⟩ := y
    exact ⟨MK.f6 y2 z2 z3 y3, by show gI s6 8 0 = nI 0; rw [y3.1 8 (by decide), z4, gI_s]; rfl, y1⟩
/-! what each kind does -/
theorem r_d0 (h : RF 136 0 s T) (W : WT n T) (hn : n < 10000) {a b : Nat} (hr : rs T 0 p q = .inr (a, b)) : okR (m_X8_addsRow p s) (rch s (opN T 0 a b).1 (opN T 0 a b).2) := by
  have w := W.sz (show n ≤ 10000 by omega)
  have w8 := w.1
  obtain ⟨o0, o1, o2, o3, o4, o5, o6, o7, o8, o9, o10, o11⟩ := rs_ok (kind := 0) (by decide) hr
  obtain ⟨i0, i1, i2, i3, i4, i5, i6, i7, i8, i9, i10, i11⟩ := rs_in (kind := 0) (by decide) hr
  rw [i0 rfl]
  exact r_addsRow h W w (o0 rfl).2.2
theorem r_d1 (h : RF 136 0 s T) (W : WT n T) (hn : n < 10000) {a b : Nat} (hr : rs T 1 p q = .inr (a, b)) : okR (m_X8_changesPhantoms p q s) (rch s (opN T 1 a b).1 (opN T 1 a b).2) := by
  have w := W.sz (show n ≤ 10000 by omega)
  have w8 := w.1
  obtain ⟨o0, o1, o2, o3, o4, o5, o6, o7, o8, o9, o10, o11⟩ := rs_ok (kind := 1) (by decide) hr
  obtain ⟨i0, i1, i2, i3, i4, i5, i6, i7, i8, i9, i10, i11⟩ := rs_in (kind := 1) (by decide) hr
  obtain ⟨q1, q2⟩ := i1 rfl
  obtain ⟨q3, q4, q5⟩ := o1 rfl
  rw [q1, q2]
  exact r_changesPhantoms h w q3 (nI_add _ _)
theorem r_d2 (h : RF 136 0 s T) (W : WT n T) (hn : n < 10000) {a b : Nat} (hr : rs T 2 p q = .inr (a, b)) : okR (m_X8_changesPhantoms p (-q) s) (rch s (opN T 2 a b).1 (opN T 2 a b).2) := by
  have w := W.sz (show n ≤ 10000 by omega)
  have w8 := w.1
  obtain ⟨o0, o1, o2, o3, o4, o5, o6, o7, o8, o9, o10, o11⟩ := rs_ok (kind := 2) (by decide) hr
  obtain ⟨i0, i1, i2, i3, i4, i5, i6, i7, i8, i9, i10, i11⟩ := rs_in (kind := 2) (by decide) hr
  obtain ⟨q1, q2⟩ := i2 rfl
  obtain ⟨q3, q4, q5, q6⟩ := o2 rfl
  rw [q1, q2]
  exact r_changesPhantoms h w q3 (nI_addneg q5)
theorem r_d3 (h : RF 136 0 s T) (W : WT n T) (hn : n < 10000) {a b : Nat} (hr : rs T 3 p q = .inr (a, b)) : okR (m_X8_adds p q s) (rch s (opN T 3 a b).1 (opN T 3 a b).2) := by
  have w := W.sz (show n ≤ 10000 by omega)
  have w8 := w.1
  obtain ⟨o0, o1, o2, o3, o4, o5, o6, o7, o8, o9, o10, o11⟩ := rs_ok (kind := 3) (by decide) hr
  obtain ⟨i0, i1, i2, i3, i4, i5, i6, i7, i8, i9, i10, i11⟩ := rs_in (kind := 3) (by decide) hr
  obtain ⟨q1, q2⟩ := i3 rfl
  obtain ⟨q3, q4, q5, q6, q7⟩ := o3 rfl
  rw [q1, q2]
  exact r_adds h w q7 (by omega)
theorem r_d4 (h : RF 136 0 s T) (W : WT n T) (hn : n < 10000) {a b : Nat} (hr : rs T 4 p q = .inr (a, b)) : okR (m_X8_moves p q s) (rch s (opN T 4 a b).1 (opN T 4 a b).2) := by
  have w := W.sz (show n ≤ 10000 by omega)
  have w8 := w.1
  obtain ⟨o0, o1, o2, o3, o4, o5, o6, o7, o8, o9, o10, o11⟩ := rs_ok (kind := 4) (by decide) hr
  obtain ⟨i0, i1, i2, i3, i4, i5, i6, i7, i8, i9, i10, i11⟩ := rs_in (kind := 4) (by decide) hr
  obtain ⟨q1, q2⟩ := i4 rfl
  obtain ⟨q3, q4, q5, q6⟩ := o4 rfl
  rw [q2]
  exact r_moves h w q3 q1
theorem r_d5 (h : RF 136 0 s T) (W : WT n T) (hn : n < 10000) {a b : Nat} (hr : rs T 5 p q = .inr (a, b)) : okR (m_X8_removes p s) (rch s (opN T 5 a b).1 (opN T 5 a b).2) := by
  have w := W.sz (show n ≤ 10000 by omega)
  have w8 := w.1
  obtain ⟨o0, o1, o2, o3, o4, o5, o6, o7, o8, o9, o10, o11⟩ := rs_ok (kind := 5) (by decide) hr
  obtain ⟨i0, i1, i2, i3, i4, i5, i6, i7, i8, i9, i10, i11⟩ := rs_in (kind := 5) (by decide) hr
  rw [(sltp_lt (i5 rfl)).2]
  exact r_removes h w W (o5 rfl)
theorem r_d6 (h : RF 136 0 s T) (W : WT n T) (hn : n < 10000) {a b : Nat} (hr : rs T 6 p q = .inr (a, b)) : okR (m_X8_setsHeir p q s) (rch s (opN T 6 a b).1 (opN T 6 a b).2) := by
  have w := W.sz (show n ≤ 10000 by omega)
  have w8 := w.1
  obtain ⟨o0, o1, o2, o3, o4, o5, o6, o7, o8, o9, o10, o11⟩ := rs_ok (kind := 6) (by decide) hr
  obtain ⟨i0, i1, i2, i3, i4, i5, i6, i7, i8, i9, i10, i11⟩ := rs_in (kind := 6) (by decide) hr
  obtain ⟨q1, q2⟩ := i6 rfl
  exact r_setsHeir h w (v := some (tI T b)) (o6 rfl).1 q1 (by rw [(sltp_lt q2).2, nI_1]; rfl)
theorem r_d7 (h : RF 136 0 s T) (W : WT n T) (hn : n < 10000) {a b : Nat} (hr : rs T 7 p q = .inr (a, b)) : okR (m_X8_setsHeir p (-1) s) (rch s (opN T 7 a b).1 (opN T 7 a b).2) := by
  have w := W.sz (show n ≤ 10000 by omega)
  have w8 := w.1
  obtain ⟨o0, o1, o2, o3, o4, o5, o6, o7, o8, o9, o10, o11⟩ := rs_ok (kind := 7) (by decide) hr
  obtain ⟨i0, i1, i2, i3, i4, i5, i6, i7, i8, i9, i10, i11⟩ := rs_in (kind := 7) (by decide) hr
  exact r_setsHeir h w (v := none) (o7 rfl) (i7 rfl) rfl
theorem r_d8 (h : RF 136 0 s T) (W : WT n T) (hn : n < 10000) {a b : Nat} (hr : rs T 8 p q = .inr (a, b)) : okR (m_X8_locks p 1 s) (rch s (opN T 8 a b).1 (opN T 8 a b).2) := by
  have w := W.sz (show n ≤ 10000 by omega)
  have w8 := w.1
  obtain ⟨o0, o1, o2, o3, o4, o5, o6, o7, o8, o9, o10, o11⟩ := rs_ok (kind := 8) (by decide) hr
  obtain ⟨i0, i1, i2, i3, i4, i5, i6, i7, i8, i9, i10, i11⟩ := rs_in (kind := 8) (by decide) hr
  rw [i8 rfl]
  exact r_locks h w (b := true) (o8 rfl)
theorem r_d9 (h : RF 136 0 s T) (W : WT n T) (hn : n < 10000) {a b : Nat} (hr : rs T 9 p q = .inr (a, b)) : okR (m_X8_locks p 0 s) (rch s (opN T 9 a b).1 (opN T 9 a b).2) := by
  have w := W.sz (show n ≤ 10000 by omega)
  have w8 := w.1
  obtain ⟨o0, o1, o2, o3, o4, o5, o6, o7, o8, o9, o10, o11⟩ := rs_ok (kind := 9) (by decide) hr
  obtain ⟨i0, i1, i2, i3, i4, i5, i6, i7, i8, i9, i10, i11⟩ := rs_in (kind := 9) (by decide) hr
  rw [i9 rfl]
  exact r_locks h w (b := false) (o9 rfl)
theorem r_d10 (h : RF 136 0 s T) (W : WT n T) (hn : n < 10000) {a b : Nat} (hr : rs T 10 p q = .inr (a, b)) : okR (m_X8_names p q s) (rch s (opN T 10 a b).1 (opN T 10 a b).2) := by
  have w := W.sz (show n ≤ 10000 by omega)
  have w8 := w.1
  obtain ⟨o0, o1, o2, o3, o4, o5, o6, o7, o8, o9, o10, o11⟩ := rs_ok (kind := 10) (by decide) hr
  obtain ⟨i0, i1, i2, i3, i4, i5, i6, i7, i8, i9, i10, i11⟩ := rs_in (kind := 10) (by decide) hr
  obtain ⟨q1, q2⟩ := i10 rfl
  rw [q1, q2]
  exact r_names h w (o10 rfl).1
theorem r_d11 (h : RF 136 0 s T) (W : WT n T) (hn : n < 10000) {a b : Nat} (hr : rs T 11 p q = .inr (a, b)) : okR (m_X8_spreads p s) (rch s (opN T 11 a b).1 (opN T 11 a b).2) := by
  have w := W.sz (show n ≤ 10000 by omega)
  have w8 := w.1
  obtain ⟨o0, o1, o2, o3, o4, o5, o6, o7, o8, o9, o10, o11⟩ := rs_ok (kind := 11) (by decide) hr
  obtain ⟨i0, i1, i2, i3, i4, i5, i6, i7, i8, i9, i10, i11⟩ := rs_in (kind := 11) (by decide) hr
  rw [opN11, i11 rfl]
  dsimp only
  exact r_spreads h W hn (o11 rfl)
/-! the methods -/
theorem q_addRow (h : MK s A) (W : WA m A) (hm : m < 10000) {p : Int32} : okR (m_X8_addRow p s) (ml (pcl 0) (chA A 0 p 0).1 (chA A 0 p 0).2) := by
  have w := W.1.sz (show m ≤ 10000 by omega)
  exact r_change h W hm (kind := 0) (p := p) (q := 0) (by decide) (fun u hu => r_n0 hu w p) (fun u a b hu hr => r_d0 hu W.1 hm hr)
theorem q_addPhantoms (h : MK s A) (W : WA m A) (hm : m < 10000) {p q : Int32} : okR (m_X8_addPhantoms p q s) (ml (pcl 1) (chA A 1 p q).1 (chA A 1 p q).2) := by
  have w := W.1.sz (show m ≤ 10000 by omega)
  exact r_change h W hm (kind := 1) (p := p) (q := q) (by decide) (fun u hu => r_n1 hu w p q) (fun u a b hu hr => r_d1 hu W.1 hm hr)
theorem q_removePhantoms (h : MK s A) (W : WA m A) (hm : m < 10000) {p q : Int32} : okR (m_X8_removePhantoms p q s) (ml (pcl 2) (chA A 2 p q).1 (chA A 2 p q).2) := by
  have w := W.1.sz (show m ≤ 10000 by omega)
  exact r_change h W hm (kind := 2) (p := p) (q := q) (by decide) (fun u hu => r_n2 hu w W.1 p q) (fun u a b hu hr => r_d2 hu W.1 hm hr)
theorem q_add (h : MK s A) (W : WA m A) (hm : m < 10000) {p q : Int32} : okR (m_X8_add p q s) (ml (pcl 3) (chA A 3 p q).1 (chA A 3 p q).2) := by
  have w := W.1.sz (show m ≤ 10000 by omega)
  exact r_change h W hm (kind := 3) (p := p) (q := q) (by decide) (fun u hu => r_n3 hu w W.1 p q) (fun u a b hu hr => r_d3 hu W.1 hm hr)
theorem q_move (h : MK s A) (W : WA m A) (hm : m < 10000) {p q : Int32} : okR (m_X8_move p q s) (ml (pcl 4) (chA A 4 p q).1 (chA A 4 p q).2) := by
  have w := W.1.sz (show m ≤ 10000 by omega)
  exact r_change h W hm (kind := 4) (p := p) (q := q) (by decide) (fun u hu => r_n4 hu w W.1 p q) (fun u a b hu hr => r_d4 hu W.1 hm hr)
theorem q_remove (h : MK s A) (W : WA m A) (hm : m < 10000) {p : Int32} : okR (m_X8_remove p s) (ml (pcl 5) (chA A 5 p 0).1 (chA A 5 p 0).2) := by
  have w := W.1.sz (show m ≤ 10000 by omega)
  exact r_change h W hm (kind := 5) (p := p) (q := 0) (by decide) (fun u hu => r_n5 hu w p) (fun u a b hu hr => r_d5 hu W.1 hm hr)
theorem q_setHeir (h : MK s A) (W : WA m A) (hm : m < 10000) {p q : Int32} : okR (m_X8_setHeir p q s) (ml (pcl 6) (chA A 6 p q).1 (chA A 6 p q).2) := by
  have w := W.1.sz (show m ≤ 10000 by omega)
  exact r_change h W hm (kind := 6) (p := p) (q := q) (by decide) (fun u hu => r_n6 hu w W.1 p q) (fun u a b hu hr => r_d6 hu W.1 hm hr)
theorem q_clearHeir (h : MK s A) (W : WA m A) (hm : m < 10000) {p : Int32} : okR (m_X8_clearHeir p s) (ml (pcl 7) (chA A 7 p 0).1 (chA A 7 p 0).2) := by
  have w := W.1.sz (show m ≤ 10000 by omega)
  exact r_change h W hm (kind := 7) (p := p) (q := 0) (by decide) (fun u hu => r_n7 hu w p) (fun u a b hu hr => r_d7 hu W.1 hm hr)
theorem q_lock (h : MK s A) (W : WA m A) (hm : m < 10000) {p : Int32} : okR (m_X8_lock p s) (ml (pcl 8) (chA A 8 p 0).1 (chA A 8 p 0).2) := by
  have w := W.1.sz (show m ≤ 10000 by omega)
  unfold m_X8_lock
  rw [bR_id]
  exact r_change h W hm (kind := 8) (p := p) (q := 0) (by decide) (fun u hu => r_n8 hu w true p (Or.inl rfl)) (fun u a b hu hr => r_d8 hu W.1 hm hr)
theorem q_unlock (h : MK s A) (W : WA m A) (hm : m < 10000) {p : Int32} : okR (m_X8_unlock p s) (ml (pcl 9) (chA A 9 p 0).1 (chA A 9 p 0).2) := by
  have w := W.1.sz (show m ≤ 10000 by omega)
  unfold m_X8_unlock
  rw [bR_id]
  exact r_change h W hm (kind := 9) (p := p) (q := 0) (by decide) (fun u hu => r_n8 hu w false p (Or.inr rfl)) (fun u a b hu hr => r_d9 hu W.1 hm hr)
theorem q_nameRow (h : MK s A) (W : WA m A) (hm : m < 10000) {p q : Int32} : okR (m_X8_nameRow p q s) (ml (pcl 10) (chA A 10 p q).1 (chA A 10 p q).2) := by
  have w := W.1.sz (show m ≤ 10000 by omega)
  exact r_change h W hm (kind := 10) (p := p) (q := q) (by decide) (fun u hu => r_n10 hu w p q) (fun u a b hu hr => r_d10 hu W.1 hm hr)
theorem q_spread (h : MK s A) (W : WA m A) (hm : m < 10000) {p : Int32} : okR (m_X8_spread p s) (ml (pcl 11) (chA A 11 p 0).1 (chA A 11 p 0).2) := by
  have w := W.1.sz (show m ≤ 10000 by omega)
  exact r_change h W hm (kind := 11) (p := p) (q := 0) (by decide) (fun u hu => r_n11 hu w p) (fun u a b hu hr => r_d11 hu W.1 hm hr)
end
