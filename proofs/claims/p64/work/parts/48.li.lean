/-! ===== the class: the line, the input ===== -/
def txC (x : Tx) (c : Nat) : Tx := (x.1 + 1, sb_cat x.2 x.1 (fun _ => c))
def txN (x : Tx) (v : Nat) : Tx := (x.1 + sb_dg v, sb_cat x.2 x.1 (sb_dec v))
def tx0 : Tx := (0, fun _ => 0)
def TxOk (x : Tx) : Prop := ∀ k, k < x.1 → x.2 k < 128
theorem TxOk.z : TxOk tx0 := fun _ hk => absurd hk (Nat.not_lt_zero _)
theorem TxOk.C {x : Tx} (h : TxOk x) {c : Nat} (hc : c < 128) : TxOk (txC x c) := fun k hk => by
  show sb_cat x.2 x.1 (fun _ => c) k < 128
  unfold sb_cat
  by_cases q : k < x.1
  · rw [if_pos q]; exact h k q
  · rw [if_neg q]; exact hc
theorem TxOk.N {x : Tx} (h : TxOk x) {v : Nat} : TxOk (txN x v) := fun k hk => by
  show sb_cat x.2 x.1 (sb_dec v) k < 128
  unfold sb_cat
  by_cases q : k < x.1
  · rw [if_pos q]; exact h k q
  · rw [if_neg q]; unfold sb_dec; omega
theorem dg1 {v : Nat} (h : v < 10) : sb_dg v = 1 := if_pos h
theorem dg2 {v : Nat} (h : v < 100) : sb_dg v ≤ 2 := by unfold sb_dg; repeat' split; all_goals omega
theorem dg3 {v : Nat} (h : v < 1000) : sb_dg v ≤ 3 := by
  unfold sb_dg
  by_cases a0 : v < 10
  · rw [if_pos a0]; omega
  rw [if_neg a0]
  by_cases a1 : v < 100
  · rw [if_pos a1]; omega
  rw [if_neg a1]
  rw [if_pos h]; omega
theorem dg6 {v : Nat} (h : v < 1000000) : sb_dg v ≤ 6 := by
  unfold sb_dg
  by_cases a0 : v < 10
  · rw [if_pos a0]; omega
  rw [if_neg a0]
  by_cases a1 : v < 100
  · rw [if_pos a1]; omega
  rw [if_neg a1]
  by_cases a2 : v < 1000
  · rw [if_pos a2]; omega
  rw [if_neg a2]
  by_cases a3 : v < 10000
  · rw [if_pos a3]; omega
  rw [if_neg a3]
  by_cases a4 : v < 100000
  · rw [if_pos a4]; omega
  rw [if_neg a4]
  rw [if_pos h]; omega
/-- the echoes of a row behind a text -/
def ecs (T : Th) (r : Nat) (x : Tx) : Nat → Tx
  | 0 => x
  | k + 1 => if tW T k = r then txN (txC (txN (txC (ecs T r x k) 32) (tI T k)) 58) (tU T k) else ecs T r x k
def rwT1 (T : Th) (r : Nat) : Tx := txN (txC (txN (txC (txN tx0 r) 91) (cnt T r)) 47) (tC T r)
def rwT2 (T : Th) (r : Nat) : Tx := if 0 < tP T r then txN (txC (rwT1 T r) 43) (tP T r) else rwT1 T r
def rwT3 (T : Th) (r : Nat) : Tx := if tK T r = true then txC (txC (rwT2 T r) 93) 33 else txC (rwT2 T r) 93
/-- a row's line -/
def rwTx (T : Th) (r : Nat) : Tx := ecs T r (rwT3 T r) (tN T)
def ehT1 (T : Th) (k : Nat) : Tx := txN (txC (txN (txC (txN (txC tx0 35) (tI T k)) 64) (tW T k)) 61) (tU T k)
/-- an echo's line -/
def ehTx (T : Th) (k : Nat) : Tx := match tH T k with
  | none => ehT1 T k
  | some d => txN (txC (ehT1 T k) 62) d
def setL (A : Ab) (x : Tx) : Ab := (A.1, A.2.1, A.2.2.1, x, A.2.2.2.2)
def setI (A : Ab) (x : Tx) : Ab := (A.1, A.2.1, A.2.2.1, A.2.2.2.1, x, A.2.2.2.2.2)
def frA (A : Ab) (p : Int32) : (Nat ⊕ Int32) × Ab := match rwp (aT A) p with
  | none => (.inl 2, A)
  | some r => (.inr (nI (rwTx (aT A) r).1), setL A (rwTx (aT A) r))
def feA (A : Ab) (p : Int32) : (Nat ⊕ Int32) × Ab := match sltp (aT A) p with
  | none => (.inl 1, A)
  | some k => (.inr (nI (ehTx (aT A) k).1), setL A (ehTx (aT A) k))
def a_lineChar (x : Tx) (p : Int32) : Nat ⊕ Int32 := match fnd (fun k => decide (nI k = p)) x.1 with
  | none => .inl 2
  | some k => .inr (nI (x.2 k))
def apA (A : Ab) (p : Int32) : (Nat ⊕ Int32) × Ab := match fnd (fun c => decide (32 ≤ c ∧ nI c = p)) 127 with
  | none => (.inl 3, A)
  | some c => if (aI A).1 < 60 then (.inr (nI ((aI A).1 + 1)), setI A (txC (aI A) c)) else (.inl 4, A)
theorem ecs_le {T : Th} (w : Sz T) {r : Nat} {x : Tx} : ∀ n, n ≤ tN T → (ecs T r x n).1 ≤ x.1 + 11 * n
  | 0, _ => Nat.le_refl _
  | n + 1, hn => by
    have h1 := ecs_le w (r := r) (x := x) n (by omega)
    obtain ⟨h2, _, _, h3, _⟩ := w.2.2.2.1 n (by omega)
    have h4 := w.2.2.1.1
    have h5 := dg6 (v := tI T n) (by omega)
    have h6 := dg3 (v := tU T n) (by omega)
    show (if tW T n = r then txN (txC (txN (txC (ecs T r x n) 32) (tI T n)) 58) (tU T n) else ecs T r x n).1 ≤ _
    by_cases q : tW T n = r
    · rw [if_pos q]
      show (ecs T r x n).1 + 1 + sb_dg (tI T n) + 1 + sb_dg (tU T n) ≤ _
      omega
    · rw [if_neg q]; omega
theorem ecs_ok {T : Th} {r : Nat} {x : Tx} (h : TxOk x) : ∀ n, TxOk (ecs T r x n)
  | 0 => h
  | n + 1 => by
    have h1 := ecs_ok (T := T) (r := r) h n
    show TxOk (if tW T n = r then txN (txC (txN (txC (ecs T r x n) 32) (tI T n)) 58) (tU T n) else ecs T r x n)
    by_cases q : tW T n = r
    · rw [if_pos q]; exact ((((h1.C (by decide)).N).C (by decide)).N)
    · rw [if_neg q]; exact h1
theorem cnt_le24 {T : Th} (w : Sz T) (r : Nat) : cnt T r ≤ 24 := Nat.le_trans (pos_le T r (tN T)) w.2.1
theorem rwT1_le {T : Th} (w : Sz T) {r : Nat} (hr : r < tR T) : (rwT1 T r).1 ≤ 7 := by
  have h1 := w.1
  have h2 := cnt_le24 w r
  have h3 := (w.2.2.2.2 r).1
  have h4 := dg1 (v := r) (by omega)
  have h5 := dg2 (v := cnt T r) (by omega)
  have h6 := dg2 (v := tC T r) (by omega)
  show 0 + sb_dg r + 1 + sb_dg (cnt T r) + 1 + sb_dg (tC T r) ≤ 7
  omega
theorem rwT2_le {T : Th} (w : Sz T) {r : Nat} (hr : r < tR T) : (rwT2 T r).1 ≤ 9 := by
  have h1 := rwT1_le w hr
  have h2 := dg1 (v := tP T r) (by have := (w.2.2.2.2 r).2.1; omega)
  unfold rwT2
  by_cases q : 0 < tP T r
  · rw [if_pos q]; show (rwT1 T r).1 + 1 + sb_dg (tP T r) ≤ 9; omega
  · rw [if_neg q]; omega
theorem rwT3_le {T : Th} (w : Sz T) {r : Nat} (hr : r < tR T) : (rwT3 T r).1 ≤ 11 := by
  have h1 := rwT2_le w hr
  unfold rwT3
  by_cases q : tK T r = true
  · rw [if_pos q]; show (rwT2 T r).1 + 1 + 1 ≤ 11; omega
  · rw [if_neg q]; show (rwT2 T r).1 + 1 ≤ 11; omega
theorem rwTx_le {T : Th} (w : Sz T) {r : Nat} (hr : r < tR T) : (rwTx T r).1 ≤ 360 := by
  have h1 := rwT3_le w hr
  have h2 := ecs_le w (r := r) (x := rwT3 T r) (tN T) (Nat.le_refl _)
  have h3 := w.2.1
  unfold rwTx
  omega
theorem rwTx_ok {T : Th} {r : Nat} : TxOk (rwTx T r) := by
  refine ecs_ok ?_ _
  have h1 : TxOk (rwT1 T r) := ((((TxOk.z.N).C (by decide)).N).C (by decide)).N
  have h2 : TxOk (rwT2 T r) := by
    unfold rwT2
    by_cases q : 0 < tP T r
    · rw [if_pos q]; exact (h1.C (by decide)).N
    · rw [if_neg q]; exact h1
  unfold rwT3
  by_cases q : tK T r = true
  · rw [if_pos q]; exact (h2.C (by decide)).C (by decide)
  · rw [if_neg q]; exact h2.C (by decide)
theorem ehT1_le {T : Th} (w : Sz T) {k : Nat} (hk : k < tN T) : (ehT1 T k).1 ≤ 13 := by
  obtain ⟨h2, h3, _, h4, _⟩ := w.2.2.2.1 k hk
  have h1 := w.2.2.1.1
  have h0 := w.1
  have h5 := dg6 (v := tI T k) (by omega)
  have h6 := dg1 (v := tW T k) (by omega)
  have h7 := dg3 (v := tU T k) (by omega)
  show 0 + 1 + sb_dg (tI T k) + 1 + sb_dg (tW T k) + 1 + sb_dg (tU T k) ≤ 13
  omega
theorem ehTx_le {T : Th} (w : Sz T) {k : Nat} (hk : k < tN T) : (ehTx T k).1 ≤ 20 := by
  have h1 := ehT1_le w hk
  have h2 := w.2.2.1.1
  unfold ehTx
  cases e : tH T k with
  | none => exact Nat.le_trans h1 (by decide)
  | some d =>
    have h3 := (w.2.2.2.1 k hk).2.2.2.2 d e
    have h4 := dg6 (v := d) (by omega)
    show (ehT1 T k).1 + 1 + sb_dg d ≤ 20
    omega
theorem ehTx_ok {T : Th} {k : Nat} : TxOk (ehTx T k) := by
  have h1 : TxOk (ehT1 T k) := (((((TxOk.z.C (by decide)).N).C (by decide)).N).C (by decide)).N
  unfold ehTx
  cases e : tH T k with
  | none => exact h1
  | some d => exact (h1.C (by decide)).N
/-- all but a builder has stayed -/
def Ln (o : Nat) (s s' : Mem) : Prop := (s'.1 = s.1 ∧ s'.2.1 = s.2.1) ∧ (∀ q, q ≠ o → gB s' q = gB s q) ∧ Ku 0 s s'
section
variable {s s1 s2 : Mem} {T : Th} {A : Ab} {n m t o : Nat} {x : Tx}
theorem Ln.refl : Ln o s s := ⟨⟨rfl, rfl⟩, fun _ _ => rfl, Ku.refl⟩
theorem Ln.trans (h1 : Ln o s s1) (h2 : Ln o s1 s2) : Ln o s s2 :=
  ⟨⟨h2.1.1.trans h1.1.1, h2.1.2.trans h1.1.2⟩, fun q hq => (h2.2.1 q hq).trans (h1.2.1 q hq), h1.2.2.trans h2.2.2⟩
theorem Ln.gI (h : Ln o s s1) (c j : Nat) : gI s1 c j = gI s c j := congrFun (congrFun h.1.1 c) j
theorem Ln.gJ (h : Ln o s s1) (c j : Nat) : gJ s1 c j = gJ s c j := congrFun (congrFun h.1.2 c) j
theorem RC.ln (h : RC t s T) (k : Ln o s s1) : RC t s1 T := h.kept (fun c _ j => k.gI c j) (fun j => k.gJ t j)
theorem HSt.ln (h : HSt n s A) (k : Ln o s s1) : HSt n s1 A := ⟨(k.gI 1 1).trans h.1, (k.gI 1 2).trans h.2.1, h.2.2.1.ln k, fun j hj => (h.2.2.2 j hj).ln k⟩
theorem gB_s {b : Nat × Nat × (Nat → Nat)} : gB (pB s o b) o = b := if_pos rfl
theorem gB_o {q : Nat} {b : Nat × Nat × (Nat → Nat)} (h : q ≠ o) : gB (pB s o b) q = gB s q := if_neg h
theorem cap_pB (ho : o = 6 ∨ o = 7) {b : Nat × Nat × (Nat → Nat)} : cap (pB s o b) + (gB s o).1 = cap s + b.1 := by
  rcases ho with rfl | rfl
  · show (gB (pB s 6 b) 6).1 + (gB (pB s 6 b) 7).1 + _ = _
    rw [gB_s, gB_o (by decide)]; show _ = (gB s 6).1 + (gB s 7).1 + b.1; omega
  · show (gB (pB s 7 b) 6).1 + (gB (pB s 7 b) 7).1 + _ = _
    rw [gB_s, gB_o (by decide)]; show _ = (gB s 6).1 + (gB s 7).1 + b.1; omega
theorem Cb.pB (ho : o = 6 ∨ o = 7) {b : Nat × Nat × (Nat → Nat)} (hb : Cb s → b.1 ≤ 802) (h : Cb s) : Cb (pB s o b) := by
  rcases ho with rfl | rfl
  · exact ⟨by rw [gB_s]; exact hb h, by rw [gB_o (by decide)]; exact h.2⟩
  · exact ⟨by rw [gB_o (by decide)]; exact h.1, by rw [gB_s]; exact hb h⟩
theorem ln_put (ho : o = 6 ∨ o = 7) {w : Nat} {f : Nat → Nat} (hw : (gB s o).2.1 + w ≤ 400) : Ln o s (sbPut s o w f) ∧ (gB (sbPut s o w f) o).2 = ((gB s o).2.1 + w, sb_cat (gB s o).2.2 (gB s o).2.1 f) := by
  unfold sbPut
  by_cases q : (gB s o).2.1 + w ≤ (gB s o).1
  · rw [if_pos q]
    have hc := cap_pB (s := s) ho (b := ((gB s o).1, (gB s o).2.1 + w, sb_cat (gB s o).2.2 (gB s o).2.1 f))
    refine ⟨⟨⟨rfl, rfl⟩, fun q hq => gB_o hq, fun _ _ _ => rfl, ⟨?_, ?_⟩, Cb.pB ho fun h => ?_⟩, by rw [gB_s]⟩
    · show nC s + cap s ≤ nC s + cap _ + 0; dsimp only at hc; omega
    · show nS s + 2 * cap s ≤ nS s + 2 * cap _ + 6 * 0; dsimp only at hc; omega
    · rcases ho with rfl | rfl
      · exact h.1
      · exact h.2
  · rw [if_neg q]
    have hc := cap_pB (s := s) ho (b := (grown (gB s o).1 ((gB s o).2.1 + w), (gB s o).2.1 + w, sb_cat (gB s o).2.2 (gB s o).2.1 f))
    have hg : 2 * (gB s o).1 + 2 ≤ grown (gB s o).1 ((gB s o).2.1 + w) ∧ grown (gB s o).1 ((gB s o).2.1 + w) ≤ 802 := by
      unfold grown; omega
    refine ⟨⟨⟨rfl, rfl⟩, fun q hq => gB_o hq, fun _ _ _ => rfl, ⟨?_, ?_⟩, fun h => ?_⟩, ?_⟩
    · show nC s + 1 + cap s ≤ nC s + cap (pB s o _) + 0; dsimp only at hc; omega
    · show nS s + grown (gB s o).1 ((gB s o).2.1 + w) + 2 * cap s ≤ nS s + 2 * cap (pB s o _) + 6 * 0; dsimp only at hc; omega
    · exact Cb.pB ho (fun _ => hg.2) h
    · show (gB (pB s o _) o).2 = _; rw [gB_s]
theorem BT.put (h : BT s o x) (ho : o = 6 ∨ o = 7) {w : Nat} {f : Nat → Nat} (hw : x.1 + w ≤ 400) : BT (sbPut s o w f) o (x.1 + w, sb_cat x.2 x.1 f) ∧ Ln o s (sbPut s o w f) := by
  obtain ⟨h1, h2⟩ := ln_put (s := s) ho (w := w) (f := f) (by rw [h.1]; exact hw)
  refine ⟨⟨by rw [h2]; show (gB s o).2.1 + w = x.1 + w; rw [h.1], fun k hk => ?_⟩, h1⟩
  rw [h2]
  show sb_cat (gB s o).2.2 (gB s o).2.1 f k = sb_cat x.2 x.1 f k
  rw [h.1]
  unfold sb_cat
  by_cases q : k < x.1
  · rw [if_pos q, if_pos q, h.2 k q]
  · rw [if_neg q, if_neg q]
theorem okR_sbC {α : Type} {f : Mem → Res α} {Q : α ⊕ String → Mem → Prop} {c : Nat} {v : Int32} {_ : Decidable (sbGC s o v)} (e : v = nI c) (h : BT s o x) (ho : o = 6 ∨ o = 7) (hc : c ≤ 255) (hx : x.1 < 400) (H : ∀ s', BT s' o (txC x c) → Ln o s s' → okR (f s') Q) : okR (if sbGC s o v then vl (sbC s o v) f else none) Q := by
  subst e
  have g : sbGC s o (nI c) := ⟨⟨nI_pos' (by omega), by rw [show (255 : Int32) = nI 255 from rfl, nLe (by omega) (by decide)]; exact hc⟩, by rw [h.1]; omega⟩
  rw [if_pos g, okR_vl]
  have z := h.put ho (w := 1) (f := fun _ => c) (by omega)
  unfold sbC
  rw [nN (by omega)]
  exact H _ z.1 z.2
theorem okR_sbI {α : Type} {f : Mem → Res α} {Q : α ⊕ String → Mem → Prop} {c : Nat} {v : Int32} {_ : Decidable (sbGI s o v)} (e : v = nI c) (h : BT s o x) (ho : o = 6 ∨ o = 7) (hv : c < 2 ^ 31) (hx : x.1 + sb_dg c ≤ 400) (H : ∀ s', BT s' o (txN x c) → Ln o s s' → okR (f s') Q) : okR (if sbGI s o v then vl (sbI s o v) f else none) Q := by
  subst e
  have g : sbGI s o (nI c) := ⟨nI_pos' hv, by rw [h.1]; omega⟩
  rw [if_pos g, okR_vl]
  have z := h.put ho (w := sb_dg c) (f := sb_dec c) hx
  unfold sbI
  rw [nN hv]
  exact H _ z.1 z.2
theorem ln_z (ho : o = 6 ∨ o = 7) : BT (sbZ s o) o tx0 ∧ Ln o s (sbZ s o) := by
  unfold sbZ
  have hc := cap_pB (s := s) ho (b := ((gB s o).1, 0, (gB s o).2.2))
  refine ⟨⟨by rw [gB_s]; rfl, fun k hk => absurd hk (Nat.not_lt_zero _)⟩, ⟨rfl, rfl⟩, fun q hq => gB_o hq, fun _ _ _ => rfl, ⟨?_, ?_⟩, Cb.pB ho fun h => ?_⟩
  · show nC s + cap s ≤ nC s + cap _ + 0; dsimp only at hc; omega
  · show nS s + 2 * cap s ≤ nS s + 2 * cap _ + 6 * 0; dsimp only at hc; omega
  · rcases ho with rfl | rfl
    · exact h.1
    · exact h.2
theorem CK.ln7 (h : CK s A) (k : Ln 7 s s1) (hb : BT s1 7 x) : CK s1 (setL A x) := by
  obtain ⟨⟨n, hn, h1⟩, b1, b2, b3, b4, b5, b6⟩ := h
  refine ⟨⟨n, hn, h1.ln k⟩, (k.gI 0 7).trans b1, fun T e => (b2 T e).ln k, (k.gI 0 8).trans b3, (k.gI 0 9).trans b4, hb, ?_, fun i hi => ?_⟩
  · rw [k.2.1 6 (by decide)]; exact b6.1
  · rw [k.2.1 6 (by decide)]; exact b6.2 i hi
theorem CK.ln6 (h : CK s A) (k : Ln 6 s s1) (hb : BT s1 6 x) : CK s1 (setI A x) := by
  obtain ⟨⟨n, hn, h1⟩, b1, b2, b3, b4, b5, b6⟩ := h
  refine ⟨⟨n, hn, h1.ln k⟩, (k.gI 0 7).trans b1, fun T e => (b2 T e).ln k, (k.gI 0 8).trans b3, (k.gI 0 9).trans b4, ⟨?_, fun i hi => ?_⟩, hb⟩
  · rw [k.2.1 7 (by decide)]; exact b5.1
  · rw [k.2.1 7 (by decide)]; exact b5.2 i hi
end
