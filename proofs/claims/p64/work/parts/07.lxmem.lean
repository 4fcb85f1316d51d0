/-! ===== fields, arrays ===== -/
theorem lx_words {X : Cx} {V : Vx} {A : Nat → Prop} {own : String} {cc : ByteArray} {nL : Nat} (hC : Cok X V A own cc nL) {w : Cond} (h : w ∈ gw) : w.before (xa X) (xs X) = true := hC.2.2.2.2.1 w h
theorem fv_I {ad : Nat → Nat} {σ : Mem} {c x k : Nat} (h : fk x k = 0) : fv ad σ c x k = .int (gI σ c k) := by unfold fv; rw [if_pos h]
theorem fv_J {ad : Nat → Nat} {σ : Mem} {c x k : Nat} (h : fk x k = 1) : fv ad σ c x k = .long (gJ σ c k) := by unfold fv; rw [if_neg (by omega), if_pos h]
theorem fv_R {ad : Nat → Nat} {σ : Mem} {c x k : Nat} (h : fk x k = 2) : fv ad σ c x k = .ref (ad (srf c x k)) := by unfold fv; rw [if_neg (by omega), if_neg (by omega)]
theorem Rep.ob {V : Vx} {hid : Nat → Nat} {A : Nat → Prop} {σ : Mem} {H : Heap} (h : Rep V hid A σ H) {c x N : Nat} (he : (c, 1, x, N) ∈ layL) : t_OB (V.2.2 c) (V.1.1 x) N (V.1.2 x) H (fv V.2.2 σ c x) := by
  have := h.1 _ he
  simpa [cellAt] using this
theorem Rep.ia {V : Vx} {hid : Nat → Nat} {A : Nat → Prop} {σ : Mem} {H : Heap} (h : Rep V hid A σ H) {c x N : Nat} (he : (c, 2, x, N) ∈ layL) : H[V.2.2 c]? = some (arrV (V.2.1 x) N (fun j => .int (gI σ c j))) := by
  have := h.1 _ he
  simpa [cellAt] using this
theorem Rep.ja {V : Vx} {hid : Nat → Nat} {A : Nat → Prop} {σ : Mem} {H : Heap} (h : Rep V hid A σ H) {c x N : Nat} (he : (c, 3, x, N) ∈ layL) : H[V.2.2 c]? = some (arrV (V.2.1 x) N (fun j => .long (gJ σ c j))) := by
  have := h.1 _ he
  simpa [cellAt] using this
theorem Rep.da {V : Vx} {hid : Nat → Nat} {A : Nat → Prop} {σ : Mem} {H : Heap} (h : Rep V hid A σ H) {c x N : Nat} (he : (c, 4, x, N) ∈ layL) : H[V.2.2 c]? = some (arrV (V.2.1 x) N (fun j => .double (gD σ c j))) := by
  have := h.1 _ he
  simpa [cellAt] using this
theorem Rep.qa {V : Vx} {hid : Nat → Nat} {A : Nat → Prop} {σ : Mem} {H : Heap} (h : Rep V hid A σ H) {c x N : Nat} (he : (c, 5, x, N) ∈ layL) : H[V.2.2 c]? = some (arrV (V.2.1 x) N (fun j => .ref (V.2.2 (arf c j)))) := by
  have := h.1 _ he
  simpa [cellAt] using this
theorem gI_ne {σ : Mem} {a k c : Nat} {v : Int32} (h : c ≠ a) : (∀ j, gI (pI σ a k v) c j = gI σ c j) ∧ (∀ j, gJ (pI σ a k v) c j = gJ σ c j) ∧ (∀ j, gD (pI σ a k v) c j = gD σ c j) ∧ gB (pI σ a k v) c = gB σ c :=
  ⟨fun j => by simp [gI, pI, u2, h], fun _ => rfl, fun _ => rfl, rfl⟩
theorem gJ_ne {σ : Mem} {a k c : Nat} {v : Int64} (h : c ≠ a) : (∀ j, gI (pJ σ a k v) c j = gI σ c j) ∧ (∀ j, gJ (pJ σ a k v) c j = gJ σ c j) ∧ (∀ j, gD (pJ σ a k v) c j = gD σ c j) ∧ gB (pJ σ a k v) c = gB σ c :=
  ⟨fun _ => rfl, fun j => by simp [gJ, pJ, u2, h], fun _ => rfl, rfl⟩
theorem gD_ne {σ : Mem} {a k c : Nat} {v : UInt64} (h : c ≠ a) : (∀ j, gI (pD σ a k v) c j = gI σ c j) ∧ (∀ j, gJ (pD σ a k v) c j = gJ σ c j) ∧ (∀ j, gD (pD σ a k v) c j = gD σ c j) ∧ gB (pD σ a k v) c = gB σ c :=
  ⟨fun _ => rfl, fun _ => rfl, fun j => by simp [gD, pD, u2, h], rfl⟩
theorem gI_at {σ : Mem} {a k j : Nat} {v : Int32} : gI (pI σ a k v) a j = if j = k then v else gI σ a j := by simp [gI, pI, u2]
theorem gJ_at {σ : Mem} {a k j : Nat} {v : Int64} : gJ (pJ σ a k v) a j = if j = k then v else gJ σ a j := by simp [gJ, pJ, u2]
theorem gD_at {σ : Mem} {a k j : Nat} {v : UInt64} : gD (pD σ a k v) a j = if j = k then v else gD σ a j := by simp [gD, pD, u2]
section
variable {X : Cx} {V : Vx} {A : Nat → Prop} {fr lo c0 s0 : Nat} {α β : Type} {F : (α ⊕ String) × Mem → Room → State → Prop} {pc : Nat} {lv : List (Nat × Value)} {rest : List Value} {σ : Mem} {r : Res α} {own : String} {cc : ByteArray} {nL : Nat}
theorem lx_get (hC : Cok X V A own cc nL) {c x N : Nat} (he : (c, 1, x, N) ∈ layL) {C : String} {T : u_T} (hcl : clv[x]? = some (C, T, N)) (k0 : Nat) (hk0 : k0 < N) {index : Nat} {v : Value} (hin : ∀ w ∈ u_ws C T N, w ∈ gw) (hlink : Cond.fieldLink own index (T k0).1 (T k0).2.1 (T k0).2.2.1 ∈ gw) (hv : fv V.2.2 σ c x k0 = cv V.2.2 v) (hdg : decode cc pc = .ok (.getfield index, 3))
    (k : LX X V A fr lo c0 s0 F (pc + 3) lv (v :: rest) σ r) : LX X V A fr lo c0 s0 F pc lv (.ref c :: rest) σ r := by
  intro out h1
  obtain ⟨hm, K⟩ := k out h1
  refine ⟨hm, fun R h2 h3 h4 h5 H locs hid ls cells slots g1 g2 g3 g4 g5 => ?_⟩
  obtain ⟨cell, q1, q2, q3, q4⟩ := g1.ob he
  obtain ⟨hS, hfc, kC, hkC, hkind⟩ := hC.2.2.2.2.2.1.1 x _ hcl
  obtain ⟨cf, kf, fi, f, hi, hsl⟩ := hS k0 hk0
  refine W.getf hC.1 hC.2.1 hC.2.2.2.1 (lx_words hC hlink) hi (u_facts hfc hkC (u_lays hC.2.2.2.2.1 hin hk0) hi).1 q1 (by rw [q3]; exact fun h => by cases h) (v := cv V.2.2 v) ?_ rfl rfl hdg (K R h2 h3 h4 h5 H locs hid ls cells slots g1 g2 g3 g4 g5)
  rw [hsl, q4 k0 hk0, hv]
theorem lx_getI (hC : Cok X V A own cc nL) {c x N : Nat} (he : (c, 1, x, N) ∈ layL) {C : String} {T : u_T} (hcl : clv[x]? = some (C, T, N)) (k0 : Nat) (hk0 : k0 < N) (hf : fk x k0 = 0) {index : Nat} (hin : ∀ w ∈ u_ws C T N, w ∈ gw) (hlink : Cond.fieldLink own index (T k0).1 (T k0).2.1 (T k0).2.2.1 ∈ gw) (hdg : decode cc pc = .ok (.getfield index, 3))
    (k : LX X V A fr lo c0 s0 F (pc + 3) lv (.int (gI σ c k0) :: rest) σ r) : LX X V A fr lo c0 s0 F pc lv (.ref c :: rest) σ r := lx_get hC he hcl k0 hk0 hin hlink (fv_I hf) hdg k
theorem lx_getJ (hC : Cok X V A own cc nL) {c x N : Nat} (he : (c, 1, x, N) ∈ layL) {C : String} {T : u_T} (hcl : clv[x]? = some (C, T, N)) (k0 : Nat) (hk0 : k0 < N) (hf : fk x k0 = 1) {index : Nat} (hin : ∀ w ∈ u_ws C T N, w ∈ gw) (hlink : Cond.fieldLink own index (T k0).1 (T k0).2.1 (T k0).2.2.1 ∈ gw) (hdg : decode cc pc = .ok (.getfield index, 3))
    (k : LX X V A fr lo c0 s0 F (pc + 3) lv (.long (gJ σ c k0) :: rest) σ r) : LX X V A fr lo c0 s0 F pc lv (.ref c :: rest) σ r := lx_get hC he hcl k0 hk0 hin hlink (fv_J hf) hdg k
theorem lx_getR (hC : Cok X V A own cc nL) {c x N : Nat} (he : (c, 1, x, N) ∈ layL) {C : String} {T : u_T} (hcl : clv[x]? = some (C, T, N)) (k0 : Nat) (hk0 : k0 < N) (hf : fk x k0 = 2) {q : Nat} (hq : srf c x k0 = q) {index : Nat} (hin : ∀ w ∈ u_ws C T N, w ∈ gw) (hlink : Cond.fieldLink own index (T k0).1 (T k0).2.1 (T k0).2.2.1 ∈ gw) (hdg : decode cc pc = .ok (.getfield index, 3))
    (k : LX X V A fr lo c0 s0 F (pc + 3) lv (.ref q :: rest) σ r) : LX X V A fr lo c0 s0 F pc lv (.ref c :: rest) σ r := lx_get hC he hcl k0 hk0 hin hlink (by rw [fv_R hf, hq]; rfl) hdg k
/-- a write of a field; what is written -/
theorem lx_put (hC : Cok X V A own cc nL) {c x N : Nat} (he : (c, 1, x, N) ∈ layL) {C : String} {T : u_T} (hcl : clv[x]? = some (C, T, N)) (k0 : Nat) (hk0 : k0 < N) {index : Nat} {v : Value} (ty0 : Nat → FieldType) (hty : ∀ k, k < N → parseFieldDescriptor (T k).2.2.1 = some (ty0 k)) (hnm : ∀ a, a < N → ∀ b, b < N → a ≠ b → (T a).2.1 ≠ (T b).2.1) (hfin : (T k0).2.2.2 = false) (hn : narrow (ty0 k0) v = v) (hfit : fits (ty0 k0) v = true)
    (hin : ∀ w ∈ u_ws C T N, w ∈ gw) (hlink : Cond.fieldLink own index (T k0).1 (T k0).2.1 (T k0).2.2.1 ∈ gw) {σ' : Mem} (hσ : ∀ q, q ≠ c → (∀ j, gI σ' q j = gI σ q j) ∧ (∀ j, gJ σ' q j = gJ σ q j) ∧ (∀ j, gD σ' q j = gD σ q j) ∧ gB σ' q = gB σ q) (hv : ∀ j, j < N → fv V.2.2 σ' c x j = if j = k0 then v else fv V.2.2 σ c x j) (hN : nC σ' = nC σ ∧ nS σ' = nS σ) (hdg : decode cc pc = .ok (.putfield index, 3)) {vl : Value} (hvl : cv V.2.2 vl = v)
    (k : LX X V A fr lo c0 s0 F (pc + 3) lv rest σ' r) : LX X V A fr lo c0 s0 F pc lv (vl :: .ref c :: rest) σ r := by
  intro out h1
  obtain ⟨hm, K⟩ := k out h1
  rw [hN.1, hN.2] at hm
  refine ⟨hm, fun R h2 h3 h4 h5 H locs hid ls cells slots g1 g2 g3 g4 g5 => ?_⟩
  have hap := va_apart (own := own) hC.2.2.2.2.1 hin ty0 hty hnm hC.2.2.2.2.2.1 hcl
  obtain ⟨cell, q1, q2, q3, q4⟩ := g1.ob he
  obtain ⟨hS, hfc, kC, hkC, hkind⟩ := hC.2.2.2.2.2.1.1 x _ hcl
  obtain ⟨cf, kf, fi, f, hi, hsl⟩ := hS k0 hk0
  have hlay := hC.2.2.2.2.1 _ (hin _ (u_in_lay hk0))
  unfold u_lay at hlay
  rw [if_neg (by rw [hfin]; decide)] at hlay
  have hst := (u_facts hfc hkC (u_lays hC.2.2.2.2.1 hin hk0) hi).1
  have h6 := u_store hfc hkC hkind hlay hi (hty k0 hk0) hn hfit
  show WX X R H locs cells slots (F out R) (F0 (xm X) pc ls (cv V.2.2 vl :: .ref (V.2.2 c) :: rest.map (cv V.2.2)))
  rw [hvl]
  refine W.putK hC.1 hC.2.1 (f := f) ⟨hC.2.2.2.1, lx_words hC hlink, ⟨_, _, _, hi⟩, hst⟩ (by rw [q2]; exact h6) q1 q3 (by rw [hsl]; exact k2_hasslot (q4 k0 hk0)) rfl rfl hdg fun H' e1 e2 e3 => ?_
  rw [hsl] at e1 ⊢
  refine K R h2 h3 h4 h5 H' _ hid ls cells slots ?_ (g2.put e2 e3 (g1.2.1 _ he)) g3 (by rw [hN.1]; exact g4) (by rw [hN.2]; exact g5)
  refine g1.set he hσ ?_ e3
  have h7 : t_OB (V.2.2 c) (V.1.1 x) N (V.1.2 x) H' (updV (fv V.2.2 σ c x) k0 v) := ⟨_, e1, q2, q3, t_set q4 hap hk0 v⟩
  have h8 := h7.to (V' := fv V.2.2 σ' c x) (fun j hj => by rw [hv j hj]; rfl)
  simpa [cellAt] using h8
theorem lx_putI (hC : Cok X V A own cc nL) {c x N : Nat} (he : (c, 1, x, N) ∈ layL) {C : String} {T : u_T} (hcl : clv[x]? = some (C, T, N)) (k0 : Nat) (hk0 : k0 < N) (hf : fk x k0 = 0) {index : Nat} {v : Int32} (ty0 : Nat → FieldType) (hty : ∀ k, k < N → parseFieldDescriptor (T k).2.2.1 = some (ty0 k)) (hnm : ∀ a, a < N → ∀ b, b < N → a ≠ b → (T a).2.1 ≠ (T b).2.1) (hfin : (T k0).2.2.2 = false) (hn : narrow (ty0 k0) (.int v) = .int v) (hfit : fits (ty0 k0) (.int v) = true)
    (hin : ∀ w ∈ u_ws C T N, w ∈ gw) (hlink : Cond.fieldLink own index (T k0).1 (T k0).2.1 (T k0).2.2.1 ∈ gw) (hdg : decode cc pc = .ok (.putfield index, 3)) {f : Mem → Res α}
    (k : ∀ σ1, LX X V A fr lo c0 s0 F (pc + 3) lv rest σ1 (f σ1)) : LX X V A fr lo c0 s0 F pc lv (.int v :: .ref c :: rest) σ (vl (pI σ c k0 v) f) :=
  lx_put hC he hcl k0 hk0 ty0 hty hnm hfin hn hfit hin hlink (fun q h => gI_ne h) (fun j _ => by
    by_cases q : j = k0
    · subst q; rw [if_pos rfl, fv_I hf, gI_at, if_pos rfl]
    · rw [if_neg q]; unfold fv; rw [gI_at, if_neg q]; rfl) ⟨rfl, rfl⟩ hdg rfl (k _)
theorem lx_putJ (hC : Cok X V A own cc nL) {c x N : Nat} (he : (c, 1, x, N) ∈ layL) {C : String} {T : u_T} (hcl : clv[x]? = some (C, T, N)) (k0 : Nat) (hk0 : k0 < N) (hf : fk x k0 = 1) {index : Nat} {v : Int64} (ty0 : Nat → FieldType) (hty : ∀ k, k < N → parseFieldDescriptor (T k).2.2.1 = some (ty0 k)) (hnm : ∀ a, a < N → ∀ b, b < N → a ≠ b → (T a).2.1 ≠ (T b).2.1) (hfin : (T k0).2.2.2 = false) (hn : narrow (ty0 k0) (.long v) = .long v) (hfit : fits (ty0 k0) (.long v) = true)
    (hin : ∀ w ∈ u_ws C T N, w ∈ gw) (hlink : Cond.fieldLink own index (T k0).1 (T k0).2.1 (T k0).2.2.1 ∈ gw) (hdg : decode cc pc = .ok (.putfield index, 3)) {f : Mem → Res α}
    (k : ∀ σ1, LX X V A fr lo c0 s0 F (pc + 3) lv rest σ1 (f σ1)) : LX X V A fr lo c0 s0 F pc lv (.long v :: .ref c :: rest) σ (vl (pJ σ c k0 v) f) :=
  lx_put hC he hcl k0 hk0 ty0 hty hnm hfin hn hfit hin hlink (fun q h => gJ_ne h) (fun j _ => by
    by_cases q : j = k0
    · subst q; rw [if_pos rfl, fv_J hf, gJ_at, if_pos rfl]
    · rw [if_neg q]; unfold fv; rw [gJ_at, if_neg q]; rfl) ⟨rfl, rfl⟩ hdg rfl (k _)
/-- an index within -/
abbrev ib (i : Int32) (n : Nat) : Prop := ¬ (i < 0 ∨ n ≤ i.toNatClampNeg)
theorem lx_if {c : Prop} {_ : Decidable c} {st : List Value} {r1 : Res α} (k : c → LX X V A fr lo c0 s0 F pc lv st σ r1) : LX X V A fr lo c0 s0 F pc lv st σ (if c then r1 else none) := by
  by_cases h : c
  · rw [if_pos h]; exact k h
  · rw [if_neg h]; exact lx_none
theorem lx_iaload (hC : Cok X V A own cc nL) {c N : Nat} (he : (c, 2, 0, N) ∈ layL) {i : Int32} (hdg : decode cc pc = .ok (.iaload, 1)) {r1 : Res α} (k : LX X V A fr lo c0 s0 F (pc + 1) lv (.int (gI σ c i.toNatClampNeg) :: rest) σ r1) : LX X V A fr lo c0 s0 F pc lv (.int i :: .ref c :: rest) σ (if ib i N then r1 else none) := by
  refine lx_if fun hin => ?_
  intro out h1
  obtain ⟨hm, K⟩ := k out h1
  exact ⟨hm, fun R h2 h3 h4 h5 H locs hid ls cells slots g1 g2 g3 g4 g5 => W.iald hC.1 hC.2.1 (g1.ia he) ((hC.2.2.2.2.2.1.2 0 _ rfl).1 N _) (fun q => by cases q) (by rw [arrV_size]; exact hin) (arrV_read _ _ (Nat.not_le.mp fun q => hin (Or.inr q))) rfl rfl hdg (K R h2 h3 h4 h5 H locs hid ls cells slots g1 g2 g3 g4 g5)⟩
theorem lx_zaload (hC : Cok X V A own cc nL) {c N : Nat} (he : (c, 2, 1, N) ∈ layL) {i : Int32} (hdg : decode cc pc = .ok (.baload, 1)) {r1 : Res α} (k : LX X V A fr lo c0 s0 F (pc + 1) lv (.int (gI σ c i.toNatClampNeg) :: rest) σ r1) : LX X V A fr lo c0 s0 F pc lv (.int i :: .ref c :: rest) σ (if ib i N then r1 else none) := by
  refine lx_if fun hin => ?_
  intro out h1
  obtain ⟨hm, K⟩ := k out h1
  exact ⟨hm, fun R h2 h3 h4 h5 H locs hid ls cells slots g1 g2 g3 g4 g5 => W.zald hC.1 hC.2.1 (g1.ia he) ((hC.2.2.2.2.2.1.2 1 _ rfl).1 N _) (fun q => by cases q) (by rw [arrV_size]; exact hin) (arrV_read _ _ (Nat.not_le.mp fun q => hin (Or.inr q))) rfl rfl hdg (K R h2 h3 h4 h5 H locs hid ls cells slots g1 g2 g3 g4 g5)⟩
theorem lx_iastore (hC : Cok X V A own cc nL) {c N : Nat} (he : (c, 2, 0, N) ∈ layL) {i v : Int32} (hdg : decode cc pc = .ok (.iastore, 1)) {f : Mem → Res α} (k : ∀ σ1, LX X V A fr lo c0 s0 F (pc + 1) lv rest σ1 (f σ1)) : LX X V A fr lo c0 s0 F pc lv (.int v :: .int i :: .ref c :: rest) σ (if ib i N then vl (pI σ c i.toNatClampNeg v) f else none) := by
  refine lx_if fun hin => ?_
  intro out h1
  obtain ⟨hm, K⟩ := k _ out h1
  refine ⟨hm, fun R h2 h3 h4 h5 H locs hid ls cells slots g1 g2 g3 g4 g5 => W.iast hC.1 hC.2.1 (g1.ia he) ((hC.2.2.2.2.2.1.2 0 _ rfl).1 N _) (fun q => by cases q) (by rw [arrV_size]; exact hin) rfl rfl hdg fun H' e1 e2 e3 => ?_⟩
  refine K R h2 h3 h4 h5 H' _ hid ls cells slots (g1.set he (fun q h => gI_ne h) ?_ e3) (g2.put e2 e3 (g1.2.1 _ he)) g3 g4 g5
  have h9 : H'[V.2.2 c]? = some (arrV (V.2.1 0) N (fun j => .int (gI (pI σ c i.toNatClampNeg v) c j))) := by
    rw [e1, arrV_store]
    congr 2
    funext j
    rw [gI_at]
    by_cases q : j = i.toNatClampNeg
    · subst q
      simp [updV, vp_nar]
      try rfl
    · simp [updV, q]
  simpa [cellAt] using h9
theorem lx_zastore (hC : Cok X V A own cc nL) {c N : Nat} (he : (c, 2, 1, N) ∈ layL) {i v : Int32} (hdg : decode cc pc = .ok (.bastore, 1)) {f : Mem → Res α} (k : ∀ σ1, LX X V A fr lo c0 s0 F (pc + 1) lv rest σ1 (f σ1)) : LX X V A fr lo c0 s0 F pc lv (.int v :: .int i :: .ref c :: rest) σ (if ib i N then vl (pI σ c i.toNatClampNeg (vp_nar .boolean v)) f else none) := by
  refine lx_if fun hin => ?_
  intro out h1
  obtain ⟨hm, K⟩ := k _ out h1
  refine ⟨hm, fun R h2 h3 h4 h5 H locs hid ls cells slots g1 g2 g3 g4 g5 => W.zast hC.1 hC.2.1 (g1.ia he) ((hC.2.2.2.2.2.1.2 1 _ rfl).1 N _) (fun q => by cases q) (by rw [arrV_size]; exact hin) rfl rfl hdg fun H' e1 e2 e3 => ?_⟩
  refine K R h2 h3 h4 h5 H' _ hid ls cells slots (g1.set he (fun q h => gI_ne h) ?_ e3) (g2.put e2 e3 (g1.2.1 _ he)) g3 g4 g5
  have h9 : H'[V.2.2 c]? = some (arrV (V.2.1 1) N (fun j => .int (gI (pI σ c i.toNatClampNeg (vp_nar .boolean v)) c j))) := by
    rw [e1, arrV_store]
    congr 2
    funext j
    rw [gI_at]
    by_cases q : j = i.toNatClampNeg
    · subst q
      simp [updV, vp_nar]
      try rfl
    · simp [updV, q]
  simpa [cellAt] using h9
theorem lx_aaload (hC : Cok X V A own cc nL) {c x N : Nat} (he : (c, 5, x, N) ∈ layL) {ty : FieldType} (hx : (tysv V)[x]? = some (V.2.1 x, ty)) (hty : ty.isReference = true) {i : Int32} (hdg : decode cc pc = .ok (.aaload, 1)) {r1 : Res α} (k : ib i N → LX X V A fr lo c0 s0 F (pc + 1) lv (.ref (arf c i.toNatClampNeg) :: rest) σ r1) : LX X V A fr lo c0 s0 F pc lv (.int i :: .ref c :: rest) σ (if ib i N then r1 else none) := by
  refine lx_if fun hin => ?_
  intro out h1
  obtain ⟨hm, K⟩ := k hin out h1
  exact ⟨hm, fun R h2 h3 h4 h5 H locs hid ls cells slots g1 g2 g3 g4 g5 => W.aald hC.1 hC.2.1 (g1.qa he) ((hC.2.2.2.2.2.1.2 x _ hx).1 N _) hty (fun q => by cases q) (by rw [arrV_size]; exact hin) (arrV_read _ _ (Nat.not_le.mp fun q => hin (Or.inr q))) rfl rfl hdg (K R h2 h3 h4 h5 H locs hid ls cells slots g1 g2 g3 g4 g5)⟩
end
