/-! ===== calls that catch; methods with handlers ===== -/
def bindC {α β : Type} (x : Res β) (f : β → Mem → Res α) (g : String → Option α) : Res α := match x with
  | none => none
  | some (.inl v, σ) => f v σ
  | some (.inr E, σ) => (g E).map (fun u => (.inl u, σ))
/-- what stands for a throw, by the handler's place -/
def tJ (n : Nat) : Int64 := if n = 1 then -4000000000000000001 else if n = 2 then -4000000000000000002 else -4000000000000000003
/-- which handler takes it: the first whose class it is -/
def cd : List String → Nat → String → Option Int64
  | [], _, _ => none
  | x :: l, n, E => if x = E then some (tJ n) else cd l (n + 1) E
def FN {α : Type} (X : Cx) (V : Vx) (A : Nat → Prop) (inj : α → Option Value) : (α ⊕ String) × Mem → Room → State → Prop :=
  fun out R => MQ (xb X) (QC V A inj out) (xa X) (xs X) R.cells R.slots A
/-- a method that catches all that it could throw -/
def SatW (l : Launch) (y : MethodName) (w0 : Cond) (fr lo : Nat) {α : Type} (inj : α → Option Value) (as : List Value) (σ : Mem) (r : Res α) : Prop :=
  ∀ out, r = some out → (nC σ ≤ nC out.2 ∧ nS σ ≤ nS out.2) ∧ ∀ (V : Vx) (hid adV : Nat → Nat) (sz mc ms : Nat), nC out.2 = nC σ + mc → nS out.2 = nS σ + ms →
    Met l y (w0 :: gw) { frames := fr, cells := mc, slots := ms, locals := lo } (Prc V hid adV sz σ as) (QC V (own1 V hid sz) inj out) mc ms (own1 V hid sz)
theorem satw_of {l : Launch} {y : MethodName} {cc : ByteArray} {nL : Nat} {ret : Option FieldType} {hh : List (Nat × Nat × Nat × Nat)} {fr lo : Nat} {α : Type} {inj : α → Option Value} {as : List Value} {σ : Mem} {r : Res α} (hy : plainName y.cls = true) (hn : wdt as ≤ nL)
    (body : ∀ (X : Cx) (V : Vx) (A : Nat → Prop) (adV : Nat → Nat), xl X = l → Cok X V A y.cls cc nL → Env0 V adV A (xs X) (xs X).heap → (xc X).exceptionTable.toList = tableOf hh → (xh X).sig.returnType = ret → LX X V A fr lo (nC σ) (nS σ) (FN X V A inj) 0 (lv_args 0 as) [] σ r)
    (hm : ∀ out, r = some out → nC σ ≤ nC out.2 ∧ nS σ ≤ nS out.2) : SatW l y (.codeWith y cc nL ret hh) fr lo inj as σ r := by
  intro out hr
  refine ⟨hm out hr, fun V hid adV sz mc ms e1 e2 => ?_⟩
  refine va_MetW (cc := cc) (maxL := nL) (ret := ret) hy rfl ?_
  intro p e s m args below meth c s₁ B hml hv
  obtain ⟨rfl, hsz, hR, hK, hE⟩ := hv
  have hts := atoms_spec (ws := Cond.codeWith y cc nL ret hh :: gw) B.pre
  have ht := vx_table (x := y) B (hts _ List.mem_cons_self)
  have hA : ∀ q : Nat, s.heap.size ≤ q → own1 V hid sz q := fun q h => Or.inr (Or.inr (by rw [← hsz]; exact h))
  have hC : Cok (p, l, e, s, m, (as.map (cv V.2.2)).toArray, below, meth, c) V (own1 V hid sz) y.cls cc nL :=
    ⟨B.exec, B.bytes, hml, findClass_of_methodNamed B.named, fun w h => hts w (List.mem_cons_of_mem _ h), hK, hA, B.notSynchronized⟩
  obtain ⟨-, K⟩ := body (p, l, e, s, m, (as.map (cv V.2.2)).toArray, below, meth, c) V (own1 V hid sz) adV rfl hC hE ht B.returns out hr
  have hlv := lv_entry (as.map (cv V.2.2)) (n := nL) (by rw [lg_sl_len, wdt_cv]; exact hn)
  rw [lg_entry_eq]
  rw [cv_map_sl, ← hml] at hlv
  rw [← hml]
  exact K { frames := fr, cells := mc, slots := ms, locals := lo } rfl rfl e1 e2 s.heap [] hid _ 0 0 (hR.self sz) va_S.rf hlv rfl rfl
section
variable {X : Cx} {V : Vx} {A : Nat → Prop} {fr lo c0 s0 : Nat} {α β : Type} {inj : α → Option Value} {F : (α ⊕ String) × Mem → Room → State → Prop} {pc : Nat} {lv : List (Nat × Value)} {rest : List Value} {σ : Mem} {own : String} {cc : ByteArray} {nL : Nat}
theorem lx_callC {adV : Nat → Nat} (hC : Cok X V A own cc nL) {y : MethodName} {w0 : Cond} {fr' lo' : Nat} {inb : β → Option Value} {as st : List Value} {r0 : Res β} (hsat : Sat (xl X) y w0 fr' lo' inb as σ r0) (hrun : ∀ out0, RunOf X V A fr lo y w0 fr' lo' adV inb as σ out0 pc lv st rest) {f : β → Mem → Res α} {g : String → Option α}
    (kx : ∀ E σ1 u, r0 = some (.inr E, σ1) → g E = some u → ∀ (R : Room) (H : Heap) (locs : List Loc) (hid : Nat → Nat) (ls : Array Slot) (q : Addr) (ce : Cell), R.frames = fr → R.locals = lo → nC σ1 = c0 + R.cells → nS σ1 = s0 + R.slots → Rep V hid A σ1 H → va_S A (xs X).heap H locs → lv_has ls (xc X).maxLocals (cvl V.2.2 lv) → H[q]? = some ce → ce.vm = .none → (xs X).vm.findClass E = some ce.cls →
      vx_W (xp X) (xl X) (xe X) R (xs X) (xm X) (xa X) (xb X) (xh X) (xc X) H locs R.cells R.slots (F (.inl u, σ1) R) (F0 (xm X) pc ls (rest.map (cv V.2.2))) q)
    (k : ∀ v σ1, r0 = some (.inl v, σ1) → LX X V A fr lo c0 s0 F (pc + 3) lv ((inb v).toList ++ rest) σ1 (f v σ1)) : LX X V A fr lo c0 s0 F pc lv st σ (bindC r0 f g) := by
  intro out h1
  cases hr0 : r0 with
  | none => rw [hr0] at h1; cases h1
  | some out0 =>
    obtain ⟨o, σ1⟩ := out0
    obtain ⟨hm0, S⟩ := hsat _ hr0
    dsimp only at hm0 S
    obtain ⟨mc, emc⟩ : ∃ mc, nC σ1 = nC σ + mc := ⟨nC σ1 - nC σ, by omega⟩
    obtain ⟨ms, ems⟩ : ∃ ms, nS σ1 = nS σ + ms := ⟨nS σ1 - nS σ, by omega⟩
    cases o with
    | inl v =>
      have h1' : f v σ1 = some out := by rw [hr0] at h1; exact h1
      obtain ⟨hm, K⟩ := k v σ1 hr0 out h1'
      refine ⟨⟨Nat.le_trans hm0.1 hm.1, Nat.le_trans hm0.2 hm.2⟩, fun R h2 h3 h4 h5 H locs hid ls cells slots g1 g2 g3 g4 g5 => ?_⟩
      have hA : ∀ q, H.size ≤ q → A q := fun q h => hC.2.2.2.2.2.2.1 q (Nat.le_trans g2.1 h)
      have hr := hrun _ R H locs hid ls cells slots mc ms h2 h3 g1 g2 g3 (by omega) (by omega) (S V hid adV H.size mc ms emc ems)
      intro T hT Xs
      rcases hr T hT Xs with ⟨v', st₀, t, T', L, h0, X', hL, e1, e2, ⟨⟨v1, hv1, ho, hid1, hR1⟩, hF⟩, st⟩ | ⟨q, st₀, t, T', L, E, ce, h0, X', hL, e1, e2, ⟨⟨hx, -⟩, -⟩, -⟩
      · cases hv1
        cases ho
        obtain ⟨k1, k2, k3⟩ := vx_keep h0 e1 g2 (fun q _ z => g1.free hA q z) (g1.free hA) hL hF
        obtain ⟨t2, a1, b1⟩ := K R h2 h3 h4 h5 T'.heap (locs ++ L) hid1 ls (cells + mc) (slots + ms) (by rw [e1]; exact hR1.weaken (g1.free hA)) k3 g3 (by omega) (by omega) T' rfl X'
        refine ⟨t2, st t2 ?_, b1⟩
        have e9 : ((inb v).map (cv V.2.2)).toList ++ rest.map (cv V.2.2) = ((inb v).toList ++ rest).map (cv V.2.2) := by cases inb v <;> rfl
        show Steps _ _ _ (T'.setTop { F0 (xm X) pc ls _ with pc := pc + 3, stack := ((inb v).map (cv V.2.2)).toList ++ rest.map (cv V.2.2) }) t2
        rw [e9]
        exact a1
      · cases hx
    | inr E =>
      cases hg : g E with
      | none =>
        rw [hr0] at h1
        have h1 : (g E).map (fun u => (Sum.inl u, σ1)) = some out := h1
        rw [hg] at h1
        cases h1
      | some u =>
        have h1' : out = (.inl u, σ1) := by
          rw [hr0] at h1
          have h1 : (g E).map (fun u => (Sum.inl u, σ1)) = some out := h1
          rw [hg] at h1
          exact (Option.some.inj h1).symm
        subst h1'
        refine ⟨hm0, fun R h2 h3 h4 h5 H locs hid ls cells slots g1 g2 g3 g4 g5 => ?_⟩
        have hA : ∀ q, H.size ≤ q → A q := fun q h => hC.2.2.2.2.2.2.1 q (Nat.le_trans g2.1 h)
        dsimp only at h4 h5
        have hr := hrun _ R H locs hid ls cells slots mc ms h2 h3 g1 g2 g3 (by omega) (by omega) (S V hid adV H.size mc ms emc ems)
        intro T hT Xs
        rcases hr T hT Xs with ⟨v', st₀, t, T', L, h0, X', hL, e1, e2, ⟨⟨v1, hv1, ho, hid1, hR1⟩, hF⟩, st⟩ | ⟨q, st₀, t, T', L, E', ce, h0, X', hL, e1, e2, ⟨⟨hx, hid1, hR1⟩, hF⟩, hce, hcv, hcl, st⟩
        · cases hv1
        · cases hx
          obtain ⟨k1, k2, k3⟩ := vx_keep h0 e1 g2 (fun q _ z => g1.free hA q z) (g1.free hA) hL hF
          have ec : cells + mc = R.cells := by omega
          have es : slots + ms = R.slots := by omega
          rw [ec, es] at X'
          obtain ⟨t2, a1, b1⟩ := kx E σ1 u hr0 hg R T'.heap (locs ++ L) hid1 ls q ce h2 h3 h4 h5 (by rw [e1]; exact hR1.weaken (g1.free hA)) k3 g3 (by rw [e1]; exact hce) hcv hcl T' rfl X'
          exact ⟨t2, st.trans a1, b1⟩
theorem lx_endN {st : List Value} {v : α} (k : ∀ (R : Room) (H : Heap) (locs : List Loc) (hid : Nat → Nat) (ls : Array Slot), Rep V hid A σ H → va_S A (xs X).heap H locs → (∀ q ∈ locs, A q.base) → (∀ t : State, t.heap = H → QC V A inj (.inl v, σ) (xa X) (xs X) (.returned ((inj v).map (cv V.2.2))) t) →
      WX X R H locs R.cells R.slots (MQ (xb X) (QC V A inj (.inl v, σ)) (xa X) (xs X) R.cells R.slots A) (F0 (xm X) pc ls (st.map (cv V.2.2)))) : LX X V A fr lo c0 s0 (FN X V A inj) pc lv st σ (some (.inl v, σ)) := by
  intro out h1
  cases h1
  refine ⟨⟨Nat.le_refl _, Nat.le_refl _⟩, fun R h2 h3 h4 h5 H locs hid ls cells slots g1 g2 g3 g4 g5 => ?_⟩
  have e1 : cells = R.cells := by have := h4.symm.trans g4; omega
  have e2 : slots = R.slots := by have := h5.symm.trans g5; omega
  subst e1; subst e2
  exact k R H locs hid ls g1 g2 g2.2.2 (fun t ht => ⟨⟨v, rfl, rfl, hid, by rw [ht]; exact g1⟩, g2.F ht⟩)
theorem lx_lretN (hC : Cok X V A own cc nL) {x : Int64} {u : α} (hi : inj u = some (.long x)) (hr : (xh X).sig.returnType = some .long) (hdg : decode cc pc = .ok (.lreturn, 1)) : LX X V A fr lo c0 s0 (FN X V A inj) pc lv [.long x] σ (some (.inl u, σ)) :=
  lx_endN fun R H locs hid ls g1 g2 hf hq => W.lret hC.1 hC.2.1 hr (fun t ht _ => by have := hq t ht; rw [hi] at this; exact this) hf hdg (hlocks := hC.2.2.2.2.2.2.2)
/-- a handler: it stores the exception, and answers the constant that stands for it -/
theorem w_hand (hC : Cok X V A own cc nL) (hr : (xh X).sig.returnType = some .long) {adV : Nat → Nat} (hE : Env0 V adV A (xs X) (xs X).heap) {pre suf : List (Nat × Nat × Nat × Nat)} {a b h ct : Nat} (ht : (xc X).exceptionTable.toList = tableOf (pre ++ (a, b, h, ct) :: suf)) {E : String} {σ1 : Mem} {v : Int64}
    (hpre : ∀ z ∈ pre, z.2.2.2 ≠ 0 ∧ ∃ nm : String, Cond.classLink own z.2.2.2 nm ∈ gw ∧ (E, nm) ∈ ncsL) (hpc : a ≤ pc ∧ pc < b) (h0 : ct ≠ 0) (hl : Cond.classLink own ct E ∈ gw) (hc : Cond.castable E E ∈ wdL)
    {k : Fin 4} {ix : Nat} (hk : (k : Nat) < nL) (d1 : decode cc h = .ok (.astore_n k, 1)) (d2 : decode cc (h + 1) = .ok (.ldc2_w ix, 3)) (d3 : decode cc (h + 4) = .ok (.lreturn, 1)) (hcn : Cond.constantLong own ix v ∈ gw)
    {R : Room} {H : Heap} {locs : List Loc} {hid : Nat → Nat} {ls : Array Slot} {q : Addr} {ce : Cell} (g1 : Rep V hid A σ1 H) (g2 : va_S A (xs X).heap H locs) (g3 : lv_has ls (xc X).maxLocals (cvl V.2.2 lv)) (hcell : H[q]? = some ce) (hv : ce.vm = .none) (hcl : (xs X).vm.findClass E = some ce.cls) {st : List Value} :
    vx_W (xp X) (xl X) (xe X) R (xs X) (xm X) (xa X) (xb X) (xh X) (xc X) H locs R.cells R.slots (FN X V A (fun x : Int64 => some (.long x)) (.inl v, σ1) R) (F0 (xm X) pc ls st) q := by
  have hq : ∀ t : State, t.heap = H → QC V A (fun x : Int64 => some (.long x)) (.inl v, σ1) (xa X) (xs X) (.returned (some (.long v))) t := fun t ht => ⟨⟨_, rfl, rfl, hid, by rw [ht]; exact g1⟩, g2.F ht⟩
  refine vx_catch hC.2.2.2.1 (tableOf pre) ⟨a, b, h, ct⟩ (tableOf suf) (by rw [ht]; unfold tableOf; rw [List.map_append, List.map_cons]) (fun z hz => ?_) (by simp [covers, hpc.1, hpc.2]) h0 (lx_words hC hl) (va_tabs (wdL_t _ hc) rfl (hE.2.2.2.1 _ hc)) hcell hv hcl ?_
  · unfold tableOf at hz
    obtain ⟨y, hy, rfl⟩ := List.mem_map.mp hz
    obtain ⟨z0, nm, z1, z2⟩ := hpre y hy
    exact Or.inr ⟨z0, nm, lx_words hC z1, hE.2.2.2.2.1 _ z2⟩
  · rw [hC.2.2.1] at g3
    refine lv_astore_n hC.1 hC.2.1 d1 rfl g3 hk rfl fun ls' _ => lv_ldc2 hC.1 hC.2.1 hC.2.2.2.1 (lx_words hC hcn) d2 ?_
    exact W.lret hC.1 hC.2.1 hr (fun t ht _ => hq t ht) g2.2.2 d3 (hlocks := hC.2.2.2.2.2.2.2)
end
/-! ===== more rules of the walk ===== -/
section
variable {X : Cx} {V : Vx} {A : Nat → Prop} {fr lo c0 s0 : Nat} {α β : Type} {F : (α ⊕ String) × Mem → Room → State → Prop} {pc : Nat} {lv : List (Nat × Value)} {rest st : List Value} {σ σ1 : Mem} {r : Res α} {own : String} {cc : ByteArray} {nL : Nat}
theorem lx_ishr (hC : Cok X V A own cc nL) {x y : Int32} (hdg : decode cc pc = .ok (.ishr, 1)) (k : LX X V A fr lo c0 s0 F (pc + 1) lv (.int (x >>> (y &&& 31)) :: rest) σ r) : LX X V A fr lo c0 s0 F pc lv (.int y :: .int x :: rest) σ r := by
  intro out h1
  obtain ⟨hm, K⟩ := k out h1
  exact ⟨hm, fun R h2 h3 h4 h5 H locs hid ls cells slots g1 g2 g3 g4 g5 => lv_ishr hC.1 hC.2.1 hdg (K R h2 h3 h4 h5 H locs hid ls cells slots g1 g2 g3 g4 g5)⟩
theorem lx_ior (hC : Cok X V A own cc nL) {x y : Int32} (hdg : decode cc pc = .ok (.ior, 1)) (k : LX X V A fr lo c0 s0 F (pc + 1) lv (.int (x ||| y) :: rest) σ r) : LX X V A fr lo c0 s0 F pc lv (.int y :: .int x :: rest) σ r := by
  intro out h1
  obtain ⟨hm, K⟩ := k out h1
  exact ⟨hm, fun R h2 h3 h4 h5 H locs hid ls cells slots g1 g2 g3 g4 g5 => lv_ior hC.1 hC.2.1 hdg (K R h2 h3 h4 h5 H locs hid ls cells slots g1 g2 g3 g4 g5)⟩
theorem lx_lmul (hC : Cok X V A own cc nL) {x y : Int64} (hdg : decode cc pc = .ok (.lmul, 1)) (k : LX X V A fr lo c0 s0 F (pc + 1) lv (.long (x * y) :: rest) σ r) : LX X V A fr lo c0 s0 F pc lv (.long y :: .long x :: rest) σ r := by
  intro out h1
  obtain ⟨hm, K⟩ := k out h1
  exact ⟨hm, fun R h2 h3 h4 h5 H locs hid ls cells slots g1 g2 g3 g4 g5 => lv_lmul hC.1 hC.2.1 hdg (K R h2 h3 h4 h5 H locs hid ls cells slots g1 g2 g3 g4 g5)⟩
theorem lx_lrem (hC : Cok X V A own cc nL) {x y : Int64} (hdg : decode cc pc = .ok (.lrem, 1)) (hne : ¬ y = 0) (k : LX X V A fr lo c0 s0 F (pc + 1) lv (.long (x - x / y * y) :: rest) σ r) : LX X V A fr lo c0 s0 F pc lv (.long y :: .long x :: rest) σ r := by
  intro out h1
  obtain ⟨hm, K⟩ := k out h1
  exact ⟨hm, fun R h2 h3 h4 h5 H locs hid ls cells slots g1 g2 g3 g4 g5 => lv_lrem hC.1 hC.2.1 hdg hne (K R h2 h3 h4 h5 H locs hid ls cells slots g1 g2 g3 g4 g5)⟩
theorem lx_l2i (hC : Cok X V A own cc nL) {x : Int64} (hdg : decode cc pc = .ok (.l2i, 1)) (k : LX X V A fr lo c0 s0 F (pc + 1) lv (.int x.toInt32 :: rest) σ r) : LX X V A fr lo c0 s0 F pc lv (.long x :: rest) σ r := by
  intro out h1
  obtain ⟨hm, K⟩ := k out h1
  exact ⟨hm, fun R h2 h3 h4 h5 H locs hid ls cells slots g1 g2 g3 g4 g5 => lv_l2i hC.1 hC.2.1 hdg rfl (K R h2 h3 h4 h5 H locs hid ls cells slots g1 g2 g3 g4 g5)⟩
theorem lx_pop2 (hC : Cok X V A own cc nL) {x : Int64} (hdg : decode cc pc = .ok (.pop2, 1)) (k : LX X V A fr lo c0 s0 F (pc + 1) lv (rest) σ r) : LX X V A fr lo c0 s0 F pc lv (.long x :: rest) σ r := by
  intro out h1
  obtain ⟨hm, K⟩ := k out h1
  exact ⟨hm, fun R h2 h3 h4 h5 H locs hid ls cells slots g1 g2 g3 g4 g5 => lv_pop2_2 hC.1 hC.2.1 hdg rfl (K R h2 h3 h4 h5 H locs hid ls cells slots g1 g2 g3 g4 g5)⟩
theorem lx_ldc (hC : Cok X V A own cc nL) {index : Nat} {v : Int32} (hw : Cond.constant own index v ∈ gw) (hdg : decode cc pc = .ok (.ldc index, 2)) (k : LX X V A fr lo c0 s0 F (pc + 2) lv (.int v :: rest) σ r) : LX X V A fr lo c0 s0 F pc lv (rest) σ r := by
  intro out h1
  obtain ⟨hm, K⟩ := k out h1
  exact ⟨hm, fun R h2 h3 h4 h5 H locs hid ls cells slots g1 g2 g3 g4 g5 => lv_ldc hC.1 hC.2.1 hC.2.2.2.1 (lx_words hC hw) hdg (K R h2 h3 h4 h5 H locs hid ls cells slots g1 g2 g3 g4 g5)⟩
theorem lx_ldcw (hC : Cok X V A own cc nL) {index : Nat} {v : Int32} (hw : Cond.constant own index v ∈ gw) (hdg : decode cc pc = .ok (.ldc_w index, 3)) (k : LX X V A fr lo c0 s0 F (pc + 3) lv (.int v :: rest) σ r) : LX X V A fr lo c0 s0 F pc lv (rest) σ r := by
  intro out h1
  obtain ⟨hm, K⟩ := k out h1
  exact ⟨hm, fun R h2 h3 h4 h5 H locs hid ls cells slots g1 g2 g3 g4 g5 => lv_ldcw hC.1 hC.2.1 hC.2.2.2.1 (lx_words hC hw) hdg (K R h2 h3 h4 h5 H locs hid ls cells slots g1 g2 g3 g4 g5)⟩
theorem lx_ldc2 (hC : Cok X V A own cc nL) {index : Nat} {v : Int64} (hw : Cond.constantLong own index v ∈ gw) (hdg : decode cc pc = .ok (.ldc2_w index, 3)) (k : LX X V A fr lo c0 s0 F (pc + 3) lv (.long v :: rest) σ r) : LX X V A fr lo c0 s0 F pc lv (rest) σ r := by
  intro out h1
  obtain ⟨hm, K⟩ := k out h1
  exact ⟨hm, fun R h2 h3 h4 h5 H locs hid ls cells slots g1 g2 g3 g4 g5 => lv_ldc2 hC.1 hC.2.1 hC.2.2.2.1 (lx_words hC hw) hdg (K R h2 h3 h4 h5 H locs hid ls cells slots g1 g2 g3 g4 g5)⟩
theorem lx_getTX (hC : Cok X V A own cc nL) {adV : Nat → Nat} (hE : Env0 V adV A (xs X) (xs X).heap) {index : Nat} (hw : Cond.fieldLink own index "EchoCensusLaw" "TEXTS" "[Ljava/lang/String;" ∈ gw) (hdg : decode cc pc = .ok (.getstatic index, 3)) (k : LX X V A fr lo c0 s0 F (pc + 3) lv (.ref 2001 :: rest) σ r) : LX X V A fr lo c0 s0 F pc lv (rest) σ r := by
  intro out h1
  obtain ⟨hm, K⟩ := k out h1
  exact ⟨hm, fun R h2 h3 h4 h5 H locs hid ls cells slots g1 g2 g3 g4 g5 => va_gets hC.1 hC.2.1 hE.2.2.2.2.2.2.1 g2 hC.2.2.2.1 (lx_words hC hw) (fun _ h => h) hdg (K R h2 h3 h4 h5 H locs hid ls cells slots g1 g2 g3 g4 g5)⟩
theorem lx_aaTX (hC : Cok X V A own cc nL) {adV : Nat → Nat} (hE : Env0 V adV A (xs X) (xs X).heap) {i : Int32} {r1 : Res α} (hdg : decode cc pc = .ok (.aaload, 1)) (k : ib i 8 → LX X V A fr lo c0 s0 F (pc + 1) lv (.ref (3046 + i.toNatClampNeg) :: rest) σ r1) : LX X V A fr lo c0 s0 F pc lv (.int i :: .ref 2001 :: rest) σ (if ib i 8 then r1 else none) := by
  refine lx_if fun hin => ?_
  intro out h1
  obtain ⟨hm, K⟩ := k hin out h1
  exact ⟨hm, fun R h2 h3 h4 h5 H locs hid ls cells slots g1 g2 g3 g4 g5 => vb_tq hC.1 hC.2.1 hE.2.2.2.2.2.2.2 g2 hin rfl hdg (K R h2 h3 h4 h5 H locs hid ls cells slots g1 g2 g3 g4 g5)⟩
theorem isStr_tx {i : Int32} (h : ib i 8) : isStr (3046 + i.toNatClampNeg) := by
  have h1 : i.toNatClampNeg < 8 := Nat.not_le.mp fun q => h (Or.inr q)
  exact ⟨by omega, by omega⟩
theorem lx_mminJ (hC : Cok X V A own cc nL) {index : Nat} (w1 : Cond.methodLink own index Lib.MathLoose.min_long.x ∈ gw) (w2 : Cond.static Lib.MathLoose.min_long.x ∈ gw) (w3 : Cond.initialized "java/lang/Math" ∈ gw) (w4 : Cond.code Lib.MathLoose.min_long.x Lib.MathLoose.min_long.code 4 (some .long) ∈ gw) (hf : 1 ≤ fr) (hl : wdt rest + 15 ≤ lo) {x y : Int64} {r : Res α} (hdg : decode cc pc = .ok (.invokestatic index, 3)) (k : LX X V A fr lo c0 s0 F (pc + 3) lv (.long (if y < x then y else x) :: rest) σ r) : LX X V A fr lo c0 s0 F pc lv (.long y :: .long x :: rest) σ r := by
  intro out h1
  obtain ⟨hm, K⟩ := k out h1
  refine ⟨hm, fun R h2 h3 h4 h5 H locs hid ls cells slots g1 g2 g3 g4 g5 => va_mmin_long hC.1 hC.2.1 g3.1.symm hC.2.2.2.1 (lx_words hC w1) (lx_words hC w2) (lx_words hC w3) (lx_words hC w4) (by omega) ?_ (by omega) (by omega) hdg (K R h2 h3 h4 h5 H locs hid ls cells slots g1 g2 g3 g4 g5)⟩
  rw [show ((rest.map (cv V.2.2)).map fun v => v.category).sum = wdt rest from wdt_cv _ _]; omega
theorem lx_callL {adV : Nat → Nat} (hC : Cok X V A own cc nL) {y : MethodName} {w0 : Cond} {fr' lo' : Nat} {inb : β → Option Value} {as : List Value} {r0 : Res β} (hsat : Sat (xl X) y w0 fr' lo' inb as σ r0) (hrun : ∀ out0, RunOf X V A fr lo y w0 fr' lo' adV inb as σ out0 pc lv st rest) {v : β} (h0 : r0 = some (.inl v, σ1)) (k : LX X V A fr lo c0 s0 F (pc + 3) lv ((inb v).toList ++ rest) σ1 r) : LX X V A fr lo c0 s0 F pc lv st σ r := by
  have h := lx_callG (c0 := c0) (s0 := s0) (F := F) hC hsat hrun (f := fun _ _ => r) (fun E σ1 e => by rw [h0] at e; cases e) (fun v' σ1' e => by rw [h0] at e; cases e; exact k)
  rw [h0] at h
  exact h
theorem lx_callW {adV : Nat → Nat} (hC : Cok X V A own cc nL) (hE : Env0 V adV A (xs X) (xs X).heap) {y : MethodName} {ccy : ByteArray} {nLy index : Nat} {ret : Option FieldType} {hh : List (Nat × Nat × Nat × Nat)} {fr' lo' : Nat} {inb : β → Option Value} {as : List Value} {r0 : Res β} (hsat : SatW (xl X) y (.codeWith y ccy nLy ret hh) fr' lo' inb as σ r0)
    (hw0 : Cond.codeWith y ccy nLy ret hh ∈ gw) (hini : Cond.initialized y.cls ∈ gw) (hlink : Cond.methodLink own index y ∈ gw) (hst : Cond.static y ∈ gw) (hd : y.cls ≠ "java/lang/invoke/MethodHandle" ∧ y.cls ≠ "java/lang/invoke/VarHandle" ∧ (parseMethodDescriptor y.desc).map (fun d => d.parameters.length) = some as.length)
    (hf : fr' + 1 ≤ fr) (hl : 8 + (nLy + 11) + lo' ≤ lo) (hw : wdt rest ≤ 8) (hdg : decode cc pc = .ok (.invokestatic index, 3)) (hstk : st = as.reverse ++ rest) {v : β} (h0 : r0 = some (.inl v, σ1)) (k : LX X V A fr lo c0 s0 F (pc + 3) lv ((inb v).toList ++ rest) σ1 r) : LX X V A fr lo c0 s0 F pc lv st σ r := by
  subst hstk
  intro out h1
  obtain ⟨hm0, S⟩ := hsat _ h0
  dsimp only at hm0 S
  obtain ⟨mc, emc⟩ : ∃ mc, nC σ1 = nC σ + mc := ⟨nC σ1 - nC σ, by omega⟩
  obtain ⟨ms, ems⟩ : ∃ ms, nS σ1 = nS σ + ms := ⟨nS σ1 - nS σ, by omega⟩
  obtain ⟨hm, K⟩ := k out h1
  refine ⟨⟨Nat.le_trans hm0.1 hm.1, Nat.le_trans hm0.2 hm.2⟩, fun R h2 h3 h4 h5 H locs hid ls cells slots g1 g2 g3 g4 g5 => ?_⟩
  have hA : ∀ q, H.size ≤ q → A q := fun q h => hC.2.2.2.2.2.2.1 q (Nat.le_trans g2.1 h)
  have hG : GoodIn gw (va_wsS own index y (Cond.codeWith y ccy nLy ret hh :: gw)) := fun w h => by
    have h : w ∈ [Cond.methodLink own index y, Cond.static y, Cond.initialized y.cls] ++ (Cond.codeWith y ccy nLy ret hh :: gw) := h
    refine gw_good w ?_
    rcases List.mem_append.mp h with h | h
    · rcases List.mem_cons.mp h with rfl | h
      · exact hlink
      rcases List.mem_cons.mp h with rfl | h
      · exact hst
      rcases List.mem_cons.mp h with rfl | h
      · exact hini
      · exact absurd h List.not_mem_nil
    · rcases List.mem_cons.mp h with rfl | h
      · exact hw0
      · exact h
  have hr : va_Run (xp X) (xl X) (xe X) R (xs X) (xm X) (xa X) (xb X) (xh X) (xc X) H locs cells slots mc ms (F0 (xm X) pc ls ((as.reverse ++ rest).map (cv V.2.2))) (rest.map (cv V.2.2)) (QC V (own1 V hid H.size) inb (.inl v, σ1) (as.map (cv V.2.2)).toArray) (own1 V hid H.size) :=
    vx_runSW (ws := Cond.codeWith y ccy nLy ret hh :: gw) ⟨hC.1, hC.2.1, hC.2.2.1, hC.2.2.2.1, hC.2.2.2.2.1⟩ (S V hid adV H.size mc ms emc ems) (vx_cwSW as.length hC.2.2.2.2.1 hG rfl rfl rfl hd (by show fr' + 1 ≤ R.frames ∧ 8 + (nLy + 11) + lo' ≤ R.locals; omega)) ⟨prc_blind, prc_at hC hE g1 g2⟩ rfl (by simp) (by show ls.size = nL; rw [← hC.2.2.1]; exact g3.1) (by show List.map _ _ = _; rw [List.map_append, List.map_reverse]) (by show 2 * 0 + _ ≤ 8; rw [show ((rest.map (cv V.2.2)).map fun v => v.category).sum = wdt rest from wdt_cv _ _]; omega) hdg ⟨by omega, by omega⟩
  intro T hT Xs
  obtain ⟨v', st₀, t, T', L, h0', X', hL, e1, e2, ⟨⟨v1, hv1, ho, hid1, hR1⟩, hF⟩, st⟩ := hr T hT Xs
  cases hv1
  cases ho
  obtain ⟨k1, k2, k3⟩ := vx_keep h0' e1 g2 (fun q _ z => g1.free hA q z) (g1.free hA) hL hF
  obtain ⟨t2, a1, b1⟩ := K R h2 h3 h4 h5 T'.heap (locs ++ L) hid1 ls (cells + mc) (slots + ms) (by rw [e1]; exact hR1.weaken (g1.free hA)) k3 g3 (by omega) (by omega) T' rfl X'
  refine ⟨t2, st t2 ?_, b1⟩
  have e9 : ((inb v).map (cv V.2.2)).toList ++ rest.map (cv V.2.2) = ((inb v).toList ++ rest).map (cv V.2.2) := by cases inb v <;> rfl
  show Steps _ _ _ (T'.setTop { F0 (xm X) pc ls _ with pc := pc + 3, stack := ((inb v).map (cv V.2.2)).toList ++ rest.map (cv V.2.2) }) t2
  rw [e9]
  exact a1
/-- a call of a method that catches all -/
def nt {α : Type} (r : Res α) : Prop := ∀ E σ1, r ≠ some (.inr E, σ1)
theorem lx_callWR {adV : Nat → Nat} (hC : Cok X V A own cc nL) (hE : Env0 V adV A (xs X) (xs X).heap) {y : MethodName} {ccy : ByteArray} {nLy index : Nat} {ret : Option FieldType} {hh : List (Nat × Nat × Nat × Nat)} {fr' lo' : Nat} {inb : β → Option Value} {as : List Value} {r0 : Res β} (hsat : SatW (xl X) y (.codeWith y ccy nLy ret hh) fr' lo' inb as σ r0) (hnt : nt r0)
    (hw0 : Cond.codeWith y ccy nLy ret hh ∈ gw) (hini : Cond.initialized y.cls ∈ gw) (hlink : Cond.methodLink own index y ∈ gw) (hst : Cond.static y ∈ gw) (hd : y.cls ≠ "java/lang/invoke/MethodHandle" ∧ y.cls ≠ "java/lang/invoke/VarHandle" ∧ (parseMethodDescriptor y.desc).map (fun d => d.parameters.length) = some as.length)
    (hf : fr' + 1 ≤ fr) (hl : 8 + (nLy + 11) + lo' ≤ lo) (hw : wdt rest ≤ 8) (hdg : decode cc pc = .ok (.invokestatic index, 3)) (hstk : st = as.reverse ++ rest) {f : β → Mem → Res α} (k : ∀ v σ1, r0 = some (.inl v, σ1) → LX X V A fr lo c0 s0 F (pc + 3) lv ((inb v).toList ++ rest) σ1 (f v σ1)) : LX X V A fr lo c0 s0 F pc lv st σ (bindR r0 f) := by
  cases h0 : r0 with
  | none => exact lx_none
  | some o =>
    obtain ⟨o, σ1⟩ := o
    cases o with
    | inr E => exact absurd h0 (hnt E σ1)
    | inl v => exact lx_callW hC hE (h0 ▸ hsat) hw0 hini hlink hst hd hf hl hw hdg hstk rfl (k v σ1 h0)
end
