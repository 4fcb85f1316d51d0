/-! ===== constructors: the walk of a body that makes a world ===== -/
def NX (X : Cx) (V : Vx) (A : Nat → Prop) (R : Room) (nL : Nat) (Q : State → Prop) (pc : Nat) (lv : List (Nat × Value)) (st : List Value) (ws : va_W) (cells slots : Nat) : Prop :=
  ∀ (H : Heap) (locs : List Loc) (ls : Array Slot), va_P V.1 clv ws H → va_D A ws → va_S A (xs X).heap H locs → lv_has ls nL lv → WX X R H locs cells slots Q (F0 (xm X) pc ls st)
/-- private constructors that the law's class's own class calls -/
def nestL : List (Nat × MethodName) := [(25, yX1_init), (32, yX2_init), (39, yX4_init)]
/-- what the constructors need of the world around -/
def XE (V : Vx) (A : Nat → Prop) (U : State) (H : Heap) : Prop := va_AO "EchoCensus$Theatre" U ∧ va_Z "java/lang/String" "COMPACT_STRINGS" "Z" (.int 1) A U H ∧ (∀ q ∈ nestL, va_Nw (.methodLinkNest "EchoCensus" q.1 q.2 "EchoCensus") U) ∧ ∃ kA : Class, U.vm.classes[V.2.1 7]? = some kA ∧ kA.kind = .array (V.2.1 0) (.array .int)
theorem XE.go {V : Vx} {A B : Nat → Prop} {u U : State} {H H1 : Heap} (hW : u.WarmedH U.vm) (h : XE V A u H) (hq : ∀ a : Nat, a < H.size → ¬ A a → H1[a]? = H[a]?) (hAB : ∀ q, B q → A q) : XE V B U H1 := by
  obtain ⟨h1, h2, h3, kA, h4, h5⟩ := h
  obtain ⟨k', hk', he⟩ := hW.alike.2.2 _ _ h4
  exact ⟨va_AO.moved hW.alike h1, (va_Z.moved hW.alike (h2.kept hq)).narrow hAB, fun q hq => va_Nw.warmM hW (h3 q hq), k', hk', by rw [he]; exact h5⟩
/-- a constructor's contract: from the object with its defaults alone, a world in which it stands first -/
def NQ (V : Vx) (A : Nat → Prop) (post : va_W → Prop) : Array Value → State → Outcome → State → Prop := va_Qv post (fun w t => va_P V.1 clv w t.heap ∧ va_D A w) A
def NC (l : Launch) (y : MethodName) (w0 : Cond) (fr lo mc ms ci : Nat) (fs0 : List Value) (post : Vx → Nat → va_W → Prop) : Prop := ∀ (V : Vx) (b sz : Nat),
  Met l y (w0 :: gw) { frames := fr, cells := mc, slots := ms, locals := lo } (va_Pc [.ref b] (fun U => U.heap.size = sz ∧ va_P V.1 clv [(b, .inr (ci, fs0))] U.heap ∧ va_K V.1 clv (tysv V) U ∧ va_D (fun _ => True) [(b, .inr (ci, fs0))] ∧ XE V (va_A [(b, .inr (ci, fs0))] sz) U U.heap)) (NQ V (va_A [(b, .inr (ci, fs0))] sz) (post V b)) mc ms (va_A [(b, .inr (ci, fs0))] sz)
theorem nc_of {l : Launch} {y : MethodName} {cc : ByteArray} {nL fr lo mc ms ci : Nat} {fs0 : List Value} {post : Vx → Nat → va_W → Prop} (hy : plainName y.cls = true) (hyn : y.name = "<init>") (hn : 1 ≤ nL)
    (body : ∀ (X : Cx) (V : Vx) (A : Nat → Prop) (b : Nat), xl X = l → Cok X V A y.cls cc nL → XE V A (xs X) (xs X).heap → (xh X).name = "<init>" → (xh X).sig.returnType = none → NX X V A { frames := fr, cells := mc, slots := ms, locals := lo } nL (MQ (xb X) (NQ V A (post V b)) (xa X) (xs X) mc ms A) 0 [(0, .ref b)] [] [(b, .inr (ci, fs0))] 0 0) : NC l y (.code y cc nL none) fr lo mc ms ci fs0 post := by
  intro V b sz
  refine Met.ofW (cc := cc) (maxL := nL) (ret := none) hy rfl ?_
  intro p e s m args below meth c s₁ B hml hv
  obtain ⟨rfl, hsz, hP, hK, hD0, hX⟩ := hv
  have hts := atoms_spec (ws := Cond.code y cc nL none :: gw) B.pre
  have hin : meth.name = "<init>" := (name_of_methodNamed B.named B.method).1.trans hyn
  subst hsz
  have hD := hD0.self (sz := s.heap.size)
  have hC : Cok (p, l, e, s, m, [Value.ref b].toArray, below, meth, c) V (va_A [(b, .inr (ci, fs0))] s.heap.size) y.cls cc nL := ⟨B.exec, B.bytes, hml, findClass_of_methodNamed B.named, fun w h => hts w (List.mem_cons_of_mem _ h), hK, fun q h => Or.inr h, B.notSynchronized⟩
  have hlv := lv_entry [Value.ref b] (n := nL) hn
  rw [lg_entry_eq]
  exact body (p, l, e, s, m, [Value.ref b].toArray, below, meth, c) V (va_A [(b, .inr (ci, fs0))] s.heap.size) b rfl hC hX hin B.returns s.heap [] _ hP hD va_S.rf hlv
theorem gwOi : Cond.instanceMethod Lib.objectInit ∈ gw := gwt1 (List.mem_of_getElem? (i := 36) rfl) (by decide +kernel)
theorem gwOc : Cond.code Lib.objectInit ⟨#[0xb1]⟩ 1 none ∈ gw := gwt1 (List.mem_of_getElem? (i := 37) rfl) (by decide +kernel)
section
variable {X : Cx} {V : Vx} {A : Nat → Prop} {R : Room} {Q : State → Prop} {pc : Nat} {lv : List (Nat × Value)} {rest st : List Value} {ws : va_W} {cells slots : Nat} {own : String} {cc : ByteArray} {nL : Nat}
theorem nx_aload_n (hC : Cok X V A own cc nL) {j : Fin 4} {i x : Nat} (hdg : decode cc pc = .ok (.aload_n j, 1)) (hi : (j : Nat) = i) (q : Nat) (hl : lv[q]? = some (i, .ref x)) (k : NX X V A R nL Q (pc + 1) lv (.ref x :: rest) ws cells slots) : NX X V A R nL Q pc lv rest ws cells slots :=
  fun H locs ls h1 h2 h3 h4 => lv_aload_n hC.1 hC.2.1 hdg hi (lv_at h4 q hl) (k H locs ls h1 h2 h3 h4)
theorem nx_iload_n (hC : Cok X V A own cc nL) {j : Fin 4} {i : Nat} {x : Int32} (hdg : decode cc pc = .ok (.iload_n j, 1)) (hi : (j : Nat) = i) (q : Nat) (hl : lv[q]? = some (i, .int x)) (k : NX X V A R nL Q (pc + 1) lv (.int x :: rest) ws cells slots) : NX X V A R nL Q pc lv rest ws cells slots :=
  fun H locs ls h1 h2 h3 h4 => lv_iload_n hC.1 hC.2.1 hdg hi (lv_at h4 q hl) (k H locs ls h1 h2 h3 h4)
theorem nx_iconst (hC : Cok X V A own cc nL) {n : Int} {v : Int32} (hdg : decode cc pc = .ok (.iconst n, 1)) (hv : Int32.ofInt n = v) (k : NX X V A R nL Q (pc + 1) lv (.int v :: rest) ws cells slots) : NX X V A R nL Q pc lv rest ws cells slots :=
  fun H locs ls h1 h2 h3 h4 => lv_iconst hC.1 hC.2.1 hdg hv (k H locs ls h1 h2 h3 h4)
theorem nx_bipush (hC : Cok X V A own cc nL) {n : Int} {v : Int32} (hdg : decode cc pc = .ok (.bipush n, 2)) (hv : (Int8.ofInt n).toInt32 = v) (k : NX X V A R nL Q (pc + 2) lv (.int v :: rest) ws cells slots) : NX X V A R nL Q pc lv rest ws cells slots :=
  fun H locs ls h1 h2 h3 h4 => lv_bipush hC.1 hC.2.1 hdg hv (k H locs ls h1 h2 h3 h4)
theorem nx_sipush (hC : Cok X V A own cc nL) {n : Int} {v : Int32} (hdg : decode cc pc = .ok (.sipush n, 3)) (hv : (Int16.ofInt n).toInt32 = v) (k : NX X V A R nL Q (pc + 3) lv (.int v :: rest) ws cells slots) : NX X V A R nL Q pc lv rest ws cells slots :=
  fun H locs ls h1 h2 h3 h4 => lv_sipush hC.1 hC.2.1 hdg hv (k H locs ls h1 h2 h3 h4)
theorem nx_dup (hC : Cok X V A own cc nL) {x : Nat} (hdg : decode cc pc = .ok (.dup, 1)) (k : NX X V A R nL Q (pc + 1) lv (.ref x :: .ref x :: rest) ws cells slots) : NX X V A R nL Q pc lv (.ref x :: rest) ws cells slots :=
  fun H locs ls h1 h2 h3 h4 => lv_dup hC.1 hC.2.1 hdg rfl (k H locs ls h1 h2 h3 h4)
theorem nx_istore_n (hC : Cok X V A own cc nL) {j : Fin 4} {i : Nat} {x : Int32} (hdg : decode cc pc = .ok (.istore_n j, 1)) (hi : (j : Nat) = i) (hn : i < nL) (k : NX X V A R nL Q (pc + 1) ((i, .int x) :: lv.filter (fun q => !(q.1 == i) && !(q.1 + 1 == i && q.2.category == 2))) rest ws cells slots) : NX X V A R nL Q pc lv (.int x :: rest) ws cells slots :=
  fun H locs ls h1 h2 h3 h4 => lv_istore_n hC.1 hC.2.1 hdg hi h4 hn rfl (fun ls' hl' => k H locs ls' h1 h2 h3 hl')
theorem nx_iinc (hC : Cok X V A own cc nL) {i : Nat} {n : Int} {x : Int32} (hdg : decode cc pc = .ok (.iinc i n, 3)) (q : Nat) (hl : lv[q]? = some (i, .int x)) (hn : i < nL) (k : NX X V A R nL Q (pc + 3) ((i, .int (x + Int32.ofInt n)) :: lv.filter (fun q => !(q.1 == i) && !(q.1 + 1 == i && q.2.category == 2))) rest ws cells slots) : NX X V A R nL Q pc lv rest ws cells slots :=
  fun H locs ls h1 h2 h3 h4 => lv_iinc hC.1 hC.2.1 hdg h4 (k := q) hl rfl hn rfl (fun ls' hl' => k H locs ls' h1 h2 h3 hl')
theorem nx_goto (hC : Cok X V A own cc nL) {off : Int} (tgt : Nat) (hdg : decode cc pc = .ok (.goto off, 3)) (ht : (pc : Int) + off = (tgt : Int)) (k : NX X V A R nL Q tgt lv st ws cells slots) : NX X V A R nL Q pc lv st ws cells slots :=
  fun H locs ls h1 h2 h3 h4 => lv_goto hC.1 hC.2.1 hdg ht (k H locs ls h1 h2 h3 h4)
theorem nx_geT (hC : Cok X V A own cc nL) {x y : Int32} {off : Int} (tgt : Nat) (hdg : decode cc pc = .ok (.if_icmp .ge off, 3)) (ht : (pc : Int) + off = (tgt : Int)) (h : y ≤ x) (k : NX X V A R nL Q tgt lv rest ws cells slots) : NX X V A R nL Q pc lv (.int y :: .int x :: rest) ws cells slots :=
  fun H locs ls h1 h2 h3 h4 => lv_icmp_ge hC.1 hC.2.1 hdg ht (fun _ => k H locs ls h1 h2 h3 h4) (fun z => absurd h z)
theorem nx_geF (hC : Cok X V A own cc nL) {x y : Int32} {off : Int} (tgt : Nat) (hdg : decode cc pc = .ok (.if_icmp .ge off, 3)) (ht : (pc : Int) + off = (tgt : Int)) (h : ¬ y ≤ x) (k : NX X V A R nL Q (pc + 3) lv rest ws cells slots) : NX X V A R nL Q pc lv (.int y :: .int x :: rest) ws cells slots :=
  fun H locs ls h1 h2 h3 h4 => lv_icmp_ge hC.1 hC.2.1 hdg ht (fun z => absurd z h) (fun _ => k H locs ls h1 h2 h3 h4)
theorem nx_init (hC : Cok X V A own cc nL) {idx x : Nat} (hlink : Cond.methodLink own idx Lib.objectInit ∈ gw) (hf : 1 ≤ R.frames) (hlo : wdt rest + 12 ≤ R.locals) (hdg : decode cc pc = .ok (.invokespecial idx, 3)) (k : NX X V A R nL Q (pc + 3) lv rest ws cells slots) : NX X V A R nL Q pc lv (.ref x :: rest) ws cells slots :=
  fun H locs ls h1 h2 h3 h4 => W.objInit hC.1 hC.2.1 hC.2.2.2.1 (lx_words hC hlink) (lx_words hC gwOi) (lx_words hC gwOc) rfl (by rw [hC.2.2.1]; exact h4.1) rfl hdg hf (by show 2 * 0 + wdt rest + 12 ≤ R.locals; omega) (W.eq (g2 := F0 (xm X) (pc + 3) ls rest) rfl (k H locs ls h1 h2 h3 h4))
theorem nx_newa (hC : Cok X V A own cc nL) {atype : ArrayType} {ty : FieldType} (t0 : Nat) (hty : newarray.typeOf atype = ty) (ht : (tysv V)[t0]? = some (V.2.1 t0, ty)) (hobj : ∀ C, ty ≠ .object C) (harr : Cond.arrayClass (newarray.typeOf atype) ∈ gw) {n : Int32} {N : Nat} {a0 : vp_A} (ha : ∀ cA : ClassId, vp_cell cA a0 = arrV cA N (fun _ => defaultValue ty)) (hn : ¬ n < 0) (hN : n.toNatClampNeg = N) (hb : N * componentBytes ty ≤ 536870912) (hc : cells + 1 ≤ R.cells) (hs : slots + N ≤ R.slots) (hdg : decode cc pc = .ok (.newarray atype, 2))
    (k : ∀ q : Nat, NX X V A R nL Q (pc + 2) lv (.ref q :: rest) (ws ++ [(q, .inl (V.2.1 t0, a0))]) (cells + 1) (slots + N)) : NX X V A R nL Q pc lv (.int n :: rest) ws cells slots := by
  intro H locs ls h1 h2 h3 h4
  refine va_newa hC.1 hC.2.1 (lx_words hC harr) hty hC.2.2.2.2.2.1 h1 h2 h3 hC.2.2.2.2.2.2.1 ha hn hN hb hc hs hdg (fun q cA H1 hK1 hP1 hD1 hS1 => ?_)
  have e1 : va_RA (xs X) cA ty := (hK1.2 (tysv V).length (cA, ty) (by simp)).2
  have e2 : va_RA (xs X) (V.2.1 t0) ty := (hC.2.2.2.2.2.1.2 t0 _ ht).2
  have e3 : cA = V.2.1 t0 := by
    cases ty with
    | object C => exact absurd rfl (hobj C)
    | _ => exact Option.some.inj (Eq.trans (Eq.symm e1) e2)
  subst e3
  exact k q H1 locs ls hP1 hD1 hS1 h4
theorem nx_putF (hC : Cok X V A own cc nL) (hin : (xh X).name = "<init>") {C : String} {T : u_T} {N ci index : Nat} (hw : ∀ w ∈ u_ws C T N, w ∈ gw) (ty0 : Nat → FieldType) (hty : ∀ k, k < N → parseFieldDescriptor (T k).2.2.1 = some (ty0 k)) (hnm : ∀ a, a < N → ∀ b, b < N → a ≠ b → (T a).2.1 ≠ (T b).2.1) (q0 : Nat) {a : Nat} {fs : List Value} (he : ws[q0]? = some (a, .inr (ci, fs))) (hc : clv[ci]? = some (C, T, N)) (k0 : Nat) (hk : k0 < N) (hlink : Cond.fieldLink own index (T k0).1 (T k0).2.1 (T k0).2.2.1 ∈ gw) (hfin : (T k0).2.2.2 = true) (hdecl : (T k0).1 = own) {v : Value} (hn : narrow (ty0 k0) v = v) (hfit : fits (ty0 k0) v = true) (hl : k0 < fs.length) (hdg : decode cc pc = .ok (.putfield index, 3))
    (k : NX X V A R nL Q (pc + 3) lv rest (ws.set q0 (a, .inr (ci, fs.set k0 v))) cells slots) : NX X V A R nL Q pc lv (v :: .ref a :: rest) ws cells slots :=
  fun H locs ls h1 h2 h3 h4 => va_putF hC.1 hC.2.1 hC.2.2.2.2.1 hw ty0 hty hnm hC.2.2.2.1 hC.2.2.2.2.2.1 h1 h2 h3 q0 he hc k0 hk (lx_words hC hlink) (fun _ h => h) hfin hin hdecl (hty k0 hk) hn hfit hl hdg (fun H1 locs1 hP hD hS => k H1 locs1 ls hP hD hS h4)
theorem nx_put (hC : Cok X V A own cc nL) {C : String} {T : u_T} {N ci index : Nat} (hw : ∀ w ∈ u_ws C T N, w ∈ gw) (ty0 : Nat → FieldType) (hty : ∀ k, k < N → parseFieldDescriptor (T k).2.2.1 = some (ty0 k)) (hnm : ∀ a, a < N → ∀ b, b < N → a ≠ b → (T a).2.1 ≠ (T b).2.1) (q0 : Nat) {a : Nat} {fs : List Value} (he : ws[q0]? = some (a, .inr (ci, fs))) (hc : clv[ci]? = some (C, T, N)) (k0 : Nat) (hk : k0 < N) (hlink : Cond.fieldLink own index (T k0).1 (T k0).2.1 (T k0).2.2.1 ∈ gw) (hfin : (T k0).2.2.2 = false) {v : Value} (hn : narrow (ty0 k0) v = v) (hfit : fits (ty0 k0) v = true) (hl : k0 < fs.length) (hdg : decode cc pc = .ok (.putfield index, 3))
    (k : NX X V A R nL Q (pc + 3) lv rest (ws.set q0 (a, .inr (ci, fs.set k0 v))) cells slots) : NX X V A R nL Q pc lv (v :: .ref a :: rest) ws cells slots :=
  fun H locs ls h1 h2 h3 h4 => va_put hC.1 hC.2.1 hC.2.2.2.2.1 hw ty0 hty hnm hC.2.2.2.1 hC.2.2.2.2.2.1 h1 h2 h3 q0 he hc k0 hk (lx_words hC hlink) (fun _ h => h) hfin (hty k0 hk) hn hfit hl hdg (fun H1 locs1 hP hD hS => k H1 locs1 ls hP hD hS h4)
theorem nx_iast (hC : Cok X V A own cc nL) (q0 : Nat) {a n : Nat} {f : Nat → Int32} (he : ws[q0]? = some (a, .inl (V.2.1 0, n, .inl f))) {i x : Int32} (hi : vp_in i n) (hdg : decode cc pc = .ok (.iastore, 1))
    (k : NX X V A R nL Q (pc + 1) lv rest (ws.set q0 (a, .inl (V.2.1 0, n, .inl (upd f i.toNatClampNeg x)))) cells slots) : NX X V A R nL Q pc lv (.int x :: .int i :: .ref a :: rest) ws cells slots :=
  fun H locs ls h1 h2 h3 h4 => va_iast hC.1 hC.2.1 hC.2.2.2.2.2.1 h1 h2 h3 q0 0 he rfl hi hdg (fun H1 locs1 hP hD hS => k H1 locs1 ls hP hD hS h4)
theorem nx_ret (hC : Cok X V A own cc nL) {mc ms : Nat} {post : va_W → Prop} (hr : (xh X).sig.returnType = none) (hp : post ws) (hc : cells ≤ mc) (hs : slots ≤ ms) (hdg : decode cc pc = .ok (.return_, 1)) : NX X V A R nL (MQ (xb X) (NQ V A post) (xa X) (xs X) mc ms A) pc lv [] ws cells slots :=
  fun H locs ls h1 h2 h3 h4 => W.widen hc hs (W.vret hC.1 hC.2.1 hr (fun t ht _ => ⟨⟨ws, rfl, hp, by rw [ht]; exact h1, h2⟩, h3.F ht⟩) h3.2.2 hdg (hlocks := hC.2.2.2.2.2.2.2))
end
