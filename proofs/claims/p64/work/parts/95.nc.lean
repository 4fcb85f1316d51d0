/-! ===== constructors that call constructors ===== -/
theorem rg_app (W0 : va_W) (e : Nat × va_E) : (List.range W0.length).map (fun i => (W0 ++ [e])[i]?) = W0.map some := by
  apply List.ext_getElem
  · simp
  · intro k h1 h2
    have hk : k < W0.length := by simpa using h2
    simp [List.getElem?_append_left hk, hk]
theorem nd_rg : ∀ n s : Nat, va_nd (List.range' s n) = true
  | 0, s => rfl
  | n + 1, s => by
    show (decide (s ∉ List.range' (s + 1) n) && va_nd (List.range' (s + 1) n)) = true
    rw [nd_rg n (s + 1), Bool.and_true]
    refine decide_eq_true ?_
    intro h
    have := (List.mem_range'_1.mp h).1
    omega
section
variable {X : Cx} {V : Vx} {A : Nat → Prop} {R : Room} {Q : State → Prop} {pc : Nat} {lv : List (Nat × Value)} {rest st : List Value} {ws : va_W} {cells slots : Nat} {own : String} {cc : ByteArray} {nL : Nat}
theorem nx_new (hC : Cok X V A own cc nL) {C : String} {T : u_T} {N ci index : Nat} (hw : ∀ w ∈ u_ws C T N, w ∈ gw) (ty : Nat → FieldType) (hty : ∀ k, k < N → parseFieldDescriptor (T k).2.2.1 = some (ty k)) (hcl : Cond.classLink own index C ∈ gw) (hinst : Cond.instantiable C N ∈ gw) (hini : Cond.initialized C ∈ gw) (hc : clv[ci]? = some (C, T, N)) {fs : List Value} (hfs : ∀ j, j < N → defaultValue (ty j) = vp_V fs j) (hcells : cells + 1 ≤ R.cells) (hslots : slots + N ≤ R.slots) (hdg : decode cc pc = .ok (.new index, 3))
    (k : ∀ q : Nat, NX X V A R nL Q (pc + 3) lv (.ref q :: rest) (ws ++ [(q, .inr (ci, fs))]) (cells + 1) (slots + N)) : NX X V A R nL Q pc lv rest ws cells slots :=
  fun H locs ls h1 h2 h3 h4 => va_new hC.1 hC.2.1 hC.2.2.2.2.1 hw ty hty hC.2.2.2.1 (lx_words hC hcl) (lx_words hC hinst) (lx_words hC hini) hC.2.2.2.2.2.1 h1 h2 h3 hC.2.2.2.2.2.2.1 hc hfs hcells hslots hdg (fun q H1 hP hD hS => k q H1 locs ls hP hD hS h4)
theorem nx_callN (hC : Cok X V A own cc nL) {y : MethodName} {ccy : ByteArray} {nLy fr' lo' mc ms ci index : Nat} {fs0 : List Value} {post : Vx → Nat → va_W → Prop} (hn : NC (xl X) y (.code y ccy nLy none) fr' lo' mc ms ci fs0 post) (hw0 : Cond.code y ccy nLy none ∈ gw) (hini : Cond.initialized y.cls ∈ gw) (hlink : Cond.methodLink own index y ∈ gw) (him : Cond.instanceMethod y ∈ gw) (hyn : y.name = "<init>")
    (hd : y.cls ≠ "java/lang/invoke/MethodHandle" ∧ y.cls ≠ "java/lang/invoke/VarHandle" ∧ (parseMethodDescriptor y.desc).map (fun d => d.parameters.length) = some 0) (hf : fr' + 1 ≤ R.frames) (hl : 8 + (nLy + 11) + lo' ≤ R.locals) (hX : XE V A (xs X) (xs X).heap) (hw : wdt rest ≤ 8) (hc : cells + mc ≤ R.cells) (hs : slots + ms ≤ R.slots) {W0 : va_W} {q : Nat} (hws : ws = W0 ++ [(q, .inr (ci, fs0))]) (hdg : decode cc pc = .ok (.invokespecial index, 3))
    (k : ∀ w1, post V q w1 → NX X V A R nL Q (pc + 3) lv rest (W0 ++ w1) (cells + mc) (slots + ms)) : NX X V A R nL Q pc lv (.ref q :: rest) ws cells slots := by
  subst hws
  intro H locs ls hP hD hS h4
  have he : [W0.length].map (fun i => (W0 ++ [(q, Sum.inr (ci, fs0))])[i]?) = [((q, Sum.inr (ci, fs0)) : Nat × va_E)].map some := by simp
  have hPc := hP.sub (ws' := [(q, .inr (ci, fs0))]) [W0.length] (by simp)
  have hDc := hD.sub (ws' := [(q, .inr (ci, fs0))]) [W0.length] rfl he
  have hFc := va_free (wc := [(q, .inr (ci, fs0))]) hD hS hC.2.2.2.2.2.2.1 [W0.length] he
  have hG : GoodIn gw (Cond.code y ccy nLy none :: gw) := fun w h => (List.mem_cons.mp h).elim (fun e => by rw [e]; exact gw_good _ hw0) (gw_good w)
  refine va_callv (va_runI (As := []) (rest := rest) ⟨hC.1, hC.2.1, hC.2.2.1, hC.2.2.2.1, hC.2.2.2.2.1⟩ (hn V q H.size) (cwI 0 hC.2.2.2.2.1 hG rfl rfl rfl (lx_words hC hini) (lx_words hC hlink) (lx_words hC him) hyn hd ⟨hf, hl⟩)
    ⟨fun a U g mk z => by obtain ⟨z0, z1, zP, zK, zD, zX⟩ := z; exact ⟨z0, z1, zP, va_K.moved (u := U) (U := U.calling g mk a) (Vm.Alike.refl U.vm) zK, zD, XE.go (u := U) (U := U.calling g mk a) (State.WarmedH.refl U) zX (fun _ _ _ => rfl) (fun _ h => h)⟩, fun U hU hW => ⟨rfl, by rw [hU], by rw [hU]; exact hPc, va_K.moved hW.alike hC.2.2.2.2.2.1, hDc.weaken (fun _ _ _ _ => trivial), XE.go hW hX (fun z z1 z2 => by rw [hU]; exact hS.2.1 z z1 z2) hFc⟩⟩
    rfl rfl (by show ls.size = nL; exact h4.1) rfl (by show 2 * 0 + _ ≤ 8; rw [show (rest.map fun v => v.category).sum = wdt rest from rfl]; omega) hdg ⟨hc, hs⟩) hS (fun z _ h => hFc z h) hFc (fun w1 t H1 locs1 ht hvm hw1 hB hz1 hk1 hS1 => ?_)
  obtain ⟨hP1, hD1⟩ := hB
  rw [ht] at hP1
  obtain ⟨hP2, hD2⟩ := va_join (wr := W0) (w1 := w1) hP hD [W0.length] (List.range W0.length) he (rg_app _ _) (by rw [List.range_eq_range']; exact nd_rg _ _) (fun i hi hi2 => by
    have h5 := List.mem_range.mp hi
    have h6 := List.mem_singleton.mp hi2
    omega) hk1 hFc hP1 hD1
  exact k w1 hw1 H1 locs1 ls hP2 hD2 hS1 h4
theorem nx_newq (hC : Cok X V A own cc nL) {C : String} {index : Nat} (t0 : Nat) (ht : (tysv V)[t0]? = some (V.2.1 t0, .object C)) (hcl : Cond.classLink own index C ∈ gw) (hao : va_AO C (xs X)) {n : Int32} {N : Nat} (hn : ¬ n < 0) (hN : n.toNatClampNeg = N) (hb : N * 4 ≤ 536870912) (hc : cells + 1 ≤ R.cells) (hs : slots + N ≤ R.slots) (hdg : decode cc pc = .ok (.anewarray index, 3))
    (k : ∀ q : Nat, NX X V A R nL Q (pc + 3) lv (.ref q :: rest) (ws ++ [(q, .inl (V.2.1 t0, N, .inr (.inr (.inr (.inr (fun _ => none))))))]) (cells + 1) (slots + N)) : NX X V A R nL Q pc lv (.int n :: rest) ws cells slots := by
  intro H locs ls h1 h2 h3 h4
  refine va_newq hC.1 hC.2.1 hC.2.2.2.1 (lx_words hC hcl) hao hC.2.2.2.2.2.1 h1 h2 h3 hC.2.2.2.2.2.2.1 hn hN hb hc hs hdg (fun q cA H1 hK1 hP1 hD1 hS1 => ?_)
  obtain ⟨-, -, -, -, -, e1⟩ : va_RA (xs X) cA (.object C) := (hK1.2 (tysv V).length (cA, .object C) (by simp)).2
  obtain ⟨-, -, -, -, -, e2⟩ : va_RA (xs X) (V.2.1 t0) (.object C) := (hC.2.2.2.2.2.1.2 t0 _ ht).2
  have e3 : cA = V.2.1 t0 := Option.some.inj (Eq.trans (Eq.symm e1) e2)
  subst e3
  exact k q H1 locs ls hP1 hD1 hS1 h4
theorem nx_astq (hC : Cok X V A own cc nL) (q0 t0 qk : Nat) {ci : Nat} {r : vw_C} {a n v : Nat} {vs : List Value} {f : Nat → Option Nat} (ha : ws[q0]? = some (a, .inl (V.2.1 t0, n, .inr (.inr (.inr (.inr f)))))) (ht : (tysv V)[t0]? = some (V.2.1 t0, .object r.1)) (hv : ws[qk]? = some (v, .inr (ci, vs))) (hc : clv[ci]? = some r) {i : Int32} (hin : vp_in i n) (hdg : decode cc pc = .ok (.aastore, 1))
    (k : NX X V A R nL Q (pc + 1) lv rest (ws.set q0 (a, .inl (V.2.1 t0, n, .inr (.inr (.inr (.inr (va_up f i.toNatClampNeg (some v)))))))) cells slots) : NX X V A R nL Q pc lv (.ref v :: .int i :: .ref a :: rest) ws cells slots :=
  fun H locs ls h1 h2 h3 h4 => va_astq hC.1 hC.2.1 hC.2.2.2.2.2.1 h1 h2 h3 q0 t0 qk ci ha ht hv hc hin hdg (fun H1 locs1 hP hD hS => k H1 locs1 ls hP hD hS h4)
end
