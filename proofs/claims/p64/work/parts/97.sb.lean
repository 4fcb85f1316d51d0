/-! ===== StringBuilder.<init> ===== -/
theorem wd222 : Cond.methodLink RJ5 3 Lib.objectInit ∈ gw := gwt1 (List.mem_of_getElem? (i := 202) rfl) (by decide +kernel)
theorem wd223 : Cond.fieldLink RJ5 18 "java/lang/String" "COMPACT_STRINGS" "Z" ∈ gw := gwt1 (List.mem_of_getElem? (i := 203) rfl) (by decide +kernel)
theorem wd232 : Cond.fieldLink RJ5 15 "java/lang/AbstractStringBuilder" "value" "[B" ∈ gw := gwt1 (List.mem_of_getElem? (i := 212) rfl) (by decide +kernel)
theorem wd233 : Cond.fieldLink RJ5 22 "java/lang/AbstractStringBuilder" "coder" "B" ∈ gw := gwt1 (List.mem_of_getElem? (i := 213) rfl) (by decide +kernel)
theorem wd219 : Cond.methodLink RJ4 1 yJ5_init_d00df ∈ gw := gwt1 (List.mem_of_getElem? (i := 199) rfl) (by decide +kernel)
theorem cw_J5_init : Cond.code yJ5_init_d00df cJ5_init_d00df 2 none ∈ gw := gwt1 (List.mem_of_getElem? (i := 201) rfl) (by decide +kernel)
theorem ci_J5_init : Cond.initialized yJ5_init_d00df.cls ∈ gw := gwt1 (List.mem_of_getElem? (i := 7) rfl) (by decide +kernel)
theorem cs_J5_init : Cond.instanceMethod yJ5_init_d00df ∈ gw := gwt1 (List.mem_of_getElem? (i := 200) rfl) (by decide +kernel)
theorem cw_J4_init : Cond.code yJ4_init_da8c8 cJ4_init_da8c8 1 none ∈ gw := gwt1 (List.mem_of_getElem? (i := 198) rfl) (by decide +kernel)
theorem ci_J4_init : Cond.initialized yJ4_init_da8c8.cls ∈ gw := gwt1 (List.mem_of_getElem? (i := 8) rfl) (by decide +kernel)
theorem cs_J4_init : Cond.instanceMethod yJ4_init_da8c8 ∈ gw := gwt1 (List.mem_of_getElem? (i := 197) rfl) (by decide +kernel)
theorem ck_J4 : Cond.instantiable RJ4 4 ∈ gw := gwt1 (List.mem_of_getElem? (i := 195) rfl) (by decide +kernel)
theorem cj_J4 : Cond.initialized RJ4 ∈ gw := gwt1 (List.mem_of_getElem? (i := 8) rfl) (by decide +kernel)
theorem cd_J5_init_d00df : yJ5_init_d00df.cls ≠ "java/lang/invoke/MethodHandle" ∧ yJ5_init_d00df.cls ≠ "java/lang/invoke/VarHandle" ∧ (parseMethodDescriptor yJ5_init_d00df.desc).map (fun d => d.parameters.length) = some 1 := ⟨by decide, by decide, by decide +kernel⟩
theorem cd_J4_init_da8c8 : yJ4_init_da8c8.cls ≠ "java/lang/invoke/MethodHandle" ∧ yJ4_init_da8c8.cls ≠ "java/lang/invoke/VarHandle" ∧ (parseMethodDescriptor yJ4_init_da8c8.desc).map (fun d => d.parameters.length) = some 0 := ⟨by decide, by decide, by decide +kernel⟩
theorem dJ5i_0 : decode cJ5_init_d00df 0 = .ok (.aload_n 0, 1) := by decide +kernel
theorem dJ5i_1 : decode cJ5_init_d00df 1 = .ok (.invokespecial 3, 3) := by decide +kernel
theorem dJ5i_4 : decode cJ5_init_d00df 4 = .ok (.getstatic 18, 3) := by decide +kernel
theorem dJ5i_7 : decode cJ5_init_d00df 7 = .ok (.ifCond .eq 18, 3) := by decide +kernel
theorem dJ5i_10 : decode cJ5_init_d00df 10 = .ok (.aload_n 0, 1) := by decide +kernel
theorem dJ5i_11 : decode cJ5_init_d00df 11 = .ok (.iload_n 1, 1) := by decide +kernel
theorem dJ5i_12 : decode cJ5_init_d00df 12 = .ok (.newarray .byte, 2) := by decide +kernel
theorem dJ5i_14 : decode cJ5_init_d00df 14 = .ok (.putfield 15, 3) := by decide +kernel
theorem dJ5i_17 : decode cJ5_init_d00df 17 = .ok (.aload_n 0, 1) := by decide +kernel
theorem dJ5i_18 : decode cJ5_init_d00df 18 = .ok (.iconst 0, 1) := by decide +kernel
theorem dJ5i_19 : decode cJ5_init_d00df 19 = .ok (.putfield 22, 3) := by decide +kernel
theorem dJ5i_22 : decode cJ5_init_d00df 22 = .ok (.goto 16, 3) := by decide +kernel
theorem dJ5i_38 : decode cJ5_init_d00df 38 = .ok (.return_, 1) := by decide +kernel
theorem dJ4i_0 : decode cJ4_init_da8c8 0 = .ok (.aload_n 0, 1) := by decide +kernel
theorem dJ4i_1 : decode cJ4_init_da8c8 1 = .ok (.bipush 16, 2) := by decide +kernel
theorem dJ4i_3 : decode cJ4_init_da8c8 3 = .ok (.invokespecial 1, 3) := by decide +kernel
theorem dJ4i_6 : decode cJ4_init_da8c8 6 = .ok (.return_, 1) := by decide +kernel
theorem inJ4 : ∀ w ∈ u_ws RJ4 TJ4 4, w ∈ gw := by decide +kernel
/-- a constructor of one argument -/
def NC1 (l : Launch) (y : MethodName) (w0 : Cond) (fr lo mc ms ci : Nat) (fs0 : List Value) (x : Int32) (post : Vx → Nat → va_W → Prop) : Prop := ∀ (V : Vx) (b sz : Nat),
  Met l y (w0 :: gw) { frames := fr, cells := mc, slots := ms, locals := lo } (va_Pc [.ref b, .int x] (fun U => U.heap.size = sz ∧ va_P V.1 clv [(b, .inr (ci, fs0))] U.heap ∧ va_K V.1 clv (tysv V) U ∧ va_D (fun _ => True) [(b, .inr (ci, fs0))] ∧ XE V (va_A [(b, .inr (ci, fs0))] sz) U U.heap)) (NQ V (va_A [(b, .inr (ci, fs0))] sz) (post V b)) mc ms (va_A [(b, .inr (ci, fs0))] sz)
theorem nc1_of {l : Launch} {y : MethodName} {cc : ByteArray} {nL fr lo mc ms ci : Nat} {fs0 : List Value} {x : Int32} {post : Vx → Nat → va_W → Prop} (hy : plainName y.cls = true) (hyn : y.name = "<init>") (hn : 2 ≤ nL)
    (body : ∀ (X : Cx) (V : Vx) (A : Nat → Prop) (b : Nat), xl X = l → Cok X V A y.cls cc nL → XE V A (xs X) (xs X).heap → (xh X).name = "<init>" → (xh X).sig.returnType = none → NX X V A { frames := fr, cells := mc, slots := ms, locals := lo } nL (MQ (xb X) (NQ V A (post V b)) (xa X) (xs X) mc ms A) 0 [(0, .ref b), (1, .int x)] [] [(b, .inr (ci, fs0))] 0 0) : NC1 l y (.code y cc nL none) fr lo mc ms ci fs0 x post := by
  intro V b sz
  refine Met.ofW (cc := cc) (maxL := nL) (ret := none) hy rfl ?_
  intro p e s m args below meth c s₁ B hml hv
  obtain ⟨rfl, hsz, hP, hK, hD0, hX⟩ := hv
  have hts := atoms_spec (ws := Cond.code y cc nL none :: gw) B.pre
  have hin : meth.name = "<init>" := (name_of_methodNamed B.named B.method).1.trans hyn
  subst hsz
  have hD := hD0.self (sz := s.heap.size)
  have hC : Cok (p, l, e, s, m, [Value.ref b, .int x].toArray, below, meth, c) V (va_A [(b, .inr (ci, fs0))] s.heap.size) y.cls cc nL := ⟨B.exec, B.bytes, hml, findClass_of_methodNamed B.named, fun w h => hts w (List.mem_cons_of_mem _ h), hK, fun q h => Or.inr h, B.notSynchronized⟩
  have hlv := lv_entry [Value.ref b, .int x] (n := nL) hn
  rw [lg_entry_eq]
  exact body (p, l, e, s, m, [Value.ref b, .int x].toArray, below, meth, c) V (va_A [(b, .inr (ci, fs0))] s.heap.size) b rfl hC hX hin B.returns s.heap [] _ hP hD va_S.rf hlv
section
variable {X : Cx} {V : Vx} {A : Nat → Prop} {R : Room} {Q : State → Prop} {pc : Nat} {lv : List (Nat × Value)} {rest st : List Value} {ws : va_W} {cells slots : Nat} {own : String} {cc : ByteArray} {nL : Nat}
theorem nx_call1 (hC : Cok X V A own cc nL) {y : MethodName} {ccy : ByteArray} {nLy fr' lo' mc ms ci index : Nat} {fs0 : List Value} {x : Int32} {post : Vx → Nat → va_W → Prop} (hn : NC1 (xl X) y (.code y ccy nLy none) fr' lo' mc ms ci fs0 x post) (hw0 : Cond.code y ccy nLy none ∈ gw) (hini : Cond.initialized y.cls ∈ gw) (hlink : Cond.methodLink own index y ∈ gw) (him : Cond.instanceMethod y ∈ gw) (hyn : y.name = "<init>")
    (hd : y.cls ≠ "java/lang/invoke/MethodHandle" ∧ y.cls ≠ "java/lang/invoke/VarHandle" ∧ (parseMethodDescriptor y.desc).map (fun d => d.parameters.length) = some 1) (hf : fr' + 1 ≤ R.frames) (hl : 8 + (nLy + 11) + lo' ≤ R.locals) (hX : XE V A (xs X) (xs X).heap) (hw : wdt rest ≤ 8) (hc : cells + mc ≤ R.cells) (hs : slots + ms ≤ R.slots) {W0 : va_W} {q : Nat} (hws : ws = W0 ++ [(q, .inr (ci, fs0))]) (hdg : decode cc pc = .ok (.invokespecial index, 3))
    (k : ∀ w1, post V q w1 → NX X V A R nL Q (pc + 3) lv rest (W0 ++ w1) (cells + mc) (slots + ms)) : NX X V A R nL Q pc lv (.int x :: .ref q :: rest) ws cells slots := by
  subst hws
  intro H locs ls hP hD hS h4
  have he : [W0.length].map (fun i => (W0 ++ [(q, Sum.inr (ci, fs0))])[i]?) = [((q, Sum.inr (ci, fs0)) : Nat × va_E)].map some := by simp
  have hPc := hP.sub (ws' := [(q, .inr (ci, fs0))]) [W0.length] (by simp)
  have hDc := hD.sub (ws' := [(q, .inr (ci, fs0))]) [W0.length] rfl he
  have hFc := va_free (wc := [(q, .inr (ci, fs0))]) hD hS hC.2.2.2.2.2.2.1 [W0.length] he
  have hG : GoodIn gw (Cond.code y ccy nLy none :: gw) := fun w h => (List.mem_cons.mp h).elim (fun e => by rw [e]; exact gw_good _ hw0) (gw_good w)
  refine va_callv (va_runI (As := [.int x]) (rest := rest) ⟨hC.1, hC.2.1, hC.2.2.1, hC.2.2.2.1, hC.2.2.2.2.1⟩ (hn V q H.size) (cwI 1 hC.2.2.2.2.1 hG rfl rfl rfl (lx_words hC hini) (lx_words hC hlink) (lx_words hC him) hyn hd ⟨hf, hl⟩)
    ⟨fun a U g mk z => by obtain ⟨z0, z1, zP, zK, zD, zX⟩ := z; exact ⟨z0, z1, zP, va_K.moved (u := U) (U := U.calling g mk a) (Vm.Alike.refl U.vm) zK, zD, XE.go (u := U) (U := U.calling g mk a) (State.WarmedH.refl U) zX (fun _ _ _ => rfl) (fun _ h => h)⟩, fun U hU hW => ⟨rfl, by rw [hU], by rw [hU]; exact hPc, va_K.moved hW.alike hC.2.2.2.2.2.1, hDc.weaken (fun _ _ _ _ => trivial), XE.go hW hX (fun z z1 z2 => by rw [hU]; exact hS.2.1 z z1 z2) hFc⟩⟩
    rfl rfl (by show ls.size = nL; exact h4.1) rfl (by show 2 * 0 + _ ≤ 8; rw [show (rest.map fun v => v.category).sum = wdt rest from rfl]; omega) hdg ⟨hc, hs⟩) hS (fun z _ h => hFc z h) hFc (fun w1 t H1 locs1 ht hvm hw1 hB hz1 hk1 hS1 => ?_)
  obtain ⟨hP1, hD1⟩ := hB
  rw [ht] at hP1
  obtain ⟨hP2, hD2⟩ := va_join (wr := W0) (w1 := w1) hP hD [W0.length] (List.range W0.length) he (rg_app _ _) (by rw [List.range_eq_range']; exact nd_rg _ _) (fun i hi hi2 => by
    have h5 := List.mem_range.mp hi
    have h6 := List.mem_singleton.mp hi2
    omega) hk1 hFc hP1 hD1
  exact k w1 hw1 H1 locs1 ls hP2 hD2 hS1 h4
theorem nx_gets (hC : Cok X V A own cc nL) {C n d : String} {v : Value} {index : Nat} (hZ : va_Z C n d v A (xs X) (xs X).heap) (hlink : Cond.fieldLink own index C n d ∈ gw) (hdg : decode cc pc = .ok (.getstatic index, 3)) (k : NX X V A R nL Q (pc + 3) lv (v :: rest) ws cells slots) : NX X V A R nL Q pc lv rest ws cells slots :=
  fun H locs ls h1 h2 h3 h4 => va_gets hC.1 hC.2.1 hZ h3 hC.2.2.2.1 (lx_words hC hlink) (fun _ h => h) hdg (k H locs ls h1 h2 h3 h4)
theorem nx_zF (hC : Cok X V A own cc nL) {x : Int32} {off : Int} (tgt : Nat) (hdg : decode cc pc = .ok (.ifCond .eq off, 3)) (ht : (pc : Int) + off = (tgt : Int)) (h : ¬ x = 0) (k : NX X V A R nL Q (pc + 3) lv rest ws cells slots) : NX X V A R nL Q pc lv (.int x :: rest) ws cells slots :=
  fun H locs ls h1 h2 h3 h4 => lv_if_eq hC.1 hC.2.1 hdg ht (fun z => absurd z h) (fun _ => k H locs ls h1 h2 h3 h4)
end
theorem nc_J5 (l : Launch) : NC1 l yJ5_init_d00df (.code yJ5_init_d00df cJ5_init_d00df 2 none) 1 12 1 16 0 [.null, .int 0, .int 0, .int 0] 16 (fun V b w => ∃ q : Nat, w = [(b, .inr (0, [.ref q, .int 0, .int 0, .int 0])), (q, .inl (V.2.1 3, (16, .inl (fun _ => 0))))]) := by
  refine nc1_of (by decide) rfl (by decide) (fun X V A b hxl hC hX hi hr => ?_)
  refine nx_aload_n hC dJ5i_0 rfl 0 rfl ?_
  refine nx_init hC wd222 (by decide) (by decide) dJ5i_1 ?_
  refine nx_gets hC hX.2.1 wd223 dJ5i_4 ?_
  refine nx_zF hC 25 dJ5i_7 (by decide) (by decide) ?_
  refine nx_aload_n hC dJ5i_10 rfl 0 rfl ?_
  refine nx_iload_n hC dJ5i_11 rfl 1 rfl ?_
  refine nx_newa (a0 := (16, .inl (fun _ => 0))) (N := 16) hC 3 rfl rfl (fun C h => by cases h) gwA_byte (fun _ => rfl) (by decide) (by decide) (by decide) (by decide) (by decide) dJ5i_12 (fun q0 => ?_)
  refine nx_put (ws := [(b, .inr (0, [.null, .int 0, .int 0, .int 0])), (q0, .inl (V.2.1 3, (16, .inl (fun _ => 0))))]) hC inJ4 tyJ4 tyJ4_ok nmJ4 0 rfl rfl 0 (by decide) wd232 rfl rfl rfl (Nat.le_of_ble_eq_true rfl) dJ5i_14 ?_
  refine nx_aload_n hC dJ5i_17 rfl 0 rfl ?_
  refine nx_iconst (v := 0) hC dJ5i_18 (by decide) ?_
  refine nx_put (ws := [(b, .inr (0, [.ref q0, .int 0, .int 0, .int 0])), (q0, .inl (V.2.1 3, (16, .inl (fun _ => 0))))]) hC inJ4 tyJ4 tyJ4_ok nmJ4 0 rfl rfl 1 (by decide) wd233 rfl rfl rfl (Nat.le_of_ble_eq_true rfl) dJ5i_19 ?_
  refine nx_goto hC 38 dJ5i_22 (by decide) ?_
  exact nx_ret (ws := [(b, .inr (0, [.ref q0, .int 0, .int 0, .int 0])), (q0, .inl (V.2.1 3, (16, .inl (fun _ => 0))))]) hC hr ⟨q0, rfl⟩ (by decide) (by decide) dJ5i_38
theorem nc_J4 (l : Launch) : NC l yJ4_init_da8c8 (.code yJ4_init_da8c8 cJ4_init_da8c8 1 none) 2 33 1 16 0 [.null, .int 0, .int 0, .int 0] (fun V b w => ∃ q : Nat, w = [(b, .inr (0, [.ref q, .int 0, .int 0, .int 0])), (q, .inl (V.2.1 3, (16, .inl (fun _ => 0))))]) := by
  refine nc_of (by decide) rfl (by decide) (fun X V A b hxl hC hX hi hr => ?_)
  refine nx_aload_n hC dJ4i_0 rfl 0 rfl ?_
  refine nx_bipush (v := 16) hC dJ4i_1 (by decide) ?_
  refine nx_call1 (W0 := []) hC (nc_J5 (xl X)) cw_J5_init ci_J5_init wd219 cs_J5_init rfl cd_J5_init_d00df (by decide) (by decide) hX (Nat.le_of_ble_eq_true rfl) (by decide) (by decide) rfl dJ4i_3 (fun w1 hw1 => ?_)
  exact nx_ret hC hr hw1 (by decide) (by decide) dJ4i_6
