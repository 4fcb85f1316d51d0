/-! ===== EchoCensus.<init> ===== -/
theorem cw_X3_init : Cond.code yX3_init cX3_init 2 none ∈ gw := gwt1 (List.mem_of_getElem? (i := 42) rfl) (by decide +kernel)
theorem ci_X3_init : Cond.initialized yX3_init.cls ∈ gw := gwt1 (List.mem_of_getElem? (i := 2) rfl) (by decide +kernel)
theorem cs_X3_init : Cond.instanceMethod yX3_init ∈ gw := gwt1 (List.mem_of_getElem? (i := 41) rfl) (by decide +kernel)
theorem ck_X3 : Cond.instantiable RX3 3 ∈ gw := gwt1 (List.mem_of_getElem? (i := 39) rfl) (by decide +kernel)
theorem cj_X3 : Cond.initialized RX3 ∈ gw := gwt1 (List.mem_of_getElem? (i := 2) rfl) (by decide +kernel)
theorem cd_X3_init : yX3_init.cls ≠ "java/lang/invoke/MethodHandle" ∧ yX3_init.cls ≠ "java/lang/invoke/VarHandle" ∧ (parseMethodDescriptor yX3_init.desc).map (fun d => d.parameters.length) = some 0 := ⟨by decide, by decide, by decide +kernel⟩
theorem cw_X1_init : Cond.code yX1_init cX1_init 1 none ∈ gw := gwt1 (List.mem_of_getElem? (i := 153) rfl) (by decide +kernel)
theorem ci_X1_init : Cond.initialized yX1_init.cls ∈ gw := gwt1 (List.mem_of_getElem? (i := 4) rfl) (by decide +kernel)
theorem cs_X1_init : Cond.instanceMethod yX1_init ∈ gw := gwt1 (List.mem_of_getElem? (i := 152) rfl) (by decide +kernel)
theorem ck_X1 : Cond.instantiable RX1 1 ∈ gw := gwt1 (List.mem_of_getElem? (i := 150) rfl) (by decide +kernel)
theorem cj_X1 : Cond.initialized RX1 ∈ gw := gwt1 (List.mem_of_getElem? (i := 4) rfl) (by decide +kernel)
theorem cd_X1_init : yX1_init.cls ≠ "java/lang/invoke/MethodHandle" ∧ yX1_init.cls ≠ "java/lang/invoke/VarHandle" ∧ (parseMethodDescriptor yX1_init.desc).map (fun d => d.parameters.length) = some 0 := ⟨by decide, by decide, by decide +kernel⟩
theorem cw_X2_init : Cond.code yX2_init cX2_init 1 none ∈ gw := gwt1 (List.mem_of_getElem? (i := 163) rfl) (by decide +kernel)
theorem ci_X2_init : Cond.initialized yX2_init.cls ∈ gw := gwt1 (List.mem_of_getElem? (i := 5) rfl) (by decide +kernel)
theorem cs_X2_init : Cond.instanceMethod yX2_init ∈ gw := gwt1 (List.mem_of_getElem? (i := 162) rfl) (by decide +kernel)
theorem ck_X2 : Cond.instantiable RX2 1 ∈ gw := gwt1 (List.mem_of_getElem? (i := 160) rfl) (by decide +kernel)
theorem cj_X2 : Cond.initialized RX2 ∈ gw := gwt1 (List.mem_of_getElem? (i := 5) rfl) (by decide +kernel)
theorem cd_X2_init : yX2_init.cls ≠ "java/lang/invoke/MethodHandle" ∧ yX2_init.cls ≠ "java/lang/invoke/VarHandle" ∧ (parseMethodDescriptor yX2_init.desc).map (fun d => d.parameters.length) = some 0 := ⟨by decide, by decide, by decide +kernel⟩
theorem cw_X4_init : Cond.code yX4_init cX4_init 1 none ∈ gw := gwt1 (List.mem_of_getElem? (i := 175) rfl) (by decide +kernel)
theorem ci_X4_init : Cond.initialized yX4_init.cls ∈ gw := gwt1 (List.mem_of_getElem? (i := 6) rfl) (by decide +kernel)
theorem cs_X4_init : Cond.instanceMethod yX4_init ∈ gw := gwt1 (List.mem_of_getElem? (i := 174) rfl) (by decide +kernel)
theorem ck_X4 : Cond.instantiable RX4 5 ∈ gw := gwt1 (List.mem_of_getElem? (i := 172) rfl) (by decide +kernel)
theorem cj_X4 : Cond.initialized RX4 ∈ gw := gwt1 (List.mem_of_getElem? (i := 6) rfl) (by decide +kernel)
theorem cd_X4_init : yX4_init.cls ≠ "java/lang/invoke/MethodHandle" ∧ yX4_init.cls ≠ "java/lang/invoke/VarHandle" ∧ (parseMethodDescriptor yX4_init.desc).map (fun d => d.parameters.length) = some 0 := ⟨by decide, by decide, by decide +kernel⟩
theorem wd55 : Cond.methodLink RX7 1 Lib.objectInit ∈ gw := gwt1 (List.mem_of_getElem? (i := 35) rfl) (by decide +kernel)
theorem wd58 : Cond.classLink RX7 7 RX3 ∈ gw := gwt1 (List.mem_of_getElem? (i := 38) rfl) (by decide +kernel)
theorem wd60 : Cond.methodLink RX7 9 yX3_init ∈ gw := gwt1 (List.mem_of_getElem? (i := 40) rfl) (by decide +kernel)
theorem wd167 : Cond.classLink RX7 16 RX6 ∈ gw := gwt1 (List.mem_of_getElem? (i := 147) rfl) (by decide +kernel)
theorem wd168 : Cond.methodLink RX7 18 yX6_init ∈ gw := gwt1 (List.mem_of_getElem? (i := 148) rfl) (by decide +kernel)
theorem wd169 : Cond.classLink RX7 23 RX1 ∈ gw := gwt1 (List.mem_of_getElem? (i := 149) rfl) (by decide +kernel)
theorem wd179 : Cond.classLink RX7 30 RX2 ∈ gw := gwt1 (List.mem_of_getElem? (i := 159) rfl) (by decide +kernel)
theorem wd191 : Cond.classLink RX7 37 RX4 ∈ gw := gwt1 (List.mem_of_getElem? (i := 171) rfl) (by decide +kernel)
theorem wd214 : Cond.classLink RX7 44 RJ4 ∈ gw := gwt1 (List.mem_of_getElem? (i := 194) rfl) (by decide +kernel)
theorem wd216 : Cond.methodLink RX7 46 yJ4_init_da8c8 ∈ gw := gwt1 (List.mem_of_getElem? (i := 196) rfl) (by decide +kernel)
/-- the tables of heirs in a world -/
def htW (V : Vx) (b h : Nat) (i : Nat → Nat) : va_W := [(b, .inr (2, [.ref h])), (h, .inl (V.2.1 7, (5, .inr (.inr (.inr (.inr (fun j => some (i j)))))))), (i 0, .inl (V.2.1 0, (24, .inl (fun _ => 0)))), (i 1, .inl (V.2.1 0, (24, .inl (fun _ => 0)))), (i 2, .inl (V.2.1 0, (24, .inl (fun _ => 0)))), (i 3, .inl (V.2.1 0, (24, .inl (fun _ => 0)))), (i 4, .inl (V.2.1 0, (24, .inl (fun _ => 0))))]
def ftW (V : Vx) (b q : Nat) : va_W := [(b, .inr (1, [.ref q])), (q, .inl (V.2.1 0, (9, .inl (fun _ => 0))))]
def pgW (V : Vx) (b q0 q1 q2 : Nat) : va_W := [(b, .inr (4, [.ref q0, .ref q1, .ref q2, .int 0, .int 0])), (q0, .inl (V.2.1 0, (10, .inl (fun _ => 0)))), (q1, .inl (V.2.1 0, (10, .inl (fun _ => 0)))), (q2, .inl (V.2.1 0, (10, .inl (fun _ => 0))))]
def sbW (V : Vx) (b q : Nat) : va_W := [(b, .inr (0, [.ref q, .int 0, .int 0, .int 0])), (q, .inl (V.2.1 3, (16, .inl (fun _ => 0))))]
section
variable {X : Cx} {V : Vx} {A : Nat → Prop} {R : Room} {Q : State → Prop} {pc : Nat} {lv : List (Nat × Value)} {rest st : List Value} {ws : va_W} {cells slots : Nat} {own : String} {cc : ByteArray} {nL : Nat}
theorem nx_callP (hC : Cok X V A own cc nL) {y : MethodName} {ccy : ByteArray} {nLy fr' lo' mc ms ci index : Nat} {fs0 : List Value} {post : Vx → Nat → va_W → Prop} (hn : NC (xl X) y (.code y ccy nLy none) fr' lo' mc ms ci fs0 post) (hw0 : Cond.code y ccy nLy none ∈ gw) (hini : Cond.initialized y.cls ∈ gw) {host : String} (hlink : va_Nw (.methodLinkNest own index y host) (xs X)) (him : Cond.instanceMethod y ∈ gw) (hyn : y.name = "<init>")
    (hd : y.cls ≠ "java/lang/invoke/MethodHandle" ∧ y.cls ≠ "java/lang/invoke/VarHandle" ∧ (parseMethodDescriptor y.desc).map (fun d => d.parameters.length) = some 0) (hf : fr' + 1 ≤ R.frames) (hl : 8 + (nLy + 11) + lo' ≤ R.locals) (hX : XE V A (xs X) (xs X).heap) (hw : wdt rest ≤ 8) (hc : cells + mc ≤ R.cells) (hs : slots + ms ≤ R.slots) {W0 : va_W} {q : Nat} (hws : ws = W0 ++ [(q, .inr (ci, fs0))]) (hdg : decode cc pc = .ok (.invokespecial index, 3))
    (k : ∀ w1, post V q w1 → NX X V A R nL Q (pc + 3) lv rest (W0 ++ w1) (cells + mc) (slots + ms)) : NX X V A R nL Q pc lv (.ref q :: rest) ws cells slots := by
  subst hws
  intro H locs ls hP hD hS h4
  have he : [W0.length].map (fun i => (W0 ++ [(q, Sum.inr (ci, fs0))])[i]?) = [((q, Sum.inr (ci, fs0)) : Nat × va_E)].map some := by simp
  have hPc := hP.sub (ws' := [(q, .inr (ci, fs0))]) [W0.length] (by simp)
  have hDc := hD.sub (ws' := [(q, .inr (ci, fs0))]) [W0.length] rfl he
  have hFc := va_free (wc := [(q, .inr (ci, fs0))]) hD hS hC.2.2.2.2.2.2.1 [W0.length] he
  have hG : GoodIn gw (Cond.code y ccy nLy none :: gw) := fun w h => (List.mem_cons.mp h).elim (fun e => by rw [e]; exact gw_good _ hw0) (gw_good w)
  refine va_callv (va_runIN (As := []) (rest := rest) ⟨hC.1, hC.2.1, hC.2.2.1, hC.2.2.2.1, hC.2.2.2.2.1⟩ (hn V q H.size) ⟨va_cnB 0 hC.2.2.2.2.1 hG rfl rfl rfl hlink (lx_words hC hini) hd ⟨hf, hl⟩, hyn, lx_words hC him⟩
    ⟨fun a U g mk z => by obtain ⟨z0, z1, zP, zK, zD, zX⟩ := z; exact ⟨z0, z1, zP, va_K.moved (u := U) (U := U.calling g mk a) (Vm.Alike.refl U.vm) zK, zD, XE.go (u := U) (U := U.calling g mk a) (State.WarmedH.refl U) zX (fun _ _ _ => rfl) (fun _ h => h)⟩, fun U hU hW => ⟨rfl, by rw [hU], by rw [hU]; exact hPc, va_K.moved hW.alike hC.2.2.2.2.2.1, hDc.weaken (fun _ _ _ _ => trivial), XE.go hW hX (fun z z1 z2 => by rw [hU]; exact hS.2.1 z z1 z2) hFc⟩⟩
    rfl rfl (by show ls.size = nL; exact h4.1) rfl (by show 2 * 0 + _ ≤ 8; rw [show (rest.map fun v => v.category).sum = wdt rest from rfl]; omega) hdg ⟨hc, hs⟩) hS (fun z _ h => hFc z h) hFc (fun w1 t H1 locs1 ht hvm hw1 hB hz1 hk1 hS1 => ?_)
  obtain ⟨hP1, hD1⟩ := hB
  rw [ht] at hP1
  obtain ⟨hP2, hD2⟩ := va_join (wr := W0) (w1 := w1) hP hD [W0.length] (List.range W0.length) he (rg_app _ _) (by rw [List.range_eq_range']; exact nd_rg _ _) (fun i hi hi2 => by
    have h5 := List.mem_range.mp hi
    have h6 := List.mem_singleton.mp hi2
    omega) hk1 hFc hP1 hD1
  exact k w1 hw1 H1 locs1 ls hP2 hD2 hS1 h4
theorem nx_ws {ws1 : va_W} (h : ws = ws1) (k : NX X V A R nL Q pc lv st ws1 cells slots) : NX X V A R nL Q pc lv st ws cells slots := by rw [h]; exact k
end
set_option maxHeartbeats 8000000 in
set_option maxRecDepth 100000 in
theorem nc_X7 (l : Launch) (hX2 : NC l yX2_init (.code yX2_init cX2_init 1 none) 1 12 6 125 2 [.null] (fun V b w => ∃ (h : Nat) (i : Nat → Nat), w = htW V b h i)) : NC l yX7_init (.code yX7_init cX7_init 1 none) 3 54 118 1797 6 [.null, .null, .null, .null, .null, .null, .null, .int 0, .int 0, .int 0] (fun V b w => ∃ (e0 : Nat) (e1 : Nat) (e2 : Nat) (e3 : Nat) (e4 : Nat) (e5 : Nat) (e6 : Nat) (r : Nat) (t : Nat → Nat) (a : Nat → Nat → Nat) (y0 : Nat) (y1 : Nat) (y2 : Nat) (y3 : Nat) (y4 : Nat) (y5 : Nat) (y6 : Nat) (y7 : Nat) (z : Nat) (h : Nat) (i : Nat → Nat) (p0 : Nat) (p1 : Nat) (p2 : Nat) (u0 : Nat) (u1 : Nat), w = ([(b, .inr (6, [.ref e0, .ref e1, .ref e2, .ref e3, .ref e4, .ref e5, .ref e6, .int 0, .int (-1), .int (-1)]))] ++ hsW V e0 r t a ++ thW V e1 y0 y1 y2 y3 y4 y5 y6 y7 ++ ftW V e2 z ++ htW V e3 h i ++ pgW V e4 p0 p1 p2 ++ sbW V e5 u0 ++ sbW V e6 u1)) := by
  refine nc_of (by decide) rfl (by decide) (fun X V A b hxl hC hX hi hr => ?_)
  subst hxl
  refine nx_aload_n hC dX7_init_0 rfl 0 rfl ?_
  refine nx_init hC wd55 (by decide) (by decide) dX7_init_1 ?_
  refine nx_aload_n hC dX7_init_4 rfl 0 rfl ?_
  refine nx_new (ci := 3) (fs := [.null, .int 0, .int 0]) hC inX3 tyX3 tyX3_ok wd58 ck_X3 cj_X3 rfl (fun j hj => by rcases (show j = 0 ∨ j = 1 ∨ j = 2 by omega) with rfl | rfl | rfl <;> rfl) (by decide) (by decide) dX7_init_5 (fun e0 => ?_)
  refine nx_dup hC dX7_init_8 ?_
  refine nx_callN (W0 := ([(b, .inr (6, [.null, .null, .null, .null, .null, .null, .null, .int 0, .int 0, .int 0]))])) hC (nc_X3 (xl X)) cw_X3_init ci_X3_init wd60 cs_X3_init rfl cd_X3_init (by decide) (by decide) hX (Nat.le_of_ble_eq_true rfl) (by decide) (by decide) rfl dX7_init_9 (fun w9 hw9 => ?_)
  obtain ⟨r, t, a, rfl⟩ := hw9
  refine nx_putF (v := .ref e0) (ws := ([(b, .inr (6, [.null, .null, .null, .null, .null, .null, .null, .int 0, .int 0, .int 0]))] ++ hsW V e0 r t a)) hC hi inX7 tyX7 tyX7_ok nmX7 0 rfl rfl 0 (by decide) wd247 rfl rfl rfl rfl (Nat.le_of_ble_eq_true rfl) dX7_init_12 ?_
  refine nx_aload_n hC dX7_init_15 rfl 0 rfl ?_
  refine nx_new (ci := 5) (fs := [.null, .null, .null, .null, .int 0, .null, .null, .null, .null, .int 0, .int 0, .int 0, .int 0, .long 0, .long 0]) hC inX6 tyX6 tyX6_ok wd167 ck_X6 cj_X6 rfl (fun j hj => by rcases (show j = 0 ∨ j = 1 ∨ j = 2 ∨ j = 3 ∨ j = 4 ∨ j = 5 ∨ j = 6 ∨ j = 7 ∨ j = 8 ∨ j = 9 ∨ j = 10 ∨ j = 11 ∨ j = 12 ∨ j = 13 ∨ j = 14 by omega) with rfl | rfl | rfl | rfl | rfl | rfl | rfl | rfl | rfl | rfl | rfl | rfl | rfl | rfl | rfl <;> rfl) (by decide) (by decide) dX7_init_16 (fun e1 => ?_)
  refine nx_dup hC dX7_init_19 ?_
  refine nx_callN (W0 := ([(b, .inr (6, [.ref e0, .null, .null, .null, .null, .null, .null, .int 0, .int 0, .int 0]))] ++ hsW V e0 r t a)) hC (nc_X6 (xl X)) cw_X6_init ci_X6_init wd168 cs_X6_init rfl cd_X6_init (by decide) (by decide) hX (Nat.le_of_ble_eq_true rfl) (by decide) (by decide) rfl dX7_init_20 (fun w20 hw20 => ?_)
  obtain ⟨y0, y1, y2, y3, y4, y5, y6, y7, rfl⟩ := hw20
  refine nx_putF (v := .ref e1) (ws := ([(b, .inr (6, [.ref e0, .null, .null, .null, .null, .null, .null, .int 0, .int 0, .int 0]))] ++ hsW V e0 r t a ++ thW V e1 y0 y1 y2 y3 y4 y5 y6 y7)) hC hi inX7 tyX7 tyX7_ok nmX7 0 rfl rfl 1 (by decide) wd248 rfl rfl rfl rfl (Nat.le_of_ble_eq_true rfl) dX7_init_23 ?_
  refine nx_aload_n hC dX7_init_26 rfl 0 rfl ?_
  refine nx_new (ci := 1) (fs := [.null]) hC inX1 tyX1 tyX1_ok wd169 ck_X1 cj_X1 rfl (fun j hj => by rcases (show j = 0 by omega) with rfl <;> rfl) (by decide) (by decide) dX7_init_27 (fun e2 => ?_)
  refine nx_dup hC dX7_init_30 ?_
  refine nx_callP (W0 := ([(b, .inr (6, [.ref e0, .ref e1, .null, .null, .null, .null, .null, .int 0, .int 0, .int 0]))] ++ hsW V e0 r t a ++ thW V e1 y0 y1 y2 y3 y4 y5 y6 y7)) hC (nc_X1 (xl X)) cw_X1_init ci_X1_init (hX.2.2.1 (25, yX1_init) (by simp [nestL])) cs_X1_init rfl cd_X1_init (by decide) (by decide) hX (Nat.le_of_ble_eq_true rfl) (by decide) (by decide) rfl dX7_init_31 (fun w31 hw31 => ?_)
  obtain ⟨z, rfl⟩ := hw31
  refine nx_putF (v := .ref e2) (ws := ([(b, .inr (6, [.ref e0, .ref e1, .null, .null, .null, .null, .null, .int 0, .int 0, .int 0]))] ++ hsW V e0 r t a ++ thW V e1 y0 y1 y2 y3 y4 y5 y6 y7 ++ ftW V e2 z)) hC hi inX7 tyX7 tyX7_ok nmX7 0 rfl rfl 2 (by decide) wd249 rfl rfl rfl rfl (Nat.le_of_ble_eq_true rfl) dX7_init_34 ?_
  refine nx_aload_n hC dX7_init_37 rfl 0 rfl ?_
  refine nx_new (ci := 2) (fs := [.null]) hC inX2 tyX2 tyX2_ok wd179 ck_X2 cj_X2 rfl (fun j hj => by rcases (show j = 0 by omega) with rfl <;> rfl) (by decide) (by decide) dX7_init_38 (fun e3 => ?_)
  refine nx_dup hC dX7_init_41 ?_
  refine nx_callP (W0 := ([(b, .inr (6, [.ref e0, .ref e1, .ref e2, .null, .null, .null, .null, .int 0, .int 0, .int 0]))] ++ hsW V e0 r t a ++ thW V e1 y0 y1 y2 y3 y4 y5 y6 y7 ++ ftW V e2 z)) hC (hX2) cw_X2_init ci_X2_init (hX.2.2.1 (32, yX2_init) (by simp [nestL])) cs_X2_init rfl cd_X2_init (by decide) (by decide) hX (Nat.le_of_ble_eq_true rfl) (by decide) (by decide) rfl dX7_init_42 (fun w42 hw42 => ?_)
  obtain ⟨h, i, rfl⟩ := hw42
  refine nx_putF (v := .ref e3) (ws := ([(b, .inr (6, [.ref e0, .ref e1, .ref e2, .null, .null, .null, .null, .int 0, .int 0, .int 0]))] ++ hsW V e0 r t a ++ thW V e1 y0 y1 y2 y3 y4 y5 y6 y7 ++ ftW V e2 z ++ htW V e3 h i)) hC hi inX7 tyX7 tyX7_ok nmX7 0 rfl rfl 3 (by decide) wd250 rfl rfl rfl rfl (Nat.le_of_ble_eq_true rfl) dX7_init_45 ?_
  refine nx_aload_n hC dX7_init_48 rfl 0 rfl ?_
  refine nx_new (ci := 4) (fs := [.null, .null, .null, .int 0, .int 0]) hC inX4 tyX4 tyX4_ok wd191 ck_X4 cj_X4 rfl (fun j hj => by rcases (show j = 0 ∨ j = 1 ∨ j = 2 ∨ j = 3 ∨ j = 4 by omega) with rfl | rfl | rfl | rfl | rfl <;> rfl) (by decide) (by decide) dX7_init_49 (fun e4 => ?_)
  refine nx_dup hC dX7_init_52 ?_
  refine nx_callP (W0 := ([(b, .inr (6, [.ref e0, .ref e1, .ref e2, .ref e3, .null, .null, .null, .int 0, .int 0, .int 0]))] ++ hsW V e0 r t a ++ thW V e1 y0 y1 y2 y3 y4 y5 y6 y7 ++ ftW V e2 z ++ htW V e3 h i)) hC (nc_X4 (xl X)) cw_X4_init ci_X4_init (hX.2.2.1 (39, yX4_init) (by simp [nestL])) cs_X4_init rfl cd_X4_init (by decide) (by decide) hX (Nat.le_of_ble_eq_true rfl) (by decide) (by decide) rfl dX7_init_53 (fun w53 hw53 => ?_)
  obtain ⟨p0, p1, p2, rfl⟩ := hw53
  refine nx_putF (v := .ref e4) (ws := ([(b, .inr (6, [.ref e0, .ref e1, .ref e2, .ref e3, .null, .null, .null, .int 0, .int 0, .int 0]))] ++ hsW V e0 r t a ++ thW V e1 y0 y1 y2 y3 y4 y5 y6 y7 ++ ftW V e2 z ++ htW V e3 h i ++ pgW V e4 p0 p1 p2)) hC hi inX7 tyX7 tyX7_ok nmX7 0 rfl rfl 4 (by decide) wd251 rfl rfl rfl rfl (Nat.le_of_ble_eq_true rfl) dX7_init_56 ?_
  refine nx_aload_n hC dX7_init_59 rfl 0 rfl ?_
  refine nx_new (ci := 0) (fs := [.null, .int 0, .int 0, .int 0]) hC inJ4 tyJ4 tyJ4_ok wd214 ck_J4 cj_J4 rfl (fun j hj => by rcases (show j = 0 ∨ j = 1 ∨ j = 2 ∨ j = 3 by omega) with rfl | rfl | rfl | rfl <;> rfl) (by decide) (by decide) dX7_init_60 (fun e5 => ?_)
  refine nx_dup hC dX7_init_63 ?_
  refine nx_callN (W0 := ([(b, .inr (6, [.ref e0, .ref e1, .ref e2, .ref e3, .ref e4, .null, .null, .int 0, .int 0, .int 0]))] ++ hsW V e0 r t a ++ thW V e1 y0 y1 y2 y3 y4 y5 y6 y7 ++ ftW V e2 z ++ htW V e3 h i ++ pgW V e4 p0 p1 p2)) hC (nc_J4 (xl X)) cw_J4_init ci_J4_init wd216 cs_J4_init rfl cd_J4_init_da8c8 (by decide) (by decide) hX (Nat.le_of_ble_eq_true rfl) (by decide) (by decide) rfl dX7_init_64 (fun w64 hw64 => ?_)
  obtain ⟨u0, rfl⟩ := hw64
  refine nx_putF (v := .ref e5) (ws := ([(b, .inr (6, [.ref e0, .ref e1, .ref e2, .ref e3, .ref e4, .null, .null, .int 0, .int 0, .int 0]))] ++ hsW V e0 r t a ++ thW V e1 y0 y1 y2 y3 y4 y5 y6 y7 ++ ftW V e2 z ++ htW V e3 h i ++ pgW V e4 p0 p1 p2 ++ sbW V e5 u0)) hC hi inX7 tyX7 tyX7_ok nmX7 0 rfl rfl 5 (by decide) wd252 rfl rfl rfl rfl (Nat.le_of_ble_eq_true rfl) dX7_init_67 ?_
  refine nx_aload_n hC dX7_init_70 rfl 0 rfl ?_
  refine nx_new (ci := 0) (fs := [.null, .int 0, .int 0, .int 0]) hC inJ4 tyJ4 tyJ4_ok wd214 ck_J4 cj_J4 rfl (fun j hj => by rcases (show j = 0 ∨ j = 1 ∨ j = 2 ∨ j = 3 by omega) with rfl | rfl | rfl | rfl <;> rfl) (by decide) (by decide) dX7_init_71 (fun e6 => ?_)
  refine nx_dup hC dX7_init_74 ?_
  refine nx_callN (W0 := ([(b, .inr (6, [.ref e0, .ref e1, .ref e2, .ref e3, .ref e4, .ref e5, .null, .int 0, .int 0, .int 0]))] ++ hsW V e0 r t a ++ thW V e1 y0 y1 y2 y3 y4 y5 y6 y7 ++ ftW V e2 z ++ htW V e3 h i ++ pgW V e4 p0 p1 p2 ++ sbW V e5 u0)) hC (nc_J4 (xl X)) cw_J4_init ci_J4_init wd216 cs_J4_init rfl cd_J4_init_da8c8 (by decide) (by decide) hX (Nat.le_of_ble_eq_true rfl) (by decide) (by decide) rfl dX7_init_75 (fun w75 hw75 => ?_)
  obtain ⟨u1, rfl⟩ := hw75
  refine nx_putF (v := .ref e6) (ws := ([(b, .inr (6, [.ref e0, .ref e1, .ref e2, .ref e3, .ref e4, .ref e5, .null, .int 0, .int 0, .int 0]))] ++ hsW V e0 r t a ++ thW V e1 y0 y1 y2 y3 y4 y5 y6 y7 ++ ftW V e2 z ++ htW V e3 h i ++ pgW V e4 p0 p1 p2 ++ sbW V e5 u0 ++ sbW V e6 u1)) hC hi inX7 tyX7 tyX7_ok nmX7 0 rfl rfl 6 (by decide) wd253 rfl rfl rfl rfl (Nat.le_of_ble_eq_true rfl) dX7_init_78 ?_
  refine nx_aload_n hC dX7_init_81 rfl 0 rfl ?_
  refine nx_iconst (v := 0) hC dX7_init_82 (by decide) ?_
  refine nx_put (v := .int 0) (ws := ([(b, .inr (6, [.ref e0, .ref e1, .ref e2, .ref e3, .ref e4, .ref e5, .ref e6, .int 0, .int 0, .int 0]))] ++ hsW V e0 r t a ++ thW V e1 y0 y1 y2 y3 y4 y5 y6 y7 ++ ftW V e2 z ++ htW V e3 h i ++ pgW V e4 p0 p1 p2 ++ sbW V e5 u0 ++ sbW V e6 u1)) hC inX7 tyX7 tyX7_ok nmX7 0 rfl rfl 7 (by decide) wd254 rfl rfl rfl (Nat.le_of_ble_eq_true rfl) dX7_init_83 ?_
  refine nx_aload_n hC dX7_init_86 rfl 0 rfl ?_
  refine nx_iconst (v := -1) hC dX7_init_87 (by decide) ?_
  refine nx_put (v := .int (-1)) (ws := ([(b, .inr (6, [.ref e0, .ref e1, .ref e2, .ref e3, .ref e4, .ref e5, .ref e6, .int 0, .int 0, .int 0]))] ++ hsW V e0 r t a ++ thW V e1 y0 y1 y2 y3 y4 y5 y6 y7 ++ ftW V e2 z ++ htW V e3 h i ++ pgW V e4 p0 p1 p2 ++ sbW V e5 u0 ++ sbW V e6 u1)) hC inX7 tyX7 tyX7_ok nmX7 0 rfl rfl 8 (by decide) wd255 rfl rfl rfl (Nat.le_of_ble_eq_true rfl) dX7_init_88 ?_
  refine nx_aload_n hC dX7_init_91 rfl 0 rfl ?_
  refine nx_iconst (v := -1) hC dX7_init_92 (by decide) ?_
  refine nx_put (v := .int (-1)) (ws := ([(b, .inr (6, [.ref e0, .ref e1, .ref e2, .ref e3, .ref e4, .ref e5, .ref e6, .int 0, .int (-1), .int 0]))] ++ hsW V e0 r t a ++ thW V e1 y0 y1 y2 y3 y4 y5 y6 y7 ++ ftW V e2 z ++ htW V e3 h i ++ pgW V e4 p0 p1 p2 ++ sbW V e5 u0 ++ sbW V e6 u1)) hC inX7 tyX7 tyX7_ok nmX7 0 rfl rfl 9 (by decide) wd256 rfl rfl rfl (Nat.le_of_ble_eq_true rfl) dX7_init_93 ?_
  refine nx_ws (ws1 := ([(b, .inr (6, [.ref e0, .ref e1, .ref e2, .ref e3, .ref e4, .ref e5, .ref e6, .int 0, .int (-1), .int (-1)]))] ++ hsW V e0 r t a ++ thW V e1 y0 y1 y2 y3 y4 y5 y6 y7 ++ ftW V e2 z ++ htW V e3 h i ++ pgW V e4 p0 p1 p2 ++ sbW V e5 u0 ++ sbW V e6 u1)) rfl ?_
  exact nx_ret hC hr ⟨e0, e1, e2, e3, e4, e5, e6, r, t, a, y0, y1, y2, y3, y4, y5, y6, y7, z, h, i, p0, p1, p2, u0, u1, rfl⟩ (by decide) (by decide) dX7_init_96
