/-! ===== the law up to its loop ===== -/
theorem cw_X7_init : Cond.code yX7_init cX7_init 1 none ∈ gw := gwt1 (List.mem_of_getElem? (i := 34) rfl) (by decide +kernel)
theorem ci_X7_init : Cond.initialized yX7_init.cls ∈ gw := gwt1 (List.mem_of_getElem? (i := 1) rfl) (by decide +kernel)
theorem cs_X7_init : Cond.instanceMethod yX7_init ∈ gw := gwt1 (List.mem_of_getElem? (i := 33) rfl) (by decide +kernel)
theorem ck_X7 : Cond.instantiable RX7 10 ∈ gw := gwt1 (List.mem_of_getElem? (i := 31) rfl) (by decide +kernel)
theorem cj_X7 : Cond.initialized RX7 ∈ gw := gwt1 (List.mem_of_getElem? (i := 1) rfl) (by decide +kernel)
theorem cd_X7_init : yX7_init.cls ≠ "java/lang/invoke/MethodHandle" ∧ yX7_init.cls ≠ "java/lang/invoke/VarHandle" ∧ (parseMethodDescriptor yX7_init.desc).map (fun d => d.parameters.length) = some 0 := ⟨by decide, by decide, by decide +kernel⟩
theorem wd50 : Cond.classLink RL 8 RX7 ∈ gw := gwt1 (List.mem_of_getElem? (i := 30) rfl) (by decide +kernel)
theorem wd52 : Cond.methodLink RL 366 yX7_init ∈ gw := gwt1 (List.mem_of_getElem? (i := 32) rfl) (by decide +kernel)
section
variable {X : Cx} {V : Vx} {A : Nat → Prop} {R : Room} {Q : State → Prop} {pc : Nat} {lv : List (Nat × Value)} {rest st : List Value} {ws : va_W} {cells slots : Nat} {own : String} {cc : ByteArray} {nL : Nat}
theorem nx_astore_n (hC : Cok X V A own cc nL) {j : Fin 4} {i x : Nat} (hdg : decode cc pc = .ok (.astore_n j, 1)) (hi : (j : Nat) = i) (hn : i < nL) (k : NX X V A R nL Q (pc + 1) ((i, .ref x) :: lv.filter (fun q => !(q.1 == i) && !(q.1 + 1 == i && q.2.category == 2))) rest ws cells slots) : NX X V A R nL Q pc lv (.ref x :: rest) ws cells slots :=
  fun H locs ls h1 h2 h3 h4 => lv_astore_n hC.1 hC.2.1 hdg hi h4 hn rfl (fun ls' hl' => k H locs ls' h1 h2 h3 hl')
theorem nx_astore (hC : Cok X V A own cc nL) {i x : Nat} (hdg : decode cc pc = .ok (.astore i, 2)) (hn : i < nL) (k : NX X V A R nL Q (pc + 2) ((i, .ref x) :: lv.filter (fun q => !(q.1 == i) && !(q.1 + 1 == i && q.2.category == 2))) rest ws cells slots) : NX X V A R nL Q pc lv (.ref x :: rest) ws cells slots :=
  fun H locs ls h1 h2 h3 h4 => lv_astore hC.1 hC.2.1 hdg h4 hn rfl (fun ls' hl' => k H locs ls' h1 h2 h3 hl')
theorem nx_istore (hC : Cok X V A own cc nL) {i : Nat} {x : Int32} (hdg : decode cc pc = .ok (.istore i, 2)) (hn : i < nL) (k : NX X V A R nL Q (pc + 2) ((i, .int x) :: lv.filter (fun q => !(q.1 == i) && !(q.1 + 1 == i && q.2.category == 2))) rest ws cells slots) : NX X V A R nL Q pc lv (.int x :: rest) ws cells slots :=
  fun H locs ls h1 h2 h3 h4 => lv_istore hC.1 hC.2.1 hdg h4 hn rfl (fun ls' hl' => k H locs ls' h1 h2 h3 hl')
theorem nx_sub (ks : List Nat) {lv' : List (Nat × Value)} (hl : lv_pick lv ks = lv') (k : NX X V A R nL Q pc lv' st ws cells slots) : NX X V A R nL Q pc lv st ws cells slots :=
  fun H locs ls h1 h2 h3 h4 => k H locs ls h1 h2 h3 (lv_sub h4 ks hl)
end
/-- the law up to its loop: the world that it makes -/
def loW (V : Vx) (x : Nat) (e0 : Nat) (e1 : Nat) (e2 : Nat) (e3 : Nat) (e4 : Nat) (e5 : Nat) (e6 : Nat) (r : Nat) (t : Nat → Nat) (a : Nat → Nat → Nat) (y0 : Nat) (y1 : Nat) (y2 : Nat) (y3 : Nat) (y4 : Nat) (y5 : Nat) (y6 : Nat) (y7 : Nat) (z : Nat) (h : Nat) (i : Nat → Nat) (p0 : Nat) (p1 : Nat) (p2 : Nat) (u0 : Nat) (u1 : Nat) : va_W := (([(x, .inr (6, [.ref e0, .ref e1, .ref e2, .ref e3, .ref e4, .ref e5, .ref e6, .int 0, .int (-1), .int (-1)]))] ++ hsW V e0 r t a ++ thW V e1 y0 y1 y2 y3 y4 y5 y6 y7 ++ ftW V e2 z ++ htW V e3 h i ++ pgW V e4 p0 p1 p2 ++ sbW V e5 u0 ++ sbW V e6 u1))
set_option maxHeartbeats 8000000 in
set_option maxRecDepth 100000 in
theorem lw_head {X : Cx} {V : Vx} {A : Nat → Prop} {Q : State → Prop} {b : Nat} (hX2 : NC (xl X) yX2_init (.code yX2_init cX2_init 1 none) 1 12 6 125 2 [.null] (fun V b w => ∃ (h : Nat) (i : Nat → Nat), w = htW V b h i)) (hC : Cok X V A RL cL_law 13) (hX : XE V A (xs X) (xs X).heap)
    (k : ∀ (x : Nat) (e0 : Nat) (e1 : Nat) (e2 : Nat) (e3 : Nat) (e4 : Nat) (e5 : Nat) (e6 : Nat) (r : Nat) (t : Nat → Nat) (a : Nat → Nat → Nat) (y0 : Nat) (y1 : Nat) (y2 : Nat) (y3 : Nat) (y4 : Nat) (y5 : Nat) (y6 : Nat) (y7 : Nat) (z : Nat) (h : Nat) (i : Nat → Nat) (p0 : Nat) (p1 : Nat) (p2 : Nat) (u0 : Nat) (u1 : Nat), NX X V A room_1 13 Q 8 [(1, .ref x), (0, .ref b)] [] (loW V x e0 e1 e2 e3 e4 e5 e6 r t a y0 y1 y2 y3 y4 y5 y6 y7 z h i p0 p1 p2 u0 u1) 119 1807) : NX X V A room_1 13 Q 0 [(0, .ref b)] [] [] 0 0 := by
  refine nx_new (ci := 6) (fs := [.null, .null, .null, .null, .null, .null, .null, .int 0, .int 0, .int 0]) hC inX7 tyX7 tyX7_ok wd50 ck_X7 cj_X7 rfl (fun j hj => by rcases (show j = 0 ∨ j = 1 ∨ j = 2 ∨ j = 3 ∨ j = 4 ∨ j = 5 ∨ j = 6 ∨ j = 7 ∨ j = 8 ∨ j = 9 by omega) with rfl | rfl | rfl | rfl | rfl | rfl | rfl | rfl | rfl | rfl <;> rfl) (by decide) (by decide) dL_law_0 (fun x => ?_)
  refine nx_dup hC dL_law_3 ?_
  refine nx_callN (W0 := []) hC (nc_X7 (xl X) hX2) cw_X7_init ci_X7_init wd52 cs_X7_init rfl cd_X7_init (by decide) (by decide) hX (Nat.le_of_ble_eq_true rfl) (by decide) (by decide) rfl dL_law_4 (fun w1 hw1 => ?_)
  obtain ⟨e0, e1, e2, e3, e4, e5, e6, r, t, a, y0, y1, y2, y3, y4, y5, y6, y7, z, h, i, p0, p1, p2, u0, u1, rfl⟩ := hw1
  refine nx_astore_n hC dL_law_7 rfl (by decide) ?_
  refine nx_ws (ws1 := loW V x e0 e1 e2 e3 e4 e5 e6 r t a y0 y1 y2 y3 y4 y5 y6 y7 z h i p0 p1 p2 u0 u1) rfl ?_
  exact nx_sub [0, 1] rfl (k x e0 e1 e2 e3 e4 e5 e6 r t a y0 y1 y2 y3 y4 y5 y6 y7 z h i p0 p1 p2 u0 u1)
