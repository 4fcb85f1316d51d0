/-! ===== the law up to its loop ===== -/
theorem cw_X7_init : Cond.code yX7_init cX7_init 1 none ∈ gw := gwt1 (List.mem_of_getElem? (i := 36) rfl) (by decide +kernel)
theorem ci_X7_init : Cond.initialized yX7_init.cls ∈ gw := gwt1 (List.mem_of_getElem? (i := 1) rfl) (by decide +kernel)
theorem cs_X7_init : Cond.instanceMethod yX7_init ∈ gw := gwt1 (List.mem_of_getElem? (i := 35) rfl) (by decide +kernel)
theorem ck_X7 : Cond.instantiable RX7 10 ∈ gw := gwt1 (List.mem_of_getElem? (i := 33) rfl) (by decide +kernel)
theorem cj_X7 : Cond.initialized RX7 ∈ gw := gwt1 (List.mem_of_getElem? (i := 1) rfl) (by decide +kernel)
theorem cd_X7_init : yX7_init.cls ≠ "java/lang/invoke/MethodHandle" ∧ yX7_init.cls ≠ "java/lang/invoke/VarHandle" ∧ (parseMethodDescriptor yX7_init.desc).map (fun d => d.parameters.length) = some 0 := ⟨by decide, by decide, by decide +kernel⟩
theorem cw_X8_init : Cond.code yX8_init cX8_init 1 none ∈ gw := gwt7 (List.mem_of_getElem? (i := 76) rfl) (by decide +kernel)
theorem ci_X8_init : Cond.initialized yX8_init.cls ∈ gw := gwt1 (List.mem_of_getElem? (i := 11) rfl) (by decide +kernel)
theorem cs_X8_init : Cond.instanceMethod yX8_init ∈ gw := gwt7 (List.mem_of_getElem? (i := 75) rfl) (by decide +kernel)
theorem ck_X8 : Cond.instantiable RX8 18 ∈ gw := gwt7 (List.mem_of_getElem? (i := 73) rfl) (by decide +kernel)
theorem cj_X8 : Cond.initialized RX8 ∈ gw := gwt1 (List.mem_of_getElem? (i := 11) rfl) (by decide +kernel)
theorem cd_X8_init : yX8_init.cls ≠ "java/lang/invoke/MethodHandle" ∧ yX8_init.cls ≠ "java/lang/invoke/VarHandle" ∧ (parseMethodDescriptor yX8_init.desc).map (fun d => d.parameters.length) = some 0 := ⟨by decide, by decide, by decide +kernel⟩
theorem wd119 : Cond.classLink RL 8 RX7 ∈ gw := gwt1 (List.mem_of_getElem? (i := 32) rfl) (by decide +kernel)
theorem wd1599 : Cond.classLink RL 180 RX8 ∈ gw := gwt7 (List.mem_of_getElem? (i := 72) rfl) (by decide +kernel)
theorem wd121 : Cond.methodLink RL 179 yX7_init ∈ gw := gwt1 (List.mem_of_getElem? (i := 34) rfl) (by decide +kernel)
theorem wd1601 : Cond.methodLink RL 182 yX8_init ∈ gw := gwt7 (List.mem_of_getElem? (i := 74) rfl) (by decide +kernel)
section
variable {X : Cx} {V : Vx} {A : Nat → Prop} {R : Room} {Q : State → Prop} {pc : Nat} {lv : List (Nat × Value)} {rest st : List Value} {ws : va_W} {cells slots : Nat} {own : String} {cc : ByteArray} {nL : Nat}
theorem nx_astore_n (hC : Cok X V A own cc nL) {j : Fin 4} {i x : Nat} (hdg : decode cc pc = .ok (.astore_n j, 1)) (hi : (j : Nat) = i) (hn : i < nL) (k : NX X V A R nL Q (pc + 1) ((i, .ref x) :: lv.filter (fun q => !(q.1 == i) && !(q.1 + 1 == i && q.2.category == 2))) rest ws cells slots) : NX X V A R nL Q pc lv (.ref x :: rest) ws cells slots :=
  fun H locs ls h1 h2 h3 h4 => lv_astore_n hC.1 hC.2.1 hdg hi h4 hn rfl (fun ls' hl' => k H locs ls' h1 h2 h3 hl')
theorem nx_astore (hC : Cok X V A own cc nL) {i x : Nat} (hdg : decode cc pc = .ok (.astore i, 2)) (hn : i < nL) (k : NX X V A R nL Q (pc + 2) ((i, .ref x) :: lv.filter (fun q => !(q.1 == i) && !(q.1 + 1 == i && q.2.category == 2))) rest ws cells slots) : NX X V A R nL Q pc lv (.ref x :: rest) ws cells slots :=
  fun H locs ls h1 h2 h3 h4 => lv_astore hC.1 hC.2.1 hdg h4 hn rfl (fun ls' hl' => k H locs ls' h1 h2 h3 hl')
theorem nx_istore (hC : Cok X V A own cc nL) {i : Nat} {x : Int32} (hdg : decode cc pc = .ok (.istore i, 2)) (hn : i < nL) (k : NX X V A R nL Q (pc + 2) ((i, .int x) :: lv.filter (fun q => !(q.1 == i) && !(q.1 + 1 == i && q.2.category == 2))) rest ws cells slots) : NX X V A R nL Q pc lv (.int x :: rest) ws cells slots :=
  fun H locs ls h1 h2 h3 h4 => lv_istore hC.1 hC.2.1 hdg h4 hn rfl (fun ls' hl' => k H locs ls' h1 h2 h3 hl')
theorem nx_sub (ks : List Nat) {lv' : List (Nat × Value)} (hl : lv_pick lv ks = lv') (k : NX X V A R nL Q pc lv' st ws cells slots) : NX X V A R nL Q pc lv st ws cells slots :=
  fun H locs ls h1 h2 h3 h4 => k H locs ls h1 h2 h3 (lv_sub h4 ks hl)
end
/-- the law up to its loop: the world that it makes -/
def loW (V : Vx) (x : Nat) (e0 : Nat) (e1 : Nat) (e2 : Nat) (e3 : Nat) (e4 : Nat) (e5 : Nat) (e6 : Nat) (r : Nat) (t : Nat → Nat) (a : Nat → Nat → Nat) (y0 : Nat) (y1 : Nat) (y2 : Nat) (y3 : Nat) (y4 : Nat) (y5 : Nat) (y6 : Nat) (y7 : Nat) (z : Nat) (h : Nat) (i : Nat → Nat) (p0 : Nat) (p1 : Nat) (p2 : Nat) (u0 : Nat) (u1 : Nat) (m : Nat) (g0 : Nat) (g1 : Nat) (g2 : Nat) (g3 : Nat) (g4 : Nat) (g5 : Nat) (g6 : Nat) (o : Nat) (u : Nat) : va_W := ([(x, .inr (6, [.ref e0, .ref e1, .ref e2, .ref e3, .ref e4, .ref e5, .ref e6, .int 0, .int (-1), .int (-1)]))] ++ hsW V e0 r t a ++ thW V e1 y0 y1 y2 y3 y4 y5 y6 y7 ++ ftW V e2 z ++ htW V e3 h i ++ pgW V e4 p0 p1 p2 ++ sbW V e5 u0 ++ sbW V e6 u1 ++ [(m, .inr (7, [.int 0, .ref g0, .ref g1, .ref g2, .ref g3, .int 0, .int 0, .int 0, .ref g4, .int 0, .ref g5, .int 0, .int 0, .int (-1), .int (-1), .ref g6, .int 0, .int 0])), (g0, .inl (V.2.1 0, (135, .inl (fun _ => 0)))), (g1, .inl (V.2.1 0, (1080, .inl (fun _ => 0)))), (g2, .inl (V.2.1 0, (135, .inl (fun _ => 0)))), (g3, .inl (V.2.1 0, (135, .inl (fun _ => 0)))), (g4, .inl (V.2.1 2, (360, .inl (fun _ => 0)))), (g5, .inl (V.2.1 2, (60, .inl (fun _ => 0)))), (g6, .inl (V.2.1 0, (2, .inl (fun _ => 0))))] ++ [(o, .inl (V.2.1 4, (1, .inr (.inl (fun _ => 0)))))] ++ [(u, .inl (V.2.1 5, (1, .inr (.inr (.inr (.inl (fun _ => 0)))))))])
set_option maxHeartbeats 8000000 in
set_option maxRecDepth 100000 in
theorem lw_head {X : Cx} {V : Vx} {A : Nat → Prop} {Q : State → Prop} {b : Nat} (hX2 : NC (xl X) yX2_init (.code yX2_init cX2_init 1 none) 1 12 6 125 2 [.null] (fun V b w => ∃ (h : Nat) (i : Nat → Nat), w = htW V b h i)) (hC : Cok X V A RL cL_law 9) (hX : XE V A (xs X) (xs X).heap)
    (k : ∀ (x : Nat) (e0 : Nat) (e1 : Nat) (e2 : Nat) (e3 : Nat) (e4 : Nat) (e5 : Nat) (e6 : Nat) (r : Nat) (t : Nat → Nat) (a : Nat → Nat → Nat) (y0 : Nat) (y1 : Nat) (y2 : Nat) (y3 : Nat) (y4 : Nat) (y5 : Nat) (y6 : Nat) (y7 : Nat) (z : Nat) (h : Nat) (i : Nat → Nat) (p0 : Nat) (p1 : Nat) (p2 : Nat) (u0 : Nat) (u1 : Nat) (m : Nat) (g0 : Nat) (g1 : Nat) (g2 : Nat) (g3 : Nat) (g4 : Nat) (g5 : Nat) (g6 : Nat) (o : Nat) (u : Nat), NX X V A room_1 9 Q 28 [(0, .ref b), (1, .ref x), (2, .ref m), (3, .ref o), (4, .ref u), (5, .int 0)] [] (loW V x e0 e1 e2 e3 e4 e5 e6 r t a y0 y1 y2 y3 y4 y5 y6 y7 z h i p0 p1 p2 u0 u1 m g0 g1 g2 g3 g4 g5 g6 o u) 129 3734) : NX X V A room_1 9 Q 0 [(0, .ref b)] [] [] 0 0 := by
  refine nx_new (ci := 6) (fs := [.null, .null, .null, .null, .null, .null, .null, .int 0, .int 0, .int 0]) hC inX7 tyX7 tyX7_ok wd119 ck_X7 cj_X7 rfl (fun j hj => by rcases (show j = 0 ∨ j = 1 ∨ j = 2 ∨ j = 3 ∨ j = 4 ∨ j = 5 ∨ j = 6 ∨ j = 7 ∨ j = 8 ∨ j = 9 by omega) with rfl | rfl | rfl | rfl | rfl | rfl | rfl | rfl | rfl | rfl <;> rfl) (by decide) (by decide) dL_law_0 (fun x => ?_)
  refine nx_dup hC dL_law_3 ?_
  refine nx_callN (W0 := []) hC (nc_X7 (xl X) hX2) cw_X7_init ci_X7_init wd121 cs_X7_init rfl cd_X7_init (by decide) (by decide) hX (Nat.le_of_ble_eq_true rfl) (by decide) (by decide) rfl dL_law_4 (fun w1 hw1 => ?_)
  obtain ⟨e0, e1, e2, e3, e4, e5, e6, r, t, a, y0, y1, y2, y3, y4, y5, y6, y7, z, h, i, p0, p1, p2, u0, u1, rfl⟩ := hw1
  refine nx_astore_n hC dL_law_7 rfl (by decide) ?_
  refine nx_new (ci := 7) (fs := [.int 0, .null, .null, .null, .null, .int 0, .int 0, .int 0, .null, .int 0, .null, .int 0, .int 0, .int 0, .int 0, .null, .int 0, .int 0]) hC inX8 tyX8 tyX8_ok wd1599 ck_X8 cj_X8 rfl (fun j hj => by rcases (show j = 0 ∨ j = 1 ∨ j = 2 ∨ j = 3 ∨ j = 4 ∨ j = 5 ∨ j = 6 ∨ j = 7 ∨ j = 8 ∨ j = 9 ∨ j = 10 ∨ j = 11 ∨ j = 12 ∨ j = 13 ∨ j = 14 ∨ j = 15 ∨ j = 16 ∨ j = 17 by omega) with rfl | rfl | rfl | rfl | rfl | rfl | rfl | rfl | rfl | rfl | rfl | rfl | rfl | rfl | rfl | rfl | rfl | rfl <;> rfl) (by decide) (by decide) dL_law_8 (fun m => ?_)
  refine nx_dup hC dL_law_11 ?_
  refine nx_callN (W0 := ([(x, .inr (6, [.ref e0, .ref e1, .ref e2, .ref e3, .ref e4, .ref e5, .ref e6, .int 0, .int (-1), .int (-1)]))] ++ hsW V e0 r t a ++ thW V e1 y0 y1 y2 y3 y4 y5 y6 y7 ++ ftW V e2 z ++ htW V e3 h i ++ pgW V e4 p0 p1 p2 ++ sbW V e5 u0 ++ sbW V e6 u1)) hC (nc_X8 (xl X)) cw_X8_init ci_X8_init wd1601 cs_X8_init rfl cd_X8_init (by decide) (by decide) hX (Nat.le_of_ble_eq_true rfl) (by decide) (by decide) rfl dL_law_12 (fun w2 hw2 => ?_)
  obtain ⟨g0, g1, g2, g3, g4, g5, g6, rfl⟩ := hw2
  refine nx_astore_n hC dL_law_15 rfl (by decide) ?_
  refine nx_iconst (v := 1) hC dL_law_16 (by decide) ?_
  refine nx_newa (a0 := (1, .inr (.inl (fun _ => 0)))) (N := 1) hC 4 rfl rfl (fun C h => by cases h) gwA_long (fun _ => rfl) (by decide) (by decide) (by decide) (by decide) (by decide) dL_law_17 (fun o => ?_)
  refine nx_astore_n hC dL_law_19 rfl (by decide) ?_
  refine nx_iconst (v := 1) hC dL_law_20 (by decide) ?_
  refine nx_newa (a0 := (1, .inr (.inr (.inr (.inl (fun _ => 0)))))) (N := 1) hC 5 rfl rfl (fun C h => by cases h) gwA_double (fun _ => rfl) (by decide) (by decide) (by decide) (by decide) (by decide) dL_law_21 (fun u => ?_)
  refine nx_astore hC dL_law_23 (by decide) ?_
  refine nx_iconst (v := 0) hC dL_law_25 (by decide) ?_
  refine nx_istore hC dL_law_26 (by decide) ?_
  refine nx_ws (ws1 := loW V x e0 e1 e2 e3 e4 e5 e6 r t a y0 y1 y2 y3 y4 y5 y6 y7 z h i p0 p1 p2 u0 u1 m g0 g1 g2 g3 g4 g5 g6 o u) rfl ?_
  exact nx_sub [5, 4, 3, 2, 1, 0] rfl (k x e0 e1 e2 e3 e4 e5 e6 r t a y0 y1 y2 y3 y4 y5 y6 y7 z h i p0 p1 p2 u0 u1 m g0 g1 g2 g3 g4 g5 g6 o u)
