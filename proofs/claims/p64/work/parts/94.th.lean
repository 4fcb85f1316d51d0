/-! ===== Theatre.<init> ===== -/
theorem arrV_cg {cA : ClassId} {n : Nat} {f g : Nat → Value} (h : ∀ j, j < n → f j = g j) : arrV cA n f = arrV cA n g := by
  have e : (fun j : Fin n => f j.val) = fun j : Fin n => g j.val := funext fun j => h j.val j.isLt
  unfold arrV
  rw [e]
section
variable {X : Cx} {V : Vx} {A : Nat → Prop} {R : Room} {Q : State → Prop} {pc : Nat} {lv : List (Nat × Value)} {rest st : List Value} {ws : va_W} {cells slots : Nat} {own : String} {cc : ByteArray} {nL : Nat}
theorem nx_getf (hC : Cok X V A own cc nL) {C : String} {T : u_T} {N ci index : Nat} (hw : ∀ w ∈ u_ws C T N, w ∈ gw) (q0 : Nat) {a : Nat} {fs : List Value} (he : ws[q0]? = some (a, .inr (ci, fs))) (hc : clv[ci]? = some (C, T, N)) (k0 : Nat) (hk : k0 < N) (hlink : Cond.fieldLink own index (T k0).1 (T k0).2.1 (T k0).2.2.1 ∈ gw) {v : Value} (hv : fs[k0]? = some v) (hdg : decode cc pc = .ok (.getfield index, 3))
    (k : NX X V A R nL Q (pc + 3) lv (v :: rest) ws cells slots) : NX X V A R nL Q pc lv (.ref a :: rest) ws cells slots :=
  fun H locs ls h1 h2 h3 h4 => va_get hC.1 hC.2.1 hC.2.2.2.2.1 hw hC.2.2.2.1 hC.2.2.2.2.2.1 h1 q0 he hc k0 hk (lx_words hC hlink) (fun _ h => h) hv hdg (k H locs ls h1 h2 h3 h4)
theorem nx_cong (q0 : Nat) {a n : Nat} {cA : ClassId} {f g : Nat → Int32} (he : ws[q0]? = some (a, .inl (cA, n, .inl f))) (hfg : ∀ j, j < n → f j = g j) (k : NX X V A R nL Q pc lv st (ws.set q0 (a, .inl (cA, n, .inl g))) cells slots) : NX X V A R nL Q pc lv st ws cells slots := by
  intro H locs ls h1 h2 h3 h4
  refine k H locs ls (h1.set h2 he ?_ (fun _ _ => rfl)) (h2.set he) h3 h4
  have h := h1 q0 _ he
  have h : H[a]? = some (vp_cell cA (n, .inl f)) := h
  show H[a]? = some (vp_cell cA (n, .inl g))
  rw [h, vp_cell_i, vp_cell_i, arrV_cg (fun j hj => by rw [hfg j hj])]
end
theorem wd70 : Cond.methodLink RX6 3 Lib.objectInit ∈ gw := gwt1 (List.mem_of_getElem? (i := 50) rfl) (by decide +kernel)
/-- a theatre in a world: the object and its arrays -/
def thW (V : Vx) (b q0 q1 q2 q3 q4 q5 q6 q7 : Nat) : va_W := [(b, .inr (5, [.ref q0, .ref q1, .ref q2, .ref q3, .int 0, .ref q4, .ref q5, .ref q6, .ref q7, .int 0, .int 0, .int 0, .int 0, .long 0, .long 0])), (q0, .inl (V.2.1 0, (8, .inl (fun _ => 0)))), (q1, .inl (V.2.1 0, (8, .inl (fun _ => 0)))), (q2, .inl (V.2.1 1, (8, .inl (fun _ => 0)))), (q3, .inl (V.2.1 0, (8, .inl (fun _ => -1)))), (q4, .inl (V.2.1 0, (24, .inl (fun _ => 0)))), (q5, .inl (V.2.1 0, (24, .inl (fun _ => 0)))), (q6, .inl (V.2.1 0, (24, .inl (fun _ => 0)))), (q7, .inl (V.2.1 0, (24, .inl (fun _ => 0))))]
set_option maxHeartbeats 4000000 in
theorem nc_X6 (l : Launch) : NC l yX6_init (.code yX6_init cX6_init 2 none) 1 12 8 128 5 [.null, .null, .null, .null, .int 0, .null, .null, .null, .null, .int 0, .int 0, .int 0, .int 0, .long 0, .long 0] (fun V b w => ∃ q0 q1 q2 q3 q4 q5 q6 q7 : Nat, w = thW V b q0 q1 q2 q3 q4 q5 q6 q7) := by
  refine nc_of (by decide) rfl (by decide) (fun X V A b hxl hC hX hi hr => ?_)
  refine nx_aload_n hC dX6_init_0 rfl 0 rfl ?_
  refine nx_init hC wd70 (by decide) (by decide) dX6_init_1 ?_
  refine nx_aload_n hC dX6_init_4 rfl 0 rfl ?_
  refine nx_bipush (v := 8) hC dX6_init_5 (by decide) ?_
  refine nx_newa (a0 := (8, .inl (fun _ => 0))) (N := 8) hC 0 rfl rfl (fun C h => by cases h) gwA_int (fun _ => rfl) (by decide) (by decide) (by decide) (by decide) (by decide) dX6_init_7 (fun q0 => ?_)
  refine nx_putF (ws := [(b, .inr (5, [.null, .null, .null, .null, .int 0, .null, .null, .null, .null, .int 0, .int 0, .int 0, .int 0, .long 0, .long 0])), (q0, .inl (V.2.1 0, (8, .inl (fun _ => 0))))]) hC hi inX6 tyX6 tyX6_ok nmX6 0 rfl rfl 0 (by decide) wd71 rfl rfl rfl rfl (Nat.le_of_ble_eq_true rfl) dX6_init_9 ?_
  refine nx_aload_n hC dX6_init_12 rfl 0 rfl ?_
  refine nx_bipush (v := 8) hC dX6_init_13 (by decide) ?_
  refine nx_newa (a0 := (8, .inl (fun _ => 0))) (N := 8) hC 0 rfl rfl (fun C h => by cases h) gwA_int (fun _ => rfl) (by decide) (by decide) (by decide) (by decide) (by decide) dX6_init_15 (fun q1 => ?_)
  refine nx_putF (ws := [(b, .inr (5, [.ref q0, .null, .null, .null, .int 0, .null, .null, .null, .null, .int 0, .int 0, .int 0, .int 0, .long 0, .long 0])), (q0, .inl (V.2.1 0, (8, .inl (fun _ => 0)))), (q1, .inl (V.2.1 0, (8, .inl (fun _ => 0))))]) hC hi inX6 tyX6 tyX6_ok nmX6 0 rfl rfl 1 (by decide) wd74 rfl rfl rfl rfl (Nat.le_of_ble_eq_true rfl) dX6_init_17 ?_
  refine nx_aload_n hC dX6_init_20 rfl 0 rfl ?_
  refine nx_bipush (v := 8) hC dX6_init_21 (by decide) ?_
  refine nx_newa (a0 := (8, .inl (fun _ => 0))) (N := 8) hC 1 rfl rfl (fun C h => by cases h) gwA_boolean (fun _ => rfl) (by decide) (by decide) (by decide) (by decide) (by decide) dX6_init_23 (fun q2 => ?_)
  refine nx_putF (ws := [(b, .inr (5, [.ref q0, .ref q1, .null, .null, .int 0, .null, .null, .null, .null, .int 0, .int 0, .int 0, .int 0, .long 0, .long 0])), (q0, .inl (V.2.1 0, (8, .inl (fun _ => 0)))), (q1, .inl (V.2.1 0, (8, .inl (fun _ => 0)))), (q2, .inl (V.2.1 1, (8, .inl (fun _ => 0))))]) hC hi inX6 tyX6 tyX6_ok nmX6 0 rfl rfl 2 (by decide) wd78 rfl rfl rfl rfl (Nat.le_of_ble_eq_true rfl) dX6_init_25 ?_
  refine nx_aload_n hC dX6_init_28 rfl 0 rfl ?_
  refine nx_bipush (v := 8) hC dX6_init_29 (by decide) ?_
  refine nx_newa (a0 := (8, .inl (fun _ => 0))) (N := 8) hC 0 rfl rfl (fun C h => by cases h) gwA_int (fun _ => rfl) (by decide) (by decide) (by decide) (by decide) (by decide) dX6_init_31 (fun q3 => ?_)
  refine nx_putF (ws := [(b, .inr (5, [.ref q0, .ref q1, .ref q2, .null, .int 0, .null, .null, .null, .null, .int 0, .int 0, .int 0, .int 0, .long 0, .long 0])), (q0, .inl (V.2.1 0, (8, .inl (fun _ => 0)))), (q1, .inl (V.2.1 0, (8, .inl (fun _ => 0)))), (q2, .inl (V.2.1 1, (8, .inl (fun _ => 0)))), (q3, .inl (V.2.1 0, (8, .inl (fun _ => 0))))]) hC hi inX6 tyX6 tyX6_ok nmX6 0 rfl rfl 3 (by decide) wd82 rfl rfl rfl rfl (Nat.le_of_ble_eq_true rfl) dX6_init_33 ?_
  refine nx_aload_n hC dX6_init_36 rfl 0 rfl ?_
  refine nx_bipush (v := 24) hC dX6_init_37 (by decide) ?_
  refine nx_newa (a0 := (24, .inl (fun _ => 0))) (N := 24) hC 0 rfl rfl (fun C h => by cases h) gwA_int (fun _ => rfl) (by decide) (by decide) (by decide) (by decide) (by decide) dX6_init_39 (fun q4 => ?_)
  refine nx_putF (ws := [(b, .inr (5, [.ref q0, .ref q1, .ref q2, .ref q3, .int 0, .null, .null, .null, .null, .int 0, .int 0, .int 0, .int 0, .long 0, .long 0])), (q0, .inl (V.2.1 0, (8, .inl (fun _ => 0)))), (q1, .inl (V.2.1 0, (8, .inl (fun _ => 0)))), (q2, .inl (V.2.1 1, (8, .inl (fun _ => 0)))), (q3, .inl (V.2.1 0, (8, .inl (fun _ => 0)))), (q4, .inl (V.2.1 0, (24, .inl (fun _ => 0))))]) hC hi inX6 tyX6 tyX6_ok nmX6 0 rfl rfl 5 (by decide) wd90 rfl rfl rfl rfl (Nat.le_of_ble_eq_true rfl) dX6_init_41 ?_
  refine nx_aload_n hC dX6_init_44 rfl 0 rfl ?_
  refine nx_bipush (v := 24) hC dX6_init_45 (by decide) ?_
  refine nx_newa (a0 := (24, .inl (fun _ => 0))) (N := 24) hC 0 rfl rfl (fun C h => by cases h) gwA_int (fun _ => rfl) (by decide) (by decide) (by decide) (by decide) (by decide) dX6_init_47 (fun q5 => ?_)
  refine nx_putF (ws := [(b, .inr (5, [.ref q0, .ref q1, .ref q2, .ref q3, .int 0, .ref q4, .null, .null, .null, .int 0, .int 0, .int 0, .int 0, .long 0, .long 0])), (q0, .inl (V.2.1 0, (8, .inl (fun _ => 0)))), (q1, .inl (V.2.1 0, (8, .inl (fun _ => 0)))), (q2, .inl (V.2.1 1, (8, .inl (fun _ => 0)))), (q3, .inl (V.2.1 0, (8, .inl (fun _ => 0)))), (q4, .inl (V.2.1 0, (24, .inl (fun _ => 0)))), (q5, .inl (V.2.1 0, (24, .inl (fun _ => 0))))]) hC hi inX6 tyX6 tyX6_ok nmX6 0 rfl rfl 6 (by decide) wd93 rfl rfl rfl rfl (Nat.le_of_ble_eq_true rfl) dX6_init_49 ?_
  refine nx_aload_n hC dX6_init_52 rfl 0 rfl ?_
  refine nx_bipush (v := 24) hC dX6_init_53 (by decide) ?_
  refine nx_newa (a0 := (24, .inl (fun _ => 0))) (N := 24) hC 0 rfl rfl (fun C h => by cases h) gwA_int (fun _ => rfl) (by decide) (by decide) (by decide) (by decide) (by decide) dX6_init_55 (fun q6 => ?_)
  refine nx_putF (ws := [(b, .inr (5, [.ref q0, .ref q1, .ref q2, .ref q3, .int 0, .ref q4, .ref q5, .null, .null, .int 0, .int 0, .int 0, .int 0, .long 0, .long 0])), (q0, .inl (V.2.1 0, (8, .inl (fun _ => 0)))), (q1, .inl (V.2.1 0, (8, .inl (fun _ => 0)))), (q2, .inl (V.2.1 1, (8, .inl (fun _ => 0)))), (q3, .inl (V.2.1 0, (8, .inl (fun _ => 0)))), (q4, .inl (V.2.1 0, (24, .inl (fun _ => 0)))), (q5, .inl (V.2.1 0, (24, .inl (fun _ => 0)))), (q6, .inl (V.2.1 0, (24, .inl (fun _ => 0))))]) hC hi inX6 tyX6 tyX6_ok nmX6 0 rfl rfl 7 (by decide) wd97 rfl rfl rfl rfl (Nat.le_of_ble_eq_true rfl) dX6_init_57 ?_
  refine nx_aload_n hC dX6_init_60 rfl 0 rfl ?_
  refine nx_bipush (v := 24) hC dX6_init_61 (by decide) ?_
  refine nx_newa (a0 := (24, .inl (fun _ => 0))) (N := 24) hC 0 rfl rfl (fun C h => by cases h) gwA_int (fun _ => rfl) (by decide) (by decide) (by decide) (by decide) (by decide) dX6_init_63 (fun q7 => ?_)
  refine nx_putF (ws := [(b, .inr (5, [.ref q0, .ref q1, .ref q2, .ref q3, .int 0, .ref q4, .ref q5, .ref q6, .null, .int 0, .int 0, .int 0, .int 0, .long 0, .long 0])), (q0, .inl (V.2.1 0, (8, .inl (fun _ => 0)))), (q1, .inl (V.2.1 0, (8, .inl (fun _ => 0)))), (q2, .inl (V.2.1 1, (8, .inl (fun _ => 0)))), (q3, .inl (V.2.1 0, (8, .inl (fun _ => 0)))), (q4, .inl (V.2.1 0, (24, .inl (fun _ => 0)))), (q5, .inl (V.2.1 0, (24, .inl (fun _ => 0)))), (q6, .inl (V.2.1 0, (24, .inl (fun _ => 0)))), (q7, .inl (V.2.1 0, (24, .inl (fun _ => 0))))]) hC hi inX6 tyX6 tyX6_ok nmX6 0 rfl rfl 8 (by decide) wd100 rfl rfl rfl rfl (Nat.le_of_ble_eq_true rfl) dX6_init_65 ?_
  refine nx_iconst (v := 0) hC dX6_init_68 (by decide) ?_
  refine nx_istore_n hC dX6_init_69 rfl (by decide) ?_
  refine nx_iload_n hC dX6_init_70 rfl 0 rfl ?_
  refine nx_bipush (v := 8) hC dX6_init_71 (by decide) ?_
  refine nx_geF hC 89 dX6_init_73 (by decide) (by decide) ?_
  refine nx_aload_n hC dX6_init_76 rfl 1 rfl ?_
  refine nx_getf (ws := [(b, .inr (5, [.ref q0, .ref q1, .ref q2, .ref q3, .int 0, .ref q4, .ref q5, .ref q6, .ref q7, .int 0, .int 0, .int 0, .int 0, .long 0, .long 0])), (q0, .inl (V.2.1 0, (8, .inl (fun _ => 0)))), (q1, .inl (V.2.1 0, (8, .inl (fun _ => 0)))), (q2, .inl (V.2.1 1, (8, .inl (fun _ => 0)))), (q3, .inl (V.2.1 0, (8, .inl (fun _ => 0)))), (q4, .inl (V.2.1 0, (24, .inl (fun _ => 0)))), (q5, .inl (V.2.1 0, (24, .inl (fun _ => 0)))), (q6, .inl (V.2.1 0, (24, .inl (fun _ => 0)))), (q7, .inl (V.2.1 0, (24, .inl (fun _ => 0))))]) hC inX6 0 rfl rfl 3 (by decide) wd82 rfl dX6_init_77 ?_
  refine nx_iload_n hC dX6_init_80 rfl 0 rfl ?_
  refine nx_iconst (v := -1) hC dX6_init_81 (by decide) ?_
  refine nx_iast (ws := [(b, .inr (5, [.ref q0, .ref q1, .ref q2, .ref q3, .int 0, .ref q4, .ref q5, .ref q6, .ref q7, .int 0, .int 0, .int 0, .int 0, .long 0, .long 0])), (q0, .inl (V.2.1 0, (8, .inl (fun _ => 0)))), (q1, .inl (V.2.1 0, (8, .inl (fun _ => 0)))), (q2, .inl (V.2.1 1, (8, .inl (fun _ => 0)))), (q3, .inl (V.2.1 0, (8, .inl (fun _ => 0)))), (q4, .inl (V.2.1 0, (24, .inl (fun _ => 0)))), (q5, .inl (V.2.1 0, (24, .inl (fun _ => 0)))), (q6, .inl (V.2.1 0, (24, .inl (fun _ => 0)))), (q7, .inl (V.2.1 0, (24, .inl (fun _ => 0))))]) hC 4 rfl (by show ¬ (_ ∨ _); decide) dX6_init_82 ?_
  refine nx_iinc hC dX6_init_83 0 rfl (by decide) ?_
  rw [show ((0 : Int32) + Int32.ofInt 1) = 1 from by decide]
  refine nx_goto hC 70 dX6_init_86 (by decide) ?_
  refine nx_iload_n hC dX6_init_70 rfl 0 rfl ?_
  refine nx_bipush (v := 8) hC dX6_init_71 (by decide) ?_
  refine nx_geF hC 89 dX6_init_73 (by decide) (by decide) ?_
  refine nx_aload_n hC dX6_init_76 rfl 1 rfl ?_
  refine nx_getf (ws := [(b, .inr (5, [.ref q0, .ref q1, .ref q2, .ref q3, .int 0, .ref q4, .ref q5, .ref q6, .ref q7, .int 0, .int 0, .int 0, .int 0, .long 0, .long 0])), (q0, .inl (V.2.1 0, (8, .inl (fun _ => 0)))), (q1, .inl (V.2.1 0, (8, .inl (fun _ => 0)))), (q2, .inl (V.2.1 1, (8, .inl (fun _ => 0)))), (q3, .inl (V.2.1 0, (8, .inl (upd (fun _ => 0) (0 : Int32).toNatClampNeg (-1))))), (q4, .inl (V.2.1 0, (24, .inl (fun _ => 0)))), (q5, .inl (V.2.1 0, (24, .inl (fun _ => 0)))), (q6, .inl (V.2.1 0, (24, .inl (fun _ => 0)))), (q7, .inl (V.2.1 0, (24, .inl (fun _ => 0))))]) hC inX6 0 rfl rfl 3 (by decide) wd82 rfl dX6_init_77 ?_
  refine nx_iload_n hC dX6_init_80 rfl 0 rfl ?_
  refine nx_iconst (v := -1) hC dX6_init_81 (by decide) ?_
  refine nx_iast (ws := [(b, .inr (5, [.ref q0, .ref q1, .ref q2, .ref q3, .int 0, .ref q4, .ref q5, .ref q6, .ref q7, .int 0, .int 0, .int 0, .int 0, .long 0, .long 0])), (q0, .inl (V.2.1 0, (8, .inl (fun _ => 0)))), (q1, .inl (V.2.1 0, (8, .inl (fun _ => 0)))), (q2, .inl (V.2.1 1, (8, .inl (fun _ => 0)))), (q3, .inl (V.2.1 0, (8, .inl (upd (fun _ => 0) (0 : Int32).toNatClampNeg (-1))))), (q4, .inl (V.2.1 0, (24, .inl (fun _ => 0)))), (q5, .inl (V.2.1 0, (24, .inl (fun _ => 0)))), (q6, .inl (V.2.1 0, (24, .inl (fun _ => 0)))), (q7, .inl (V.2.1 0, (24, .inl (fun _ => 0))))]) hC 4 rfl (by show ¬ (_ ∨ _); decide) dX6_init_82 ?_
  refine nx_iinc hC dX6_init_83 0 rfl (by decide) ?_
  rw [show ((1 : Int32) + Int32.ofInt 1) = 2 from by decide]
  refine nx_goto hC 70 dX6_init_86 (by decide) ?_
  refine nx_iload_n hC dX6_init_70 rfl 0 rfl ?_
  refine nx_bipush (v := 8) hC dX6_init_71 (by decide) ?_
  refine nx_geF hC 89 dX6_init_73 (by decide) (by decide) ?_
  refine nx_aload_n hC dX6_init_76 rfl 1 rfl ?_
  refine nx_getf (ws := [(b, .inr (5, [.ref q0, .ref q1, .ref q2, .ref q3, .int 0, .ref q4, .ref q5, .ref q6, .ref q7, .int 0, .int 0, .int 0, .int 0, .long 0, .long 0])), (q0, .inl (V.2.1 0, (8, .inl (fun _ => 0)))), (q1, .inl (V.2.1 0, (8, .inl (fun _ => 0)))), (q2, .inl (V.2.1 1, (8, .inl (fun _ => 0)))), (q3, .inl (V.2.1 0, (8, .inl (upd (upd (fun _ => 0) (0 : Int32).toNatClampNeg (-1)) (1 : Int32).toNatClampNeg (-1))))), (q4, .inl (V.2.1 0, (24, .inl (fun _ => 0)))), (q5, .inl (V.2.1 0, (24, .inl (fun _ => 0)))), (q6, .inl (V.2.1 0, (24, .inl (fun _ => 0)))), (q7, .inl (V.2.1 0, (24, .inl (fun _ => 0))))]) hC inX6 0 rfl rfl 3 (by decide) wd82 rfl dX6_init_77 ?_
  refine nx_iload_n hC dX6_init_80 rfl 0 rfl ?_
  refine nx_iconst (v := -1) hC dX6_init_81 (by decide) ?_
  refine nx_iast (ws := [(b, .inr (5, [.ref q0, .ref q1, .ref q2, .ref q3, .int 0, .ref q4, .ref q5, .ref q6, .ref q7, .int 0, .int 0, .int 0, .int 0, .long 0, .long 0])), (q0, .inl (V.2.1 0, (8, .inl (fun _ => 0)))), (q1, .inl (V.2.1 0, (8, .inl (fun _ => 0)))), (q2, .inl (V.2.1 1, (8, .inl (fun _ => 0)))), (q3, .inl (V.2.1 0, (8, .inl (upd (upd (fun _ => 0) (0 : Int32).toNatClampNeg (-1)) (1 : Int32).toNatClampNeg (-1))))), (q4, .inl (V.2.1 0, (24, .inl (fun _ => 0)))), (q5, .inl (V.2.1 0, (24, .inl (fun _ => 0)))), (q6, .inl (V.2.1 0, (24, .inl (fun _ => 0)))), (q7, .inl (V.2.1 0, (24, .inl (fun _ => 0))))]) hC 4 rfl (by show ¬ (_ ∨ _); decide) dX6_init_82 ?_
  refine nx_iinc hC dX6_init_83 0 rfl (by decide) ?_
  rw [show ((2 : Int32) + Int32.ofInt 1) = 3 from by decide]
  refine nx_goto hC 70 dX6_init_86 (by decide) ?_
  refine nx_iload_n hC dX6_init_70 rfl 0 rfl ?_
  refine nx_bipush (v := 8) hC dX6_init_71 (by decide) ?_
  refine nx_geF hC 89 dX6_init_73 (by decide) (by decide) ?_
  refine nx_aload_n hC dX6_init_76 rfl 1 rfl ?_
  refine nx_getf (ws := [(b, .inr (5, [.ref q0, .ref q1, .ref q2, .ref q3, .int 0, .ref q4, .ref q5, .ref q6, .ref q7, .int 0, .int 0, .int 0, .int 0, .long 0, .long 0])), (q0, .inl (V.2.1 0, (8, .inl (fun _ => 0)))), (q1, .inl (V.2.1 0, (8, .inl (fun _ => 0)))), (q2, .inl (V.2.1 1, (8, .inl (fun _ => 0)))), (q3, .inl (V.2.1 0, (8, .inl (upd (upd (upd (fun _ => 0) (0 : Int32).toNatClampNeg (-1)) (1 : Int32).toNatClampNeg (-1)) (2 : Int32).toNatClampNeg (-1))))), (q4, .inl (V.2.1 0, (24, .inl (fun _ => 0)))), (q5, .inl (V.2.1 0, (24, .inl (fun _ => 0)))), (q6, .inl (V.2.1 0, (24, .inl (fun _ => 0)))), (q7, .inl (V.2.1 0, (24, .inl (fun _ => 0))))]) hC inX6 0 rfl rfl 3 (by decide) wd82 rfl dX6_init_77 ?_
  refine nx_iload_n hC dX6_init_80 rfl 0 rfl ?_
  refine nx_iconst (v := -1) hC dX6_init_81 (by decide) ?_
  refine nx_iast (ws := [(b, .inr (5, [.ref q0, .ref q1, .ref q2, .ref q3, .int 0, .ref q4, .ref q5, .ref q6, .ref q7, .int 0, .int 0, .int 0, .int 0, .long 0, .long 0])), (q0, .inl (V.2.1 0, (8, .inl (fun _ => 0)))), (q1, .inl (V.2.1 0, (8, .inl (fun _ => 0)))), (q2, .inl (V.2.1 1, (8, .inl (fun _ => 0)))), (q3, .inl (V.2.1 0, (8, .inl (upd (upd (upd (fun _ => 0) (0 : Int32).toNatClampNeg (-1)) (1 : Int32).toNatClampNeg (-1)) (2 : Int32).toNatClampNeg (-1))))), (q4, .inl (V.2.1 0, (24, .inl (fun _ => 0)))), (q5, .inl (V.2.1 0, (24, .inl (fun _ => 0)))), (q6, .inl (V.2.1 0, (24, .inl (fun _ => 0)))), (q7, .inl (V.2.1 0, (24, .inl (fun _ => 0))))]) hC 4 rfl (by show ¬ (_ ∨ _); decide) dX6_init_82 ?_
  refine nx_iinc hC dX6_init_83 0 rfl (by decide) ?_
  rw [show ((3 : Int32) + Int32.ofInt 1) = 4 from by decide]
  refine nx_goto hC 70 dX6_init_86 (by decide) ?_
  refine nx_iload_n hC dX6_init_70 rfl 0 rfl ?_
  refine nx_bipush (v := 8) hC dX6_init_71 (by decide) ?_
  refine nx_geF hC 89 dX6_init_73 (by decide) (by decide) ?_
  refine nx_aload_n hC dX6_init_76 rfl 1 rfl ?_
  refine nx_getf (ws := [(b, .inr (5, [.ref q0, .ref q1, .ref q2, .ref q3, .int 0, .ref q4, .ref q5, .ref q6, .ref q7, .int 0, .int 0, .int 0, .int 0, .long 0, .long 0])), (q0, .inl (V.2.1 0, (8, .inl (fun _ => 0)))), (q1, .inl (V.2.1 0, (8, .inl (fun _ => 0)))), (q2, .inl (V.2.1 1, (8, .inl (fun _ => 0)))), (q3, .inl (V.2.1 0, (8, .inl (upd (upd (upd (upd (fun _ => 0) (0 : Int32).toNatClampNeg (-1)) (1 : Int32).toNatClampNeg (-1)) (2 : Int32).toNatClampNeg (-1)) (3 : Int32).toNatClampNeg (-1))))), (q4, .inl (V.2.1 0, (24, .inl (fun _ => 0)))), (q5, .inl (V.2.1 0, (24, .inl (fun _ => 0)))), (q6, .inl (V.2.1 0, (24, .inl (fun _ => 0)))), (q7, .inl (V.2.1 0, (24, .inl (fun _ => 0))))]) hC inX6 0 rfl rfl 3 (by decide) wd82 rfl dX6_init_77 ?_
  refine nx_iload_n hC dX6_init_80 rfl 0 rfl ?_
  refine nx_iconst (v := -1) hC dX6_init_81 (by decide) ?_
  refine nx_iast (ws := [(b, .inr (5, [.ref q0, .ref q1, .ref q2, .ref q3, .int 0, .ref q4, .ref q5, .ref q6, .ref q7, .int 0, .int 0, .int 0, .int 0, .long 0, .long 0])), (q0, .inl (V.2.1 0, (8, .inl (fun _ => 0)))), (q1, .inl (V.2.1 0, (8, .inl (fun _ => 0)))), (q2, .inl (V.2.1 1, (8, .inl (fun _ => 0)))), (q3, .inl (V.2.1 0, (8, .inl (upd (upd (upd (upd (fun _ => 0) (0 : Int32).toNatClampNeg (-1)) (1 : Int32).toNatClampNeg (-1)) (2 : Int32).toNatClampNeg (-1)) (3 : Int32).toNatClampNeg (-1))))), (q4, .inl (V.2.1 0, (24, .inl (fun _ => 0)))), (q5, .inl (V.2.1 0, (24, .inl (fun _ => 0)))), (q6, .inl (V.2.1 0, (24, .inl (fun _ => 0)))), (q7, .inl (V.2.1 0, (24, .inl (fun _ => 0))))]) hC 4 rfl (by show ¬ (_ ∨ _); decide) dX6_init_82 ?_
  refine nx_iinc hC dX6_init_83 0 rfl (by decide) ?_
  rw [show ((4 : Int32) + Int32.ofInt 1) = 5 from by decide]
  refine nx_goto hC 70 dX6_init_86 (by decide) ?_
  refine nx_iload_n hC dX6_init_70 rfl 0 rfl ?_
  refine nx_bipush (v := 8) hC dX6_init_71 (by decide) ?_
  refine nx_geF hC 89 dX6_init_73 (by decide) (by decide) ?_
  refine nx_aload_n hC dX6_init_76 rfl 1 rfl ?_
  refine nx_getf (ws := [(b, .inr (5, [.ref q0, .ref q1, .ref q2, .ref q3, .int 0, .ref q4, .ref q5, .ref q6, .ref q7, .int 0, .int 0, .int 0, .int 0, .long 0, .long 0])), (q0, .inl (V.2.1 0, (8, .inl (fun _ => 0)))), (q1, .inl (V.2.1 0, (8, .inl (fun _ => 0)))), (q2, .inl (V.2.1 1, (8, .inl (fun _ => 0)))), (q3, .inl (V.2.1 0, (8, .inl (upd (upd (upd (upd (upd (fun _ => 0) (0 : Int32).toNatClampNeg (-1)) (1 : Int32).toNatClampNeg (-1)) (2 : Int32).toNatClampNeg (-1)) (3 : Int32).toNatClampNeg (-1)) (4 : Int32).toNatClampNeg (-1))))), (q4, .inl (V.2.1 0, (24, .inl (fun _ => 0)))), (q5, .inl (V.2.1 0, (24, .inl (fun _ => 0)))), (q6, .inl (V.2.1 0, (24, .inl (fun _ => 0)))), (q7, .inl (V.2.1 0, (24, .inl (fun _ => 0))))]) hC inX6 0 rfl rfl 3 (by decide) wd82 rfl dX6_init_77 ?_
  refine nx_iload_n hC dX6_init_80 rfl 0 rfl ?_
  refine nx_iconst (v := -1) hC dX6_init_81 (by decide) ?_
  refine nx_iast (ws := [(b, .inr (5, [.ref q0, .ref q1, .ref q2, .ref q3, .int 0, .ref q4, .ref q5, .ref q6, .ref q7, .int 0, .int 0, .int 0, .int 0, .long 0, .long 0])), (q0, .inl (V.2.1 0, (8, .inl (fun _ => 0)))), (q1, .inl (V.2.1 0, (8, .inl (fun _ => 0)))), (q2, .inl (V.2.1 1, (8, .inl (fun _ => 0)))), (q3, .inl (V.2.1 0, (8, .inl (upd (upd (upd (upd (upd (fun _ => 0) (0 : Int32).toNatClampNeg (-1)) (1 : Int32).toNatClampNeg (-1)) (2 : Int32).toNatClampNeg (-1)) (3 : Int32).toNatClampNeg (-1)) (4 : Int32).toNatClampNeg (-1))))), (q4, .inl (V.2.1 0, (24, .inl (fun _ => 0)))), (q5, .inl (V.2.1 0, (24, .inl (fun _ => 0)))), (q6, .inl (V.2.1 0, (24, .inl (fun _ => 0)))), (q7, .inl (V.2.1 0, (24, .inl (fun _ => 0))))]) hC 4 rfl (by show ¬ (_ ∨ _); decide) dX6_init_82 ?_
  refine nx_iinc hC dX6_init_83 0 rfl (by decide) ?_
  rw [show ((5 : Int32) + Int32.ofInt 1) = 6 from by decide]
  refine nx_goto hC 70 dX6_init_86 (by decide) ?_
  refine nx_iload_n hC dX6_init_70 rfl 0 rfl ?_
  refine nx_bipush (v := 8) hC dX6_init_71 (by decide) ?_
  refine nx_geF hC 89 dX6_init_73 (by decide) (by decide) ?_
  refine nx_aload_n hC dX6_init_76 rfl 1 rfl ?_
  refine nx_getf (ws := [(b, .inr (5, [.ref q0, .ref q1, .ref q2, .ref q3, .int 0, .ref q4, .ref q5, .ref q6, .ref q7, .int 0, .int 0, .int 0, .int 0, .long 0, .long 0])), (q0, .inl (V.2.1 0, (8, .inl (fun _ => 0)))), (q1, .inl (V.2.1 0, (8, .inl (fun _ => 0)))), (q2, .inl (V.2.1 1, (8, .inl (fun _ => 0)))), (q3, .inl (V.2.1 0, (8, .inl (upd (upd (upd (upd (upd (upd (fun _ => 0) (0 : Int32).toNatClampNeg (-1)) (1 : Int32).toNatClampNeg (-1)) (2 : Int32).toNatClampNeg (-1)) (3 : Int32).toNatClampNeg (-1)) (4 : Int32).toNatClampNeg (-1)) (5 : Int32).toNatClampNeg (-1))))), (q4, .inl (V.2.1 0, (24, .inl (fun _ => 0)))), (q5, .inl (V.2.1 0, (24, .inl (fun _ => 0)))), (q6, .inl (V.2.1 0, (24, .inl (fun _ => 0)))), (q7, .inl (V.2.1 0, (24, .inl (fun _ => 0))))]) hC inX6 0 rfl rfl 3 (by decide) wd82 rfl dX6_init_77 ?_
  refine nx_iload_n hC dX6_init_80 rfl 0 rfl ?_
  refine nx_iconst (v := -1) hC dX6_init_81 (by decide) ?_
  refine nx_iast (ws := [(b, .inr (5, [.ref q0, .ref q1, .ref q2, .ref q3, .int 0, .ref q4, .ref q5, .ref q6, .ref q7, .int 0, .int 0, .int 0, .int 0, .long 0, .long 0])), (q0, .inl (V.2.1 0, (8, .inl (fun _ => 0)))), (q1, .inl (V.2.1 0, (8, .inl (fun _ => 0)))), (q2, .inl (V.2.1 1, (8, .inl (fun _ => 0)))), (q3, .inl (V.2.1 0, (8, .inl (upd (upd (upd (upd (upd (upd (fun _ => 0) (0 : Int32).toNatClampNeg (-1)) (1 : Int32).toNatClampNeg (-1)) (2 : Int32).toNatClampNeg (-1)) (3 : Int32).toNatClampNeg (-1)) (4 : Int32).toNatClampNeg (-1)) (5 : Int32).toNatClampNeg (-1))))), (q4, .inl (V.2.1 0, (24, .inl (fun _ => 0)))), (q5, .inl (V.2.1 0, (24, .inl (fun _ => 0)))), (q6, .inl (V.2.1 0, (24, .inl (fun _ => 0)))), (q7, .inl (V.2.1 0, (24, .inl (fun _ => 0))))]) hC 4 rfl (by show ¬ (_ ∨ _); decide) dX6_init_82 ?_
  refine nx_iinc hC dX6_init_83 0 rfl (by decide) ?_
  rw [show ((6 : Int32) + Int32.ofInt 1) = 7 from by decide]
  refine nx_goto hC 70 dX6_init_86 (by decide) ?_
  refine nx_iload_n hC dX6_init_70 rfl 0 rfl ?_
  refine nx_bipush (v := 8) hC dX6_init_71 (by decide) ?_
  refine nx_geF hC 89 dX6_init_73 (by decide) (by decide) ?_
  refine nx_aload_n hC dX6_init_76 rfl 1 rfl ?_
  refine nx_getf (ws := [(b, .inr (5, [.ref q0, .ref q1, .ref q2, .ref q3, .int 0, .ref q4, .ref q5, .ref q6, .ref q7, .int 0, .int 0, .int 0, .int 0, .long 0, .long 0])), (q0, .inl (V.2.1 0, (8, .inl (fun _ => 0)))), (q1, .inl (V.2.1 0, (8, .inl (fun _ => 0)))), (q2, .inl (V.2.1 1, (8, .inl (fun _ => 0)))), (q3, .inl (V.2.1 0, (8, .inl (upd (upd (upd (upd (upd (upd (upd (fun _ => 0) (0 : Int32).toNatClampNeg (-1)) (1 : Int32).toNatClampNeg (-1)) (2 : Int32).toNatClampNeg (-1)) (3 : Int32).toNatClampNeg (-1)) (4 : Int32).toNatClampNeg (-1)) (5 : Int32).toNatClampNeg (-1)) (6 : Int32).toNatClampNeg (-1))))), (q4, .inl (V.2.1 0, (24, .inl (fun _ => 0)))), (q5, .inl (V.2.1 0, (24, .inl (fun _ => 0)))), (q6, .inl (V.2.1 0, (24, .inl (fun _ => 0)))), (q7, .inl (V.2.1 0, (24, .inl (fun _ => 0))))]) hC inX6 0 rfl rfl 3 (by decide) wd82 rfl dX6_init_77 ?_
  refine nx_iload_n hC dX6_init_80 rfl 0 rfl ?_
  refine nx_iconst (v := -1) hC dX6_init_81 (by decide) ?_
  refine nx_iast (ws := [(b, .inr (5, [.ref q0, .ref q1, .ref q2, .ref q3, .int 0, .ref q4, .ref q5, .ref q6, .ref q7, .int 0, .int 0, .int 0, .int 0, .long 0, .long 0])), (q0, .inl (V.2.1 0, (8, .inl (fun _ => 0)))), (q1, .inl (V.2.1 0, (8, .inl (fun _ => 0)))), (q2, .inl (V.2.1 1, (8, .inl (fun _ => 0)))), (q3, .inl (V.2.1 0, (8, .inl (upd (upd (upd (upd (upd (upd (upd (fun _ => 0) (0 : Int32).toNatClampNeg (-1)) (1 : Int32).toNatClampNeg (-1)) (2 : Int32).toNatClampNeg (-1)) (3 : Int32).toNatClampNeg (-1)) (4 : Int32).toNatClampNeg (-1)) (5 : Int32).toNatClampNeg (-1)) (6 : Int32).toNatClampNeg (-1))))), (q4, .inl (V.2.1 0, (24, .inl (fun _ => 0)))), (q5, .inl (V.2.1 0, (24, .inl (fun _ => 0)))), (q6, .inl (V.2.1 0, (24, .inl (fun _ => 0)))), (q7, .inl (V.2.1 0, (24, .inl (fun _ => 0))))]) hC 4 rfl (by show ¬ (_ ∨ _); decide) dX6_init_82 ?_
  refine nx_iinc hC dX6_init_83 0 rfl (by decide) ?_
  rw [show ((7 : Int32) + Int32.ofInt 1) = 8 from by decide]
  refine nx_goto hC 70 dX6_init_86 (by decide) ?_
  refine nx_iload_n hC dX6_init_70 rfl 0 rfl ?_
  refine nx_bipush (v := 8) hC dX6_init_71 (by decide) ?_
  refine nx_geT hC 89 dX6_init_73 (by decide) (by decide) ?_
  refine nx_cong (ws := [(b, .inr (5, [.ref q0, .ref q1, .ref q2, .ref q3, .int 0, .ref q4, .ref q5, .ref q6, .ref q7, .int 0, .int 0, .int 0, .int 0, .long 0, .long 0])), (q0, .inl (V.2.1 0, (8, .inl (fun _ => 0)))), (q1, .inl (V.2.1 0, (8, .inl (fun _ => 0)))), (q2, .inl (V.2.1 1, (8, .inl (fun _ => 0)))), (q3, .inl (V.2.1 0, (8, .inl (upd (upd (upd (upd (upd (upd (upd (upd (fun _ => 0) (0 : Int32).toNatClampNeg (-1)) (1 : Int32).toNatClampNeg (-1)) (2 : Int32).toNatClampNeg (-1)) (3 : Int32).toNatClampNeg (-1)) (4 : Int32).toNatClampNeg (-1)) (5 : Int32).toNatClampNeg (-1)) (6 : Int32).toNatClampNeg (-1)) (7 : Int32).toNatClampNeg (-1))))), (q4, .inl (V.2.1 0, (24, .inl (fun _ => 0)))), (q5, .inl (V.2.1 0, (24, .inl (fun _ => 0)))), (q6, .inl (V.2.1 0, (24, .inl (fun _ => 0)))), (q7, .inl (V.2.1 0, (24, .inl (fun _ => 0))))]) (g := fun _ => -1) 4 rfl (by decide) ?_
  exact nx_ret (ws := thW V b q0 q1 q2 q3 q4 q5 q6 q7) hC hr ⟨q0, q1, q2, q3, q4, q5, q6, q7, rfl⟩ (by decide) (by decide) dX6_init_89
