/-! ===== from the entry to the end ===== -/
set_option maxHeartbeats 8000000 in
set_option maxRecDepth 100000 in
theorem whole_start {p : Program} {e : Env} {s : State} {m : MethodId} {below : List Frame} {meth : Method} {c : Code} (l : Launch) (hflags : l.flags = flags0) {b L : Nat} {xs : Nat → Int32} (hL : L ≤ 260) (C0 : lw_At p s m meth c b L xs) : W p l e room_1 s m #[Value.ref b] below meth c s.heap [] 0 0 (lw_Z below #[Value.ref b] s) (entryFrame m ([Value.ref b] : List Value).toArray 13) := by
  obtain ⟨hx, hb, hr, hml, hown, hts, hX, hbl, hlk, hgv⟩ := C0
  have hLL : ∀ w ∈ LL, w.before #[Value.ref b] s = true := flat_of_before _ hgv
  have hgw := en_gw hts
  have hA : ∀ a : Nat, a < s.heap.size → ¬ (fun q : Nat => s.heap.size ≤ q) a := fun a h => Nat.not_le.mpr h
  obtain ⟨V, hK, hk7⟩ := en_K hts hgw
  obtain ⟨adK, adV, hS⟩ := en_str (A := (fun q : Nat => s.heap.size ≤ q)) hLL hA
  obtain ⟨d, hd1, hd2⟩ := en_TX (A := (fun q : Nat => s.heap.size ≤ q)) hts hLL hA (fun i hi => (hS i hi).1)
  have hl : l.stackTraces = false := by
    unfold Launch.stackTraces
    rw [hflags]
    decide
  have hC : Cok (p, l, e, s, m, #[Value.ref b], below, meth, c) V (fun q : Nat => s.heap.size ≤ q) RL cL_law 13 := ⟨hx, hb, hml, hown, hgw, hK, fun q h => h, hlk⟩
  have hXE : XE V (fun q : Nat => s.heap.size ≤ q) s s.heap := en_X hts hLL hA hk7
  have hlv := lv_entry [Value.ref b] (n := 13) (Nat.le_of_ble_eq_true rfl)
  rw [lg_entry_eq]
  refine lw_head (X := (p, l, e, s, m, #[Value.ref b], below, meth, c)) (V := V) (A := (fun q : Nat => s.heap.size ≤ q)) (Q := lw_Z below #[Value.ref b] s) (b := b) (nc_X2 l) hC hXE (fun v_x v_e0 v_e1 v_e2 v_e3 v_e4 v_e5 v_e6 v_r v_t v_a v_y0 v_y1 v_y2 v_y3 v_y4 v_y5 v_y6 v_y7 v_z v_h v_i v_p0 v_p1 v_p2 v_u0 v_u1 => ?_) s.heap [] _ (fun k q hq => by cases hq) ⟨fun i j p q hq => (by cases hq), fun k q hq => (by cases hq)⟩ va_S.rf hlv
  intro H locs ls g1 g2 g3 g4
  rw [lo_eq] at g1 g2
  obtain ⟨ad, hid, hR, d0, dB, dX, dS⟩ := lo_rep (c := 119) (n := 1807) (b := b) (d := d) (adK := adK) g1 g2
  have hC2 : Cok (p, l, e, s, m, #[Value.ref b], below, meth, c) (V.1, V.2.1, ad) (fun q : Nat => s.heap.size ≤ q) RL cL_law 13 := hC
  have hTX : TX (V.1, V.2.1, ad) (fun q : Nat => s.heap.size ≤ q) s s.heap := by
    refine ⟨by show va_Z _ _ _ (.ref (ad 2001)) _ _ _; rw [dX]; exact hd1, ?_⟩
    show va_T _ (ad 2001) 8 (fun j => .ref (ad (3046 + j))) _ _ _
    rw [dX]
    obtain ⟨cell, q1, q2, q3, q4, q5, q6, q7⟩ := hd2
    exact ⟨cell, q1, q2, q3, q4, q5, fun j hj => by
      refine Eq.trans (q6 j hj) ?_
      show some (Value.ref (adK (46 + j))) = some (Value.ref (ad (3046 + j)))
      rw [show 3046 + j = 3000 + (46 + j) by omega, dS (46 + j) (by omega)], q7⟩
  have hE : Env0 (V.1, V.2.1, ad) adV (fun q : Nat => s.heap.size ≤ q) s s.heap := en_E (V := (V.1, V.2.1, ad)) hts hLL hA hTX dS hS
  have hCell : CellOK (p, l, e, s, m, #[Value.ref b], below, meth, c) (V.1, V.2.1, ad) (fun q : Nat => s.heap.size ≤ q) b (cellv L xs) := cell_ok (b := b) hC2 (by omega) (fun q h => h) (by show va_X (ad 2000) L xs s s.heap; rw [dB]; exact hX)
  have e1 := law_true (cl := cellv L xs) (ck0 (c := 119) (n := 1807)) wa0 cb0 rfl rfl
  have hlaw := l_L_law (X := (p, l, e, s, m, #[Value.ref b], below, meth, c)) (V := (V.1, V.2.1, ad)) (A := (fun q : Nat => s.heap.size ≤ q)) (b := b) hC2 hE hl ⟨hr, fun q h => h, rfl⟩ hCell (ini 119 1807)
  obtain ⟨-, K⟩ := hlaw _ e1
  refine K room_1 rfl rfl rfl rfl H locs hid ls 119 1807 hR g3 ?_ rfl rfl
  show lv_has ls c.maxLocals [(1, .ref (ad 0)), (0, .ref (ad 2000))]
  rw [hml, dB, d0]
  exact g4
