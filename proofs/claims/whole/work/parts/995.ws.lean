/-! ===== from the entry to the end ===== -/
set_option maxHeartbeats 8000000 in
set_option maxRecDepth 100000 in
theorem whole_start {p : Program} {e : Env} {s : State} {m : MethodId} {below : List Frame} {meth : Method} {c : Code} (l : Launch) (hflags : l.flags = flags0) {b L : Nat} {xs : Nat → Int32} (hL : L ≤ 1536) (C0 : lw_At p s m meth c b L xs) : W p l e room_1 s m #[Value.ref b] below meth c s.heap [] 0 0 (lw_Z below #[Value.ref b] s) (entryFrame m ([Value.ref b] : List Value).toArray 9) := by
  obtain ⟨hx, hb, hr, hml, hown, hts, hX, hbl, hlk, hgv⟩ := C0
  have hLL : ∀ w ∈ LL, w.before #[Value.ref b] s = true := flat_of_before _ hgv
  have hgw := en_gw hts
  have hA : ∀ a : Nat, a < s.heap.size → ¬ (fun q : Nat => s.heap.size ≤ q) a := fun a h => Nat.not_le.mpr h
  obtain ⟨V, hK, hk7⟩ := en_K hts hgw
  obtain ⟨adK, adV, hS⟩ := en_str (A := (fun q : Nat => s.heap.size ≤ q)) hLL hA
  have hl : l.stackTraces = false := by
    unfold Launch.stackTraces
    rw [hflags]
    decide
  have hC : Cok (p, l, e, s, m, #[Value.ref b], below, meth, c) V (fun q : Nat => s.heap.size ≤ q) RL cL_law 9 := ⟨hx, hb, hml, hown, hgw, hK, fun q h => h, hlk⟩
  have hXE : XE V (fun q : Nat => s.heap.size ≤ q) s s.heap := en_X hts hLL hA hk7
  have hlv := lv_entry [Value.ref b] (n := 9) (Nat.le_of_ble_eq_true rfl)
  rw [lg_entry_eq]
  refine lw_head (X := (p, l, e, s, m, #[Value.ref b], below, meth, c)) (V := V) (A := (fun q : Nat => s.heap.size ≤ q)) (Q := lw_Z below #[Value.ref b] s) (b := b) (nc_X2 l) hC hXE (fun v_x v_e0 v_e1 v_e2 v_e3 v_e4 v_e5 v_e6 v_r v_t v_a v_y0 v_y1 v_y2 v_y3 v_y4 v_y5 v_y6 v_y7 v_z v_h v_i v_p0 v_p1 v_p2 v_u0 v_u1 v_m v_g0 v_g1 v_g2 v_g3 v_g4 v_g5 v_g6 v_o v_u => ?_) s.heap [] _ (fun k q hq => by cases hq) ⟨fun i j p q hq => (by cases hq), fun k q hq => (by cases hq)⟩ va_S.rf hlv
  intro H locs ls g1 g2 g3 g4
  rw [lo_eq] at g1 g2
  obtain ⟨ad, hid, hR, d0, d8, d9, d10, dB, dS⟩ := lo_rep (c := 129) (n := 3734) (b := b) (adK := adK) g1 g2
  have hC2 : Cok (p, l, e, s, m, #[Value.ref b], below, meth, c) (V.1, V.2.1, ad) (fun q : Nat => s.heap.size ≤ q) RL cL_law 9 := hC
  have hE : Env0 (V.1, V.2.1, ad) adV (fun q : Nat => s.heap.size ≤ q) s s.heap := en_E (V := (V.1, V.2.1, ad)) hts hLL hA dS hS
  have hScr : Scr (p, l, e, s, m, #[Value.ref b], below, meth, c) (V.1, V.2.1, ad) (fun q : Nat => s.heap.size ≤ q) L xs := ⟨by show va_X (ad 2000) L xs s s.heap; rw [dB]; exact hX, by show ad 2000 < s.heap.size; rw [dB]; exact hbl, by show ¬ s.heap.size ≤ ad 2000; rw [dB]; exact Nat.not_le.mpr hbl⟩
  obtain ⟨-, K⟩ := lw_28 (X := (p, l, e, s, m, #[Value.ref b], below, meth, c)) (V := (V.1, V.2.1, ad)) (A := (fun q : Nat => s.heap.size ≤ q)) (CC := 129) (SS := 3734) (σE := ((fun _ _ => 0), (fun _ _ => 0), (fun _ _ => 0), (fun _ => (0, 0, fun _ => 0)), 603072, 7198826)) hC2 hE hl hScr hL hr (fun q h => h) rfl rfl rfl (by decide) (by decide) (j_ini (c := 129) (n := 3734)) _ rfl
  refine K room_1 rfl rfl rfl rfl H locs hid ls 129 3734 hR g3 ?_ rfl rfl
  show lv_has ls c.maxLocals [(0, .ref (ad 2000)), (1, .ref (ad 0)), (2, .ref (ad 8)), (3, .ref (ad 9)), (4, .ref (ad 10)), (5, .int (nI 0))]
  rw [hml, dB, d0, d8, d9, d10]
  exact g4
