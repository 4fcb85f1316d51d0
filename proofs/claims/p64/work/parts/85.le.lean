/-! ===== the law's end; its calls; the script ===== -/
def sgE : Mem := ((fun _ _ => 0), (fun _ _ => 0), (fun _ _ => 0), (fun _ => (0, 0, fun _ => 0)), 673738, 7064776)
/-- the law's end with 1: its room is enough -/
def finS (s : Mem) : Res Int32 := if nC s ≤ 673738 ∧ nS s ≤ 7064776 then some (.inl 1, sgE) else none
def LwF (X : Cx) (b : Nat) : (Int32 ⊕ String) × Mem → Room → State → Prop := fun _ _ => lw_Z (xb X) #[Value.ref b] (xs X)
def LwW (X : Cx) (A : Nat → Prop) (b : Nat) : Prop := (xh X).sig.returnType = ret ∧ (∀ q, A q → (xs X).heap.size ≤ q) ∧ xa X = #[Value.ref b]
/-- what a call of 'cell' answers -/
def CellOK (X : Cx) (V : Vx) (A : Nat → Prop) (b : Nat) (cl : Int32 → Int32) : Prop := ∀ (pc : Nat) {lv : List (Nat × Value)} {rest : List Value} {σ : Mem} {r : Res Int32} {k : Int32}, decode cL_law pc = .ok (.invokestatic 367, 3) → 0 ≤ k → wdt rest ≤ 8 → LX X V A 2048 94400 0 0 (LwF X b) (pc + 3) lv (.int (cl k) :: rest) σ r → LX X V A 2048 94400 0 0 (LwF X b) pc lv (.int k :: .ref 2000 :: rest) σ r
/-- what follows an answer; of a throw nothing is said -/
def bindN {α β : Type} (x : Res β) (f : β → Mem → Res α) : Res α := match x with
  | some (.inl v, σ) => f v σ
  | _ => none
section
variable {X : Cx} {V : Vx} {A : Nat → Prop} {fr lo c0 s0 : Nat} {α β : Type} {F : (α ⊕ String) × Mem → Room → State → Prop} {pc : Nat} {lv : List (Nat × Value)} {rest st : List Value} {σ σ1 : Mem} {r : Res α} {own : String} {cc : ByteArray} {nL : Nat}
theorem lx_callN {adV : Nat → Nat} (hC : Cok X V A own cc nL) {y : MethodName} {w0 : Cond} {fr' lo' : Nat} {inb : β → Option Value} {as : List Value} {r0 : Res β} (hsat : Sat (xl X) y w0 fr' lo' inb as σ r0) (hrun : ∀ out0, RunOf X V A fr lo y w0 fr' lo' adV inb as σ out0 pc lv st rest) {f : β → Mem → Res α} (k : ∀ v σ1, r0 = some (.inl v, σ1) → LX X V A fr lo c0 s0 F (pc + 3) lv ((inb v).toList ++ rest) σ1 (f v σ1)) : LX X V A fr lo c0 s0 F pc lv st σ (bindN r0 f) := by
  rcases r0 with _ | ⟨o, σ1⟩
  · exact lx_none
  · rcases o with v | E
    · exact lx_callL hC hsat hrun rfl (k v σ1 rfl)
    · exact lx_none
theorem lx_callPN {adV : Nat → Nat} (hC : Cok X V A own cc nL) {y : MethodName} {w0 : Cond} {fr' lo' : Nat} {inb : β → Option Value} {as : List Value} {p0 : Option β} (hsat : Sat (xl X) y w0 fr' lo' inb as σ (pur σ p0)) (hrun : ∀ out0, RunOf X V A fr lo y w0 fr' lo' adV inb as σ out0 pc lv st rest) {f : β → Res α} (k : ∀ v, p0 = some v → LX X V A fr lo c0 s0 F (pc + 3) lv ((inb v).toList ++ rest) σ (f v)) : LX X V A fr lo c0 s0 F pc lv st σ (bindP p0 f) := by
  rcases p0 with _ | v
  · exact lx_none
  · exact lx_callL hC hsat hrun rfl (k v rfl)
theorem lx_callWN {adV : Nat → Nat} (hC : Cok X V A own cc nL) (hE : Env0 V adV A (xs X) (xs X).heap) {y : MethodName} {ccy : ByteArray} {nLy index : Nat} {ret : Option FieldType} {hh : List (Nat × Nat × Nat × Nat)} {fr' lo' : Nat} {inb : β → Option Value} {as : List Value} {r0 : Res β} (hsat : SatW (xl X) y (.codeWith y ccy nLy ret hh) fr' lo' inb as σ r0)
    (hw0 : Cond.codeWith y ccy nLy ret hh ∈ gw) (hini : Cond.initialized y.cls ∈ gw) (hlink : Cond.methodLink own index y ∈ gw) (hst : Cond.static y ∈ gw) (hd : y.cls ≠ "java/lang/invoke/MethodHandle" ∧ y.cls ≠ "java/lang/invoke/VarHandle" ∧ (parseMethodDescriptor y.desc).map (fun d => d.parameters.length) = some as.length)
    (hf : fr' + 1 ≤ fr) (hl : 8 + (nLy + 11) + lo' ≤ lo) (hw : wdt rest ≤ 8) (hdg : decode cc pc = .ok (.invokestatic index, 3)) (hstk : st = as.reverse ++ rest) {f : β → Mem → Res α} (k : ∀ v σ1, r0 = some (.inl v, σ1) → LX X V A fr lo c0 s0 F (pc + 3) lv ((inb v).toList ++ rest) σ1 (f v σ1)) : LX X V A fr lo c0 s0 F pc lv st σ (bindN r0 f) := by
  rcases r0 with _ | ⟨o, σ1⟩
  · exact lx_none
  · rcases o with v | E
    · exact lx_callW hC hE hsat hw0 hini hlink hst hd hf hl hw hdg hstk rfl (k v σ1 rfl)
    · exact lx_none
end
theorem lw_fin {X : Cx} {V : Vx} {A : Nat → Prop} {b pc : Nat} (hC : Cok X V A RL cL_law 13) (hx : LwW X A b) {lv : List (Nat × Value)} {σ : Mem} (hdg : decode cL_law pc = .ok (.ireturn, 1)) : LX X V A 2048 94400 0 0 (LwF X b) pc lv [.int 1] σ (finS σ) := by
  unfold finS
  refine lx_if fun hn => ?_
  obtain ⟨hr, hA, ha⟩ := hx
  intro out h1
  cases h1
  refine ⟨hn, fun R h2 h3 h4 h5 H locs hid ls cells slots g1 g2 g3 g4 g5 => ?_⟩
  obtain ⟨f1, f2, f3, f4⟩ := R
  have k2 : f1 = 2048 := h2
  have k3 : f4 = 94400 := h3
  have k4 : 673738 = f2 := Eq.trans (show 673738 = 0 + f2 from h4) (Nat.zero_add f2)
  have k5 : 7064776 = f3 := Eq.trans (show 7064776 = 0 + f3 from h5) (Nat.zero_add f3)
  clear h2 h3 h4 h5
  subst k2
  subst k3
  subst k4
  subst k5
  obtain ⟨p, l, e, s, m, a, below, meth, c⟩ := X
  have ha : a = #[Value.ref b] := ha
  subst ha
  obtain ⟨n1, n2⟩ := hn
  have g4' : cells ≤ 673738 := by have g4 : nC σ = 0 + cells := g4; omega
  have g5' : slots ≤ 7064776 := by have g5 : nS σ = 0 + slots := g5; omega
  exact W.widen (k := 673738) (n := 7064776) g4' g5' (va_forget (fun q hq => hA _ (g2.2.2 q hq)) (lw_ret hC.1 hC.2.1 hr hC.2.2.2.2.2.2.2 hdg))
/-! the script's cells -/
def cellv (L : Nat) (ys : Nat → Int32) (k : Int32) : Int32 := if Int32.ofNat L ≤ k then 7919 * k + 12 else ys k.toNatClampNeg
theorem cell_in {L : Nat} {k : Int32} (hL : L < 2 ^ 31) (h0 : 0 ≤ k) (h : ¬ Int32.ofNat L ≤ k) : vp_in k L := by
  rintro (q | q)
  · rw [Int32.lt_iff_toInt_lt] at q
    rw [Int32.le_iff_toInt_le] at h0
    omega
  · apply h
    rw [Int32.le_iff_toInt_le, Int32.toInt_ofNat_of_lt hL]
    have : (k.toNatClampNeg : Int) = max k.toInt 0 := by
      show ((k.toInt.toNat : Nat) : Int) = _
      omega
    rw [Int32.le_iff_toInt_le] at h0
    have h0 : 0 ≤ k.toInt := h0
    omega
def ClQ (b L : Nat) (ys : Nat → Int32) (k : Int32) (sz : Nat) : Array Value → State → Outcome → State → Prop := fun _ st oc t => oc = .returned (some (.int (cellv L ys k))) ∧ va_F (fun q => sz ≤ q) st t
def ClP (b L : Nat) (ys : Nat → Int32) (k : Int32) (sz : Nat) : Array Value → State → Prop := va_Pc [.ref b, .int k] (fun U => U.heap.size = sz ∧ va_X b L ys U U.heap)
theorem cell_met (l : Launch) {b L : Nat} {ys : Nat → Int32} {k : Int32} (hL : L < 2 ^ 31) (h0 : 0 ≤ k) (sz : Nat) : Met l yL_cell (.code yL_cell cL_cell 2 (some .int) :: gw) { frames := 0, cells := 0, slots := 0, locals := 30 } (ClP b L ys k sz) (ClQ b L ys k sz) 0 0 (fun q => sz ≤ q) := by
  refine Met.ofW (cc := cL_cell) (maxL := 2) (ret := some .int) (by decide) rfl ?_
  intro p e s m args below meth c s₁ B hml hv
  obtain ⟨rfl, hsz, hX⟩ := hv
  subst hsz
  have hbl : b < s.heap.size := by
    obtain ⟨scr, h1, -⟩ := hX
    exact (Array.getElem?_eq_some_iff.mp h1).1
  have hx := B.exec
  have hb := B.bytes
  have hlv := lv_entry [Value.ref b, .int k] (n := 2) (Nat.le_of_ble_eq_true rfl)
  rw [lg_entry_eq]
  have hq : ∀ v, cellv L ys k = v → ∀ t : State, t.heap = s.heap → ClQ b L ys k s.heap.size [Value.ref b, Value.int k].toArray s (.returned (some (.int v))) t := fun v hv t ht => ⟨by rw [hv], Nat.le_of_eq (by rw [ht]), fun q _ _ => by rw [ht]⟩
  refine lv_iload_n hx hb dL_cell_0 rfl (lv_at hlv 1 rfl) ?_
  refine lv_aload_n hx hb dL_cell_1 rfl (lv_at hlv 0 rfl) ?_
  refine va_slen hx hb hX hbl (show ¬ s.heap.size ≤ b from Nat.not_le.mpr hbl) (A := fun q => s.heap.size ≤ q) va_S.rf dL_cell_2 ?_
  refine lv_icmp_ge (tgt := 12) hx hb dL_cell_3 (by decide) (fun h => ?_) (fun h => ?_)
  · refine lv_sipush (v := 7919) hx hb dL_cell_12 (by decide) ?_
    refine lv_iload_n hx hb dL_cell_15 rfl (lv_at hlv 1 rfl) ?_
    refine lv_imul hx hb dL_cell_16 ?_
    refine lv_bipush (v := 12) hx hb dL_cell_17 (by decide) ?_
    refine lv_iadd hx hb dL_cell_19 ?_
    exact W.iret hx hb B.returns (fun t ht _ => hq _ (by unfold cellv; rw [if_pos h]) t ht) (fun q hq => by cases hq) dL_cell_20 B.notSynchronized
  · refine lv_aload_n hx hb dL_cell_6 rfl (lv_at hlv 0 rfl) ?_
    refine lv_iload_n hx hb dL_cell_7 rfl (lv_at hlv 1 rfl) ?_
    refine va_sld hx hb hX hbl (show ¬ s.heap.size ≤ b from Nat.not_le.mpr hbl) (A := fun q => s.heap.size ≤ q) va_S.rf (cell_in hL h0 h) dL_cell_8 ?_
    refine lv_goto (tgt := 20) hx hb dL_cell_9 (by decide) ?_
    exact W.iret hx hb B.returns (fun t ht _ => hq _ (by unfold cellv; rw [if_neg h]) t ht) (fun q hq => by cases hq) dL_cell_20 B.notSynchronized
theorem clp_blind {b L : Nat} {ys : Nat → Int32} {k : Int32} {sz : Nat} : FrameBlind (ClP b L ys k sz) := fun a U g mk z => by
  obtain ⟨z0, z1, z2⟩ := z
  exact ⟨z0, z1, va_X.moved (u := U) (U := U.calling g mk a) (Vm.Alike.refl U.vm) z2⟩
theorem cw_L_cell : Cond.code yL_cell cL_cell 2 (some .int) ∈ gw := gwt3 (List.mem_of_getElem? (i := 141) rfl) (by decide +kernel)
theorem cs_L_cell : Cond.static yL_cell ∈ gw := gwt3 (List.mem_of_getElem? (i := 140) rfl) (by decide +kernel)
theorem cd_L_cell : yL_cell.cls ≠ "java/lang/invoke/MethodHandle" ∧ yL_cell.cls ≠ "java/lang/invoke/VarHandle" ∧ (parseMethodDescriptor yL_cell.desc).map (fun d => d.parameters.length) = some 2 := ⟨by decide, by decide, by decide +kernel⟩
theorem wdCELL : Cond.methodLink RL 367 yL_cell ∈ gw := gwt3 (List.mem_of_getElem? (i := 139) rfl) (by decide +kernel)
theorem cell_ok {X : Cx} {V : Vx} {A : Nat → Prop} {b L : Nat} {ys : Nat → Int32} (hC : Cok X V A RL cL_law 13) (hL : L < 2 ^ 31) (hA : ∀ q, A q → (xs X).heap.size ≤ q) (hX : va_X (V.2.2 2000) L ys (xs X) (xs X).heap) : CellOK X V A b (cellv L ys) := by
  intro pc lv rest σ r k hdg h0 hw kk
  have hbl : V.2.2 2000 < (xs X).heap.size := by
    obtain ⟨scr, h1, -⟩ := hX
    exact (Array.getElem?_eq_some_iff.mp h1).1
  intro out h1
  obtain ⟨hm, K⟩ := kk out h1
  refine ⟨hm, fun R h2 h3 h4 h5 H locs hid ls cells slots g1 g2 g3 g4 g5 => ?_⟩
  have hX1 : va_X (V.2.2 2000) L ys (xs X) H := hX.kept (g2.2.1 _ hbl (fun z => absurd (hA _ z) (Nat.not_le.mpr hbl)))
  have hwd : ((rest.map (cv V.2.2)).map fun v => v.category).sum = wdt rest := wdt_cv _ _
  have hr : va_Run (xp X) (xl X) (xe X) R (xs X) (xm X) (xa X) (xb X) (xh X) (xc X) H locs cells slots 0 0 (F0 (xm X) pc ls (.int k :: .ref (V.2.2 2000) :: rest.map (cv V.2.2))) (rest.map (cv V.2.2)) (ClQ (V.2.2 2000) L ys k H.size [Value.ref (V.2.2 2000), .int k].toArray) (fun q => H.size ≤ q) := va_runS (cells := cells) (slots := slots) (g := F0 (xm X) pc ls (.int k :: .ref (V.2.2 2000) :: rest.map (cv V.2.2))) (rest := rest.map (cv V.2.2)) (As := [.ref (V.2.2 2000), .int k]) ⟨hC.1, hC.2.1, hC.2.2.1, hC.2.2.2.1, hC.2.2.2.2.1⟩ (cell_met (xl X) (b := V.2.2 2000) (ys := ys) hL h0 H.size) ⟨callB_gw (R := R) (n := 2) hC cw_L_cell ciL wdCELL cd_L_cell (by rw [h2]; decide) (by rw [h3]; decide), lx_words hC cs_L_cell⟩ ⟨clp_blind, fun U hU hW => ⟨rfl, by rw [hU], by rw [hU]; exact va_X.moved hW.alike hX1⟩⟩ rfl rfl (by show ls.size = 13; rw [← hC.2.2.1]; exact g3.1) rfl (by show 2 * 0 + _ ≤ 8; omega) hdg ⟨by omega, by omega⟩
  intro T hT Xs
  obtain ⟨v', st₀, t, T', L', h0', X', hL', e1, e2, ⟨ho, hF⟩, st⟩ := hr T hT Xs
  cases ho
  obtain ⟨k1, k2, k3⟩ := vx_keep h0' e1 g2 (fun q hq z => absurd z (Nat.not_le.mpr hq)) (fun q hq => hC.2.2.2.2.2.2.1 q (Nat.le_trans g2.1 hq)) hL' hF
  have hR1 : Rep V hid A σ T'.heap := g1.grow ⟨fun _ _ => rfl, fun _ _ => rfl, fun _ _ => rfl, fun _ => rfl⟩ (fun q hq => k2 q hq (fun z => absurd z (Nat.not_le.mpr hq)))
  obtain ⟨t2, a1, b1⟩ := K R h2 h3 h4 h5 T'.heap (locs ++ L') hid ls cells slots hR1 k3 g3 g4 g5 T' rfl X'
  exact ⟨t2, st t2 a1, b1⟩
