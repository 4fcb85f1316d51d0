/-! ===== the law's walk: rules for what is known to answer ===== -/
section
variable {X : Cx} {V : Vx} {A : Nat → Prop} {fr lo c0 s0 : Nat} {α β : Type} {F : (α ⊕ String) × Mem → Room → State → Prop} {pc : Nat} {lv : List (Nat × Value)} {rest st : List Value} {σ σ1 : Mem} {r : Res α} {own : String} {cc : ByteArray} {nL : Nat}
theorem lx_callL {adV : Nat → Nat} (hC : Cok X V A own cc nL) {y : MethodName} {w0 : Cond} {fr' lo' : Nat} {inb : β → Option Value} {as : List Value} {r0 : Res β} (hsat : Sat (xl X) y w0 fr' lo' inb as σ r0) (hrun : ∀ out0, RunOf X V A fr lo y w0 fr' lo' adV inb as σ out0 pc lv st rest) {v : β} (h0 : r0 = some (.inl v, σ1)) (k : LX X V A fr lo c0 s0 F (pc + 3) lv ((inb v).toList ++ rest) σ1 r) : LX X V A fr lo c0 s0 F pc lv st σ r := by
  have h := lx_callG (c0 := c0) (s0 := s0) (F := F) hC hsat hrun (f := fun _ _ => r) (fun E σ1 e => by rw [h0] at e; cases e) (fun v' σ1' e => by rw [h0] at e; cases e; exact k)
  rw [h0] at h
  exact h
theorem lx_callW {adV : Nat → Nat} (hC : Cok X V A own cc nL) (hE : Env0 V adV A (xs X) (xs X).heap) {y : MethodName} {ccy : ByteArray} {nLy index : Nat} {ret : Option FieldType} {hh : List (Nat × Nat × Nat × Nat)} {fr' lo' : Nat} {inb : β → Option Value} {as : List Value} {r0 : Res β} (hsat : SatW (xl X) y (.codeWith y ccy nLy ret hh) fr' lo' inb as σ r0)
    (hw0 : Cond.codeWith y ccy nLy ret hh ∈ gw) (hini : Cond.initialized y.cls ∈ gw) (hlink : Cond.methodLink own index y ∈ gw) (hst : Cond.static y ∈ gw) (hd : y.cls ≠ "java/lang/invoke/MethodHandle" ∧ y.cls ≠ "java/lang/invoke/VarHandle" ∧ (parseMethodDescriptor y.desc).map (fun d => d.parameters.length) = some as.length)
    (hf : fr' + 1 ≤ fr) (hl : 8 + (nLy + 11) + lo' ≤ lo) (hw : wdt rest ≤ 8) (hdg : decode cc pc = .ok (.invokestatic index, 3)) (hstk : st = as.reverse ++ rest) {v : β} (h0 : r0 = some (.inl v, σ1)) (k : LX X V A fr lo c0 s0 F (pc + 3) lv ((inb v).toList ++ rest) σ1 r) : LX X V A fr lo c0 s0 F pc lv st σ r := by
  subst hstk
  intro out h1
  obtain ⟨hm0, S⟩ := hsat _ h0
  dsimp only at hm0 S
  obtain ⟨mc, emc⟩ : ∃ mc, nC σ1 = nC σ + mc := ⟨nC σ1 - nC σ, by omega⟩
  obtain ⟨ms, ems⟩ : ∃ ms, nS σ1 = nS σ + ms := ⟨nS σ1 - nS σ, by omega⟩
  obtain ⟨hm, K⟩ := k out h1
  refine ⟨⟨Nat.le_trans hm0.1 hm.1, Nat.le_trans hm0.2 hm.2⟩, fun R h2 h3 h4 h5 H locs hid ls cells slots g1 g2 g3 g4 g5 => ?_⟩
  have hA : ∀ q, H.size ≤ q → A q := fun q h => hC.2.2.2.2.2.2.1 q (Nat.le_trans g2.1 h)
  have hG : GoodIn gw (va_wsS own index y (Cond.codeWith y ccy nLy ret hh :: gw)) := fun w h => by
    have h : w ∈ [Cond.methodLink own index y, Cond.static y, Cond.initialized y.cls] ++ (Cond.codeWith y ccy nLy ret hh :: gw) := h
    refine gw_good w ?_
    rcases List.mem_append.mp h with h | h
    · rcases List.mem_cons.mp h with rfl | h
      · exact hlink
      rcases List.mem_cons.mp h with rfl | h
      · exact hst
      rcases List.mem_cons.mp h with rfl | h
      · exact hini
      · exact absurd h List.not_mem_nil
    · rcases List.mem_cons.mp h with rfl | h
      · exact hw0
      · exact h
  have hr : va_Run (xp X) (xl X) (xe X) R (xs X) (xm X) (xa X) (xb X) (xh X) (xc X) H locs cells slots mc ms (F0 (xm X) pc ls ((as.reverse ++ rest).map (cv V.2.2))) (rest.map (cv V.2.2)) (QC V (own1 V hid H.size) inb (.inl v, σ1) (as.map (cv V.2.2)).toArray) (own1 V hid H.size) :=
    vx_runSW (ws := Cond.codeWith y ccy nLy ret hh :: gw) ⟨hC.1, hC.2.1, hC.2.2.1, hC.2.2.2.1, hC.2.2.2.2.1⟩ (S V hid adV H.size mc ms emc ems) (vx_cwSW as.length hC.2.2.2.2.1 hG rfl rfl rfl hd (by show fr' + 1 ≤ R.frames ∧ 8 + (nLy + 11) + lo' ≤ R.locals; omega)) ⟨prc_blind, prc_at hC hE g1 g2⟩ rfl (by simp) (by show ls.size = nL; rw [← hC.2.2.1]; exact g3.1) (by show List.map _ _ = _; rw [List.map_append, List.map_reverse]) (by show 2 * 0 + _ ≤ 8; rw [show ((rest.map (cv V.2.2)).map fun v => v.category).sum = wdt rest from wdt_cv _ _]; omega) hdg ⟨by omega, by omega⟩
  intro T hT Xs
  obtain ⟨v', st₀, t, T', L, h0', X', hL, e1, e2, ⟨⟨v1, hv1, ho, hid1, hR1⟩, hF⟩, st⟩ := hr T hT Xs
  cases hv1
  cases ho
  obtain ⟨k1, k2, k3⟩ := vx_keep h0' e1 g2 (fun q _ z => g1.free hA q z) (g1.free hA) hL hF
  obtain ⟨t2, a1, b1⟩ := K R h2 h3 h4 h5 T'.heap (locs ++ L) hid1 ls (cells + mc) (slots + ms) (by rw [e1]; exact hR1.weaken (g1.free hA)) k3 g3 (by omega) (by omega) T' rfl X'
  refine ⟨t2, st t2 ?_, b1⟩
  have e9 : ((inb v).map (cv V.2.2)).toList ++ rest.map (cv V.2.2) = ((inb v).toList ++ rest).map (cv V.2.2) := by cases inb v <;> rfl
  show Steps _ _ _ (T'.setTop { F0 (xm X) pc ls _ with pc := pc + 3, stack := ((inb v).map (cv V.2.2)).toList ++ rest.map (cv V.2.2) }) t2
  rw [e9]
  exact a1
theorem lx_eqT (hC : Cok X V A own cc nL) {x y : Int32} {off : Int} (tgt : Nat) (hdg : decode cc pc = .ok (.if_icmp .eq off, 3)) (ht : (pc : Int) + off = (tgt : Int)) (h : x = y) (k : LX X V A fr lo c0 s0 F tgt lv rest σ r) : LX X V A fr lo c0 s0 F pc lv (.int y :: .int x :: rest) σ r := by
  have e := lx_icmp_eq (x := x) (y := y) (r2 := none) hC tgt hdg ht k lx_none
  rw [if_pos h] at e
  exact e
theorem lx_gtT (hC : Cok X V A own cc nL) {x y : Int32} {off : Int} (tgt : Nat) (hdg : decode cc pc = .ok (.if_icmp .gt off, 3)) (ht : (pc : Int) + off = (tgt : Int)) (h : y < x) (k : LX X V A fr lo c0 s0 F tgt lv rest σ r) : LX X V A fr lo c0 s0 F pc lv (.int y :: .int x :: rest) σ r := by
  have e := lx_icmp_gt (x := x) (y := y) (r2 := none) hC tgt hdg ht k lx_none
  rw [if_pos h] at e
  exact e
theorem lx_gtF (hC : Cok X V A own cc nL) {x y : Int32} {off : Int} (tgt : Nat) (hdg : decode cc pc = .ok (.if_icmp .gt off, 3)) (ht : (pc : Int) + off = (tgt : Int)) (h : ¬ y < x) (k : LX X V A fr lo c0 s0 F (pc + 3) lv rest σ r) : LX X V A fr lo c0 s0 F pc lv (.int y :: .int x :: rest) σ r := by
  have e := lx_icmp_gt (x := x) (y := y) (r1 := none) hC tgt hdg ht lx_none k
  rw [if_neg h] at e
  exact e
theorem lx_zT (hC : Cok X V A own cc nL) {x : Int32} {off : Int} (tgt : Nat) (hdg : decode cc pc = .ok (.ifCond .eq off, 3)) (ht : (pc : Int) + off = (tgt : Int)) (h : x = 0) (k : LX X V A fr lo c0 s0 F tgt lv rest σ r) : LX X V A fr lo c0 s0 F pc lv (.int x :: rest) σ r := by
  have e := lx_if_eq (x := x) (r2 := none) hC tgt hdg ht k lx_none
  rw [if_pos h] at e
  exact e
theorem lx_zF (hC : Cok X V A own cc nL) {x : Int32} {off : Int} (tgt : Nat) (hdg : decode cc pc = .ok (.ifCond .eq off, 3)) (ht : (pc : Int) + off = (tgt : Int)) (h : ¬ x = 0) (k : LX X V A fr lo c0 s0 F (pc + 3) lv rest σ r) : LX X V A fr lo c0 s0 F pc lv (.int x :: rest) σ r := by
  have e := lx_if_eq (x := x) (r1 := none) hC tgt hdg ht lx_none k
  rw [if_neg h] at e
  exact e
theorem lx_nT (hC : Cok X V A own cc nL) {x : Int32} {off : Int} (tgt : Nat) (hdg : decode cc pc = .ok (.ifCond .ne off, 3)) (ht : (pc : Int) + off = (tgt : Int)) (h : ¬ x = 0) (k : LX X V A fr lo c0 s0 F tgt lv rest σ r) : LX X V A fr lo c0 s0 F pc lv (.int x :: rest) σ r := by
  have e := lx_if_ne (x := x) (r2 := none) hC tgt hdg ht k lx_none
  rw [if_pos h] at e
  exact e
theorem lx_nF (hC : Cok X V A own cc nL) {x : Int32} {off : Int} (tgt : Nat) (hdg : decode cc pc = .ok (.ifCond .ne off, 3)) (ht : (pc : Int) + off = (tgt : Int)) (h : x = 0) (k : LX X V A fr lo c0 s0 F (pc + 3) lv rest σ r) : LX X V A fr lo c0 s0 F pc lv (.int x :: rest) σ r := by
  have e := lx_if_ne (x := x) (r1 := none) hC tgt hdg ht lx_none k
  rw [if_neg (show ¬ ¬ x = 0 from fun z => z h)] at e
  exact e
/-- out[0], outD[0] -/
theorem lx_out (hC : Cok X V A own cc nL) (hdg : decode cc pc = .ok (.laload, 1)) (k : LX X V A fr lo c0 s0 F (pc + 1) lv (.long (gJ σ 9 0) :: rest) σ r) : LX X V A fr lo c0 s0 F pc lv (.int 0 :: .ref 9 :: rest) σ r := by
  have e := lx_laload (c := 9) (N := 1) (i := 0) hC ly9 hdg k
  rw [if_pos (show ib (0 : Int32) 1 by decide)] at e
  exact e
theorem lx_outD (hC : Cok X V A own cc nL) (hdg : decode cc pc = .ok (.daload, 1)) (k : LX X V A fr lo c0 s0 F (pc + 1) lv (.double (gD σ 10 0) :: rest) σ r) : LX X V A fr lo c0 s0 F pc lv (.int 0 :: .ref 10 :: rest) σ r := by
  have e := lx_daload (c := 10) (N := 1) (i := 0) hC ly10 hdg k
  rw [if_pos (show ib (0 : Int32) 1 by decide)] at e
  exact e
/-- the script, at 2000 -/
def Scr (X : Cx) (V : Vx) (A : Nat → Prop) (L : Nat) (ys : Nat → Int32) : Prop := va_X (V.2.2 2000) L ys (xs X) (xs X).heap ∧ V.2.2 2000 < (xs X).heap.size ∧ ¬ A (V.2.2 2000)
theorem lx_slen (hC : Cok X V A own cc nL) {L : Nat} {ys : Nat → Int32} (hS : Scr X V A L ys) (hdg : decode cc pc = .ok (.arraylength, 1)) (k : LX X V A fr lo c0 s0 F (pc + 1) lv (.int (nI L) :: rest) σ r) : LX X V A fr lo c0 s0 F pc lv (.ref 2000 :: rest) σ r := by
  intro out h1
  obtain ⟨hm, K⟩ := k out h1
  exact ⟨hm, fun R h2 h3 h4 h5 H locs hid ls cells slots g1 g2 g3 g4 g5 => va_slen hC.1 hC.2.1 hS.1 hS.2.1 hS.2.2 g2 hdg (K R h2 h3 h4 h5 H locs hid ls cells slots g1 g2 g3 g4 g5)⟩
theorem lx_sld (hC : Cok X V A own cc nL) {L : Nat} {ys : Nat → Int32} (hS : Scr X V A L ys) {i : Int32} {n : Nat} (hi : i = nI n) (hn : n < L) (hL : L ≤ 1536) (hdg : decode cc pc = .ok (.iaload, 1)) (k : LX X V A fr lo c0 s0 F (pc + 1) lv (.int (ys n) :: rest) σ r) : LX X V A fr lo c0 s0 F pc lv (.int i :: .ref 2000 :: rest) σ r := by
  have e : i.toNatClampNeg = n := by rw [hi]; exact nI_clamp (by omega)
  have hin : vp_in i L := by rw [hi]; exact nI_in hn (by omega)
  intro out h1
  obtain ⟨hm, K⟩ := k out h1
  refine ⟨hm, fun R h2 h3 h4 h5 H locs hid ls cells slots g1 g2 g3 g4 g5 => va_sld hC.1 hC.2.1 hS.1 hS.2.1 hS.2.2 g2 hin hdg ?_⟩
  rw [e]
  exact K R h2 h3 h4 h5 H locs hid ls cells slots g1 g2 g3 g4 g5
end
