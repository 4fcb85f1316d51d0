/-! ===== builders and texts: the walks ===== -/
theorem sb6 : ((6 : Nat) = 6 ∨ (6 : Nat) = 7) := Or.inl rfl
theorem sb7 : ((7 : Nat) = 6 ∨ (7 : Nat) = 7) := Or.inr rfl
theorem sbPut_mono (σ : Mem) (o w : Nat) (t : Nat → Nat) : nC σ ≤ nC (sbPut σ o w t) ∧ nS σ ≤ nS (sbPut σ o w t) := by
  unfold sbPut
  split
  · exact ⟨Nat.le_refl _, Nat.le_refl _⟩
  · exact ⟨Nat.le_add_right _ _, Nat.le_add_right _ _⟩
section
variable {X : Cx} {V : Vx} {A : Nat → Prop} {fr lo c0 s0 : Nat} {α β : Type} {inj : α → Option Value} {F : (α ⊕ String) × Mem → Room → State → Prop} {pc : Nat} {lv : List (Nat × Value)} {rest : List Value} {σ : Mem} {own : String} {cc : ByteArray} {nL : Nat}
theorem mn_sbC {o : Nat} {c : Int32} {f : Mem → Res α} (h : ∀ s1, Mn s1 (f s1)) : Mn σ (vl (sbC σ o c) f) := by
  intro out q
  have h1 := h _ out q
  have h2 := sbPut_mono σ o 1 (fun _ => c.toNatClampNeg)
  exact ⟨Nat.le_trans h2.1 h1.1, Nat.le_trans h2.2 h1.2⟩
theorem mn_sbI {o : Nat} {c : Int32} {f : Mem → Res α} (h : ∀ s1, Mn s1 (f s1)) : Mn σ (vl (sbI σ o c) f) := by
  intro out q
  have h1 := h _ out q
  have h2 := sbPut_mono σ o (sb_dg c.toNatClampNeg) (sb_dec c.toNatClampNeg)
  exact ⟨Nat.le_trans h2.1 h1.1, Nat.le_trans h2.2 h1.2⟩
def yS_length : MethodName := ⟨"java/lang/StringBuilder", "length", "()I"⟩
def yS_charAt : MethodName := ⟨"java/lang/StringBuilder", "charAt", "(I)C"⟩
def yS_appC : MethodName := ⟨"java/lang/StringBuilder", "append", "(C)Ljava/lang/StringBuilder;"⟩
def yS_appI : MethodName := ⟨"java/lang/StringBuilder", "append", "(I)Ljava/lang/StringBuilder;"⟩
def yS_setL : MethodName := ⟨"java/lang/StringBuilder", "setLength", "(I)V"⟩
def yT_length : MethodName := ⟨"java/lang/String", "length", "()I"⟩
def yT_charAt : MethodName := ⟨"java/lang/String", "charAt", "(I)C"⟩
theorem lx_sblen {adV : Nat → Nat} (hC : Cok X V A own cc nL) (hE : Env0 V adV A (xs X) (xs X).heap) {o index : Nat} (ho : o = 6 ∨ o = 7) (w1 : Cond.methodLink own index yS_length ∈ gw) (hf : 20 ≤ fr) (hl : 450 ≤ lo) (hw : wdt rest ≤ 8) {r : Res α} (hdg : decode cc pc = .ok (.invokevirtual index, 3)) (k : LX X V A fr lo c0 s0 F (pc + 3) lv (.int (nI (gB σ o).2.1) :: rest) σ r) : LX X V A fr lo c0 s0 F pc lv (.ref o :: rest) σ r := lxj_sblen hC hE ho w1 hf hl hw hdg k
theorem lx_sbch {adV : Nat → Nat} (hC : Cok X V A own cc nL) (hE : Env0 V adV A (xs X) (xs X).heap) {o index : Nat} (ho : o = 6 ∨ o = 7) (w1 : Cond.methodLink own index yS_charAt ∈ gw) (hf : 20 ≤ fr) (hl : 450 ≤ lo) (hw : wdt rest ≤ 8) {i : Int32} {r : Res α} (hdg : decode cc pc = .ok (.invokevirtual index, 3)) (k : LX X V A fr lo c0 s0 F (pc + 3) lv (.int (nI ((gB σ o).2.2 i.toNatClampNeg)) :: rest) σ r) : LX X V A fr lo c0 s0 F pc lv (.int i :: .ref o :: rest) σ (if ib i (gB σ o).2.1 then r else none) := lxj_sbch hC hE ho w1 hf hl hw hdg k
theorem lq_sbch {adV : Nat → Nat} (hC : Cok X V A own cc nL) (hE : Env0 V adV A (xs X) (xs X).heap) {o index : Nat} (ho : o = 6 ∨ o = 7) (w1 : Cond.methodLink own index yS_charAt ∈ gw) (hf : 20 ≤ fr) (hl : 450 ≤ lo) (hw : wdt rest ≤ 8) {i : Int32} {r : Option α} (hdg : decode cc pc = .ok (.invokevirtual index, 3)) (k : LX X V A fr lo c0 s0 F (pc + 3) lv (.int (nI ((gB σ o).2.2 i.toNatClampNeg)) :: rest) σ (pur σ r)) : LX X V A fr lo c0 s0 F pc lv (.int i :: .ref o :: rest) σ (pur σ (if ib i (gB σ o).2.1 then r else none)) := by
  rw [← pur_g]
  exact lx_sbch hC hE ho w1 hf hl hw hdg k
theorem lx_sbC {adV : Nat → Nat} (hC : Cok X V A own cc nL) (hE : Env0 V adV A (xs X) (xs X).heap) {o index : Nat} (ho : o = 6 ∨ o = 7) (w1 : Cond.methodLink own index yS_appC ∈ gw) (hf : 20 ≤ fr) (hl : 450 ≤ lo) (hw : wdt rest ≤ 8) {c : Int32} {f : Mem → Res α} (hdg : decode cc pc = .ok (.invokevirtual index, 3)) (k : ∀ s1, LX X V A fr lo c0 s0 F (pc + 3) lv (.ref o :: rest) s1 (f s1)) : LX X V A fr lo c0 s0 F pc lv (.int c :: .ref o :: rest) σ (if sbGC σ o c then vl (sbC σ o c) f else none) := lxj_sbC hC hE ho w1 hf hl hw hdg k
theorem lx_sbI {adV : Nat → Nat} (hC : Cok X V A own cc nL) (hE : Env0 V adV A (xs X) (xs X).heap) {o index : Nat} (ho : o = 6 ∨ o = 7) (w1 : Cond.methodLink own index yS_appI ∈ gw) (hf : 20 ≤ fr) (hl : 450 ≤ lo) (hw : wdt rest ≤ 8) {c : Int32} {f : Mem → Res α} (hdg : decode cc pc = .ok (.invokevirtual index, 3)) (k : ∀ s1, LX X V A fr lo c0 s0 F (pc + 3) lv (.ref o :: rest) s1 (f s1)) : LX X V A fr lo c0 s0 F pc lv (.int c :: .ref o :: rest) σ (if sbGI σ o c then vl (sbI σ o c) f else none) := lxj_sbI hC hE ho w1 hf hl hw hdg k
theorem lx_sbZ {adV : Nat → Nat} (hC : Cok X V A own cc nL) (hE : Env0 V adV A (xs X) (xs X).heap) {o index : Nat} (ho : o = 6 ∨ o = 7) (w1 : Cond.methodLink own index yS_setL ∈ gw) (hf : 20 ≤ fr) (hl : 450 ≤ lo) (hw : wdt rest ≤ 8) {f : Mem → Res α} (hdg : decode cc pc = .ok (.invokevirtual index, 3)) (k : ∀ s1, LX X V A fr lo c0 s0 F (pc + 3) lv rest s1 (f s1)) : LX X V A fr lo c0 s0 F pc lv (.int 0 :: .ref o :: rest) σ (vl (sbZ σ o) f) := lxj_sbZ hC hE ho w1 hf hl hw hdg k
theorem lx_stlen {adV : Nat → Nat} (hC : Cok X V A own cc nL) (hE : Env0 V adV A (xs X) (xs X).heap) {o index : Nat} (ho : isStr o) (w1 : Cond.methodLink own index yT_length ∈ gw) (hf : 20 ≤ fr) (hl : 450 ≤ lo) (hw : wdt rest ≤ 8) {r : Res α} (hdg : decode cc pc = .ok (.invokevirtual index, 3)) (k : LX X V A fr lo c0 s0 F (pc + 3) lv (.int (nI (strN o)) :: rest) σ r) : LX X V A fr lo c0 s0 F pc lv (.ref o :: rest) σ r := lxj_stlen hC hE ho w1 hf hl hw hdg k
theorem lx_stch {adV : Nat → Nat} (hC : Cok X V A own cc nL) (hE : Env0 V adV A (xs X) (xs X).heap) {o index : Nat} (ho : isStr o) (w1 : Cond.methodLink own index yT_charAt ∈ gw) (hf : 20 ≤ fr) (hl : 450 ≤ lo) (hw : wdt rest ≤ 8) {i : Int32} {r : Res α} (hdg : decode cc pc = .ok (.invokevirtual index, 3)) (k : LX X V A fr lo c0 s0 F (pc + 3) lv (.int (nI (strC o i.toNatClampNeg)) :: rest) σ r) : LX X V A fr lo c0 s0 F pc lv (.int i :: .ref o :: rest) σ (if ib i (strN o) then r else none) := lxj_stch hC hE ho w1 hf hl hw hdg k
theorem lq_stch {adV : Nat → Nat} (hC : Cok X V A own cc nL) (hE : Env0 V adV A (xs X) (xs X).heap) {o index : Nat} (ho : isStr o) (w1 : Cond.methodLink own index yT_charAt ∈ gw) (hf : 20 ≤ fr) (hl : 450 ≤ lo) (hw : wdt rest ≤ 8) {i : Int32} {r : Option α} (hdg : decode cc pc = .ok (.invokevirtual index, 3)) (k : LX X V A fr lo c0 s0 F (pc + 3) lv (.int (nI (strC o i.toNatClampNeg)) :: rest) σ (pur σ r)) : LX X V A fr lo c0 s0 F pc lv (.int i :: .ref o :: rest) σ (pur σ (if ib i (strN o) then r else none)) := by
  rw [← pur_g]
  exact lx_stch hC hE ho w1 hf hl hw hdg k
end
