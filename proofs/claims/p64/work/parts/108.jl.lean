/-! ===== builders and texts: the rows of the walks ===== -/
section
variable {X : Cx} {V : Vx} {A : Nat → Prop} {fr lo c0 s0 : Nat} {α : Type} {F : (α ⊕ String) × Mem → Room → State → Prop} {pc : Nat} {lv : List (Nat × Value)} {rest : List Value} {σ : Mem} {own : String} {cc : ByteArray} {nL : Nat}
theorem lxj_sblen {adV : Nat → Nat} (hC : Cok X V A own cc nL) (hE : Env0 V adV A (xs X) (xs X).heap) {o index : Nat} (ho : o = 6 ∨ o = 7) (w1 : Cond.methodLink own index yJ4_length_8abf5 ∈ gw) (hf : 20 ≤ fr) (hl : 450 ≤ lo) (hw : wdt rest ≤ 8) {r : Res α} (hdg : decode cc pc = .ok (.invokevirtual index, 3)) (k : LX X V A fr lo c0 s0 F (pc + 3) lv (.int (nI (gB σ o).2.1) :: rest) σ (r)) : LX X V A fr lo c0 s0 F pc lv (.ref o :: rest) σ (r) :=
  lx_sbG (as := []) (rv := some (.int (nI (gB σ o).2.1))) (σ' := σ) (mc := 0) (ms := 0) hC hE ho ⟨fun _ _ => rfl, fun _ _ => rfl, fun _ _ => rfl, fun _ _ => rfl⟩ rfl rfl rfl (fun q z a q3 q4 q5 q6 => ⟨_, kc_len (xl X) V adV, fun r w h => ⟨h.1, q, z, a, h.2, q3, q4, q5, q6⟩⟩) jw866 jw28 w1 jw865 jw1483 jd_J4_length_8abf5 (by omega) (by omega) hw hdg k
theorem lxj_sbch {adV : Nat → Nat} (hC : Cok X V A own cc nL) (hE : Env0 V adV A (xs X) (xs X).heap) {o index : Nat} (ho : o = 6 ∨ o = 7) (w1 : Cond.methodLink own index yJ4_charAt_5068e ∈ gw) (hf : 20 ≤ fr) (hl : 450 ≤ lo) (hw : wdt rest ≤ 8) {i : Int32} {r : Res α} (hdg : decode cc pc = .ok (.invokevirtual index, 3)) (k : LX X V A fr lo c0 s0 F (pc + 3) lv (.int (nI ((gB σ o).2.2 i.toNatClampNeg)) :: rest) σ (r)) : LX X V A fr lo c0 s0 F pc lv (.int i :: .ref o :: rest) σ (if ib i (gB σ o).2.1 then r else none) := by
  refine lx_if (fun hib => ?_)
  obtain ⟨j, hj, rfl⟩ := nI_of (x := i) (fun h => hib (Or.inl h))
  have hjn : j < (gB σ o).2.1 := Nat.not_le.mp fun h => hib (Or.inr (by rw [nI_clamp hj]; exact h))
  rw [nI_clamp hj] at k
  exact lx_sbG (as := [.int (nI j)]) (rv := some (.int (nI ((gB σ o).2.2 j)))) (σ' := σ) (mc := 0) (ms := 0) hC hE ho ⟨fun _ _ => rfl, fun _ _ => rfl, fun _ _ => rfl, fun _ _ => rfl⟩ rfl rfl rfl (fun q z a q3 q4 q5 q6 => ⟨_, kc_ch (i := j) (t := (gB σ o).2.2) (xl X) V adV q3 q4 q5 hjn, fun r w h => ⟨h.1, q, z, a, h.2, q3, q4, q5, q6⟩⟩) jw982 jw28 w1 jw980 jw981 jd_J4_charAt_5068e (by omega) (by omega) hw hdg k
theorem lxj_sbC {adV : Nat → Nat} (hC : Cok X V A own cc nL) (hE : Env0 V adV A (xs X) (xs X).heap) {o index : Nat} (ho : o = 6 ∨ o = 7) (w1 : Cond.methodLink own index yJ4_append_cf468 ∈ gw) (hf : 20 ≤ fr) (hl : 450 ≤ lo) (hw : wdt rest ≤ 8) {c : Int32} {f : Mem → Res α} (hdg : decode cc pc = .ok (.invokevirtual index, 3)) (k : ∀ s1, LX X V A fr lo c0 s0 F (pc + 3) lv (.ref o :: rest) s1 (f s1)) : LX X V A fr lo c0 s0 F pc lv (.int c :: .ref o :: rest) σ (if sbGC σ o c then vl (sbC σ o c) f else none) := by
  refine lx_if (fun hg => ?_)
  obtain ⟨j, hj, rfl⟩ := nI_of (x := c) (fun h => absurd hg.1.1 (Int32.not_le.mpr h))
  have hj2 : j < 256 := by
    have := (nI_leI (b := 255) hj (by decide)).mp hg.1.2
    omega
  have e : sbC σ o (nI j) = sbPut σ o 1 (fun _ => j) := by unfold sbC; rw [nI_clamp hj]
  unfold vl
  rw [e]
  exact lx_sbG (as := [.int (nI j)]) (rv := some (.ref o)) (σ' := sbPut σ o 1 (fun _ => j)) hC hE ho oth_put nC_put nS_put rfl (fun q z a q3 q4 q5 q6 => ⟨_, kc_appC (c := j) (xl X) V adV q3 hg.2 q4 q6 hj2, fun r w h => by
    obtain ⟨u, g, h1, h2, h3, h4, h5⟩ := h
    obtain ⟨b1, b2⟩ := jcap_le (w := 1) hg.2 (by decide) q3 q4
    refine ⟨h1, u, z, g, ?_, ?_⟩
    · rw [gB_put]; exact h2
    · rw [gB_put]
      exact ⟨b1, b2, sb_latPut (w := 1) (s := fun _ => j) q5 h3 (fun i hi => by
        obtain rfl : i = 0 := by omega
        exact ⟨hj2, h4⟩), h5⟩⟩) jw945 jw28 w1 jw943 jw944 jd_J4_append_cf468 (by omega) (by omega) hw hdg (k _)
theorem lxj_sbI {adV : Nat → Nat} (hC : Cok X V A own cc nL) (hE : Env0 V adV A (xs X) (xs X).heap) {o index : Nat} (ho : o = 6 ∨ o = 7) (w1 : Cond.methodLink own index yJ4_append_bf812 ∈ gw) (hf : 20 ≤ fr) (hl : 450 ≤ lo) (hw : wdt rest ≤ 8) {c : Int32} {f : Mem → Res α} (hdg : decode cc pc = .ok (.invokevirtual index, 3)) (k : ∀ s1, LX X V A fr lo c0 s0 F (pc + 3) lv (.ref o :: rest) s1 (f s1)) : LX X V A fr lo c0 s0 F pc lv (.int c :: .ref o :: rest) σ (if sbGI σ o c then vl (sbI σ o c) f else none) := by
  refine lx_if (fun hg => ?_)
  obtain ⟨j, hj, rfl⟩ := nI_of (x := c) (fun h => absurd hg.1 (Int32.not_le.mpr h))
  have hd := sb_dg_in j
  have e : sbI σ o (nI j) = sbPut σ o (sb_dg j) (sb_dec j) := by unfold sbI; rw [nI_clamp hj]
  unfold vl
  rw [e]
  exact lx_sbG (as := [.int (nI j)]) (rv := some (.ref o)) (σ' := sbPut σ o (sb_dg j) (sb_dec j)) hC hE ho oth_put nC_put nS_put rfl (fun q z a q3 q4 q5 q6 => ⟨_, kc_appI (c := j) (xl X) V adV q3 hg.2 q4 q6 hj, fun r w h => by
    obtain ⟨u, g, h1, h2, h3, h4, h5⟩ := h
    obtain ⟨b1, b2⟩ := jcap_le (w := sb_dg j) hg.2 hd.2 q3 q4
    refine ⟨h1, u, z, g, ?_, ?_⟩
    · rw [gB_put]; exact h2
    · rw [gB_put]
      exact ⟨b1, b2, sb_latPut q5 h3 (fun i hi => ⟨by unfold sb_dec; omega, h4 i hi⟩), h5⟩⟩) jw822 jw28 w1 jw820 jw821 jd_J4_append_bf812 (by omega) (by omega) hw hdg (k _)
theorem lxj_sbZ {adV : Nat → Nat} (hC : Cok X V A own cc nL) (hE : Env0 V adV A (xs X) (xs X).heap) {o index : Nat} (ho : o = 6 ∨ o = 7) (w1 : Cond.methodLink own index yJ4_setLength_d00df ∈ gw) (hf : 20 ≤ fr) (hl : 450 ≤ lo) (hw : wdt rest ≤ 8) {f : Mem → Res α} (hdg : decode cc pc = .ok (.invokevirtual index, 3)) (k : ∀ s1, LX X V A fr lo c0 s0 F (pc + 3) lv (rest) s1 (f s1)) : LX X V A fr lo c0 s0 F pc lv (.int 0 :: .ref o :: rest) σ (vl (sbZ σ o) f) := by
  have eB : gB (sbZ σ o) o = ((gB σ o).1, 0, (gB σ o).2.2) := if_pos rfl
  exact lx_sbG (as := [.int (nI 0)]) (rv := none) (σ' := sbZ σ o) (mc := 0) (ms := 0) hC hE ho ⟨fun _ _ => rfl, fun _ _ => rfl, fun _ _ => rfl, fun c hc => if_neg hc⟩ rfl rfl rfl (fun q z a q3 q4 q5 q6 => ⟨_, kc_setL (xl X) V adV (by omega) q4 q6, fun r w h => by
    obtain ⟨h1, u, z2, g, h2, h3⟩ := h
    refine ⟨h1, u, z2, g, ?_, ?_⟩
    · rw [eB]; exact h2
    · rw [eB]; exact ⟨Nat.zero_le _, q4, fun j hj => absurd hj (Nat.not_lt_zero _), h3⟩⟩) jw689 jw28 w1 jw687 jw688 jd_J4_setLength_d00df (by omega) (by omega) hw hdg (k _)
theorem lxj_stlen {adV : Nat → Nat} (hC : Cok X V A own cc nL) (hE : Env0 V adV A (xs X) (xs X).heap) {o index : Nat} (ho : isStr o) (w1 : Cond.methodLink own index yJ0_length_8abf5 ∈ gw) (hf : 20 ≤ fr) (hl : 450 ≤ lo) (hw : wdt rest ≤ 8) {r : Res α} (hdg : decode cc pc = .ok (.invokevirtual index, 3)) (k : LX X V A fr lo c0 s0 F (pc + 3) lv (.int (nI (strN o)) :: rest) σ (r)) : LX X V A fr lo c0 s0 F pc lv (.ref o :: rest) σ (r) := by
  obtain ⟨i, hi, rfl⟩ : ∃ i, i < 54 ∧ 3000 + i = o := ⟨o - 3000, by have := ho.1; have := ho.2; omega, by have := ho.1; omega⟩
  obtain ⟨⟨e1, e2⟩, e3⟩ := st_all i hi
  have hi2 : i < strL.length := hi
  refine lx_stG (as := []) (i := i) hC hE hi2 rfl (kc_slen (xl X) V adV hi2) jw779 jw29 w1 jw777 jw778 jd_J0_length_8abf5 (by omega) (by omega) hw hdg ?_
  rw [e1]
  exact k
theorem lxj_stch {adV : Nat → Nat} (hC : Cok X V A own cc nL) (hE : Env0 V adV A (xs X) (xs X).heap) {o index : Nat} (ho : isStr o) (w1 : Cond.methodLink own index yJ0_charAt_5068e ∈ gw) (hf : 20 ≤ fr) (hl : 450 ≤ lo) (hw : wdt rest ≤ 8) {i : Int32} {r : Res α} (hdg : decode cc pc = .ok (.invokevirtual index, 3)) (k : LX X V A fr lo c0 s0 F (pc + 3) lv (.int (nI (strC o i.toNatClampNeg)) :: rest) σ (r)) : LX X V A fr lo c0 s0 F pc lv (.int i :: .ref o :: rest) σ (if ib i (strN o) then r else none) := by
  refine lx_if (fun hib => ?_)
  obtain ⟨q, hq, rfl⟩ : ∃ i, i < 54 ∧ 3000 + i = o := ⟨o - 3000, by have := ho.1; have := ho.2; omega, by have := ho.1; omega⟩
  obtain ⟨⟨e1, e2⟩, e3⟩ := st_all q hq
  have hi2 : q < strL.length := hq
  obtain ⟨j, hj, rfl⟩ := nI_of (x := i) (fun h => hib (Or.inl h))
  have hjn : j < (txL.getD q []).length := by
    rw [e1]
    exact Nat.not_le.mp fun h => hib (Or.inr (by rw [nI_clamp hj]; exact h))
  obtain ⟨e4, e5⟩ := e3 j hjn
  rw [nI_clamp hj] at k
  exact lx_stG (as := [.int (nI j)]) (i := q) hC hE hi2 rfl (kc_sch (xl X) V adV hi2 hjn e2 e4 e5) jw1127 jw29 w1 jw1125 jw1126 jd_J0_charAt_5068e (by omega) (by omega) hw hdg k
end
