/-! ===== the law's end ===== -/
theorem lw_end {X : Cx} {V : Vx} {A : Nat → Prop} {b : Nat} (hC : Cok X V A RL cL_law 9) (hr : (xh X).sig.returnType = ret) (hA : ∀ q, A q → (xs X).heap.size ≤ q) (ha : xa X = #[Value.ref b]) {lv : List (Nat × Value)} {σ σE : Mem} (hc : nC σ ≤ 603072) (hs : nS σ ≤ 7198826) (e1 : nC σE = 603072) (e2 : nS σE = 7198826) : LX X V A 2048 94400 0 0 (fun _ _ => lw_Z (xb X) #[Value.ref b] (xs X)) 3347 lv [] σ (some ((Sum.inl (1 : Int32) : Int32 ⊕ String), σE)) := by
  refine lx_iconstv (v := 1) hC dL_law_3347 rfl ?_
  intro out h1
  cases h1
  dsimp only
  refine ⟨⟨by omega, by omega⟩, fun R h2 h3 h4 h5 H locs hid ls cells slots g1 g2 g3 g4 g5 => ?_⟩
  have hR : R = room_1 := by
    obtain ⟨f1, f2, f3, f4⟩ := R
    dsimp only at h2 h3 h4 h5
    unfold room_1
    congr 1 <;> omega
  subst hR
  obtain ⟨p, l, e, s, m, a, below, meth, c⟩ := X
  have ha : a = #[Value.ref b] := ha
  subst ha
  exact W.base (W.widen (k := 603072) (n := 7198826) (by omega) (by omega) (va_forget (fun q hq => hA _ (g2.2.2 q hq)) (lw_ret (Drawn.sameBut.refl s.drawn lw_cs) hC.1 hC.2.1 hr hC.2.2.2.2.2.2.2 dL_law_3348)))
/-- from the loop's head on -/
theorem lw_28 {X : Cx} {V : Vx} {A : Nat → Prop} {adV : Nat → Nat} {b L CC SS : Nat} {ys : Nat → Int32} {A0 : Ab} (hC : Cok X V A RL cL_law 9) (hE : Env0 V adV A (xs X) (xs X).heap) (hl : (xl X).stackTraces = false) (hS : Scr X V A L ys) (hL : L ≤ 1536) (hr : (xh X).sig.returnType = ret) (hA : ∀ q, A q → (xs X).heap.size ≤ q) (ha : xa X = #[Value.ref b]) {σ σE : Mem} (e1 : nC σE = 603072) (e2 : nS σE = 7198826) (hCC : CC ≤ 600000) (hSS : SS ≤ 7190000) (h : J CC SS 0 σ A0) : LX X V A 2048 94400 0 0 (fun _ _ => lw_Z (xb X) #[Value.ref b] (xs X)) 28 (LV (nI 0)) [] σ (some ((Sum.inl (1 : Int32) : Int32 ⊕ String), σE)) :=
  lw_loop hC hE hl hS hL (fun k σ1 A1 hk j => lw_end hC hr hA ha (by
    have h1 := j.2.2.2.2.1
    have h2 := j.2.2.2.1
    unfold cap at h1
    obtain ⟨h3, h4⟩ := h2
    omega) (by
    have h1 := j.2.2.2.2.2
    have h2 := j.2.2.2.1
    unfold cap at h1
    obtain ⟨h3, h4⟩ := h2
    omega) e1 e2) 513 0 σ A0 (by omega) (by omega) h
