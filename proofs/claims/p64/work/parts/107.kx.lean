/-! ===== builders and texts: from contracts over worlds to walks over the logical memory ===== -/
def sbE (V : Vx) (b u : Nat) (z : Int32) (n m : Nat) (g : Nat → Int32) : va_W := [(b, .inr (0, [.ref u, .int 0, .int z, .int (nI n)])), (u, .inl (V.2.1 3, (m, .inl g)))]
def SBP (V : Vx) (b : Nat) (rv : Option Value) (bb : Nat × Nat × (Nat → Nat)) : Option Value → va_W → Prop :=
  fun r w => r = rv ∧ ∃ (u : Nat) (z : Int32) (g : Nat → Int32), w = sbE V b u z bb.2.1 bb.1 g ∧ bb.2.1 ≤ bb.1 ∧ bb.1 ≤ 65536 ∧ sb_Lat bb.2.2 bb.2.1 g ∧ sb_Fit g
theorem cellAt_hid {V : Vx} {hid hid' : Nat → Nat} {σ : Mem} {H : Heap} {e : Nat × Nat × Nat × Nat} (hh : hid' e.1 = hid e.1) (h : cellAt V hid σ H e) : cellAt V hid' σ H e := by
  unfold cellAt at h ⊢
  rw [hh]
  exact h
section
variable {V : Vx} {hid : Nat → Nat} {σ : Mem} {H : Heap} {c x n : Nat}
theorem ca1 (h : t_OB (V.2.2 c) (V.1.1 x) n (V.1.2 x) H (fv V.2.2 σ c x)) : cellAt V hid σ H (c, 1, x, n) := by
  unfold cellAt
  simp only [reduceIte, Nat.reduceEqDiff]
  exact h
theorem ca2 (h : H[V.2.2 c]? = some (arrV (V.2.1 x) n (fun j => .int (gI σ c j)))) : cellAt V hid σ H (c, 2, x, n) := by
  unfold cellAt
  simp only [reduceIte, Nat.reduceEqDiff]
  exact h
theorem ca3 (h : H[V.2.2 c]? = some (arrV (V.2.1 x) n (fun j => .long (gJ σ c j)))) : cellAt V hid σ H (c, 3, x, n) := by
  unfold cellAt
  simp only [reduceIte, Nat.reduceEqDiff]
  exact h
theorem ca4 (h : H[V.2.2 c]? = some (arrV (V.2.1 x) n (fun j => .double (gD σ c j)))) : cellAt V hid σ H (c, 4, x, n) := by
  unfold cellAt
  simp only [reduceIte, Nat.reduceEqDiff]
  exact h
theorem ca5 (h : H[V.2.2 c]? = some (arrV (V.2.1 x) n (fun j => .ref (V.2.2 (arf c j))))) : cellAt V hid σ H (c, 5, x, n) := by
  unfold cellAt
  simp only [reduceIte, Nat.reduceEqDiff]
  exact h
theorem ca6 (h : sbAt V (hid c) (gB σ c) H c) : cellAt V hid σ H (c, 6, x, n) := by
  unfold cellAt
  simp only [reduceIte, Nat.reduceEqDiff]
  exact h
theorem ac6 (h : cellAt V hid σ H (c, 6, x, n)) : sbAt V (hid c) (gB σ c) H c := by
  unfold cellAt at h
  simp only [reduceIte, Nat.reduceEqDiff] at h
  exact h
end
theorem sb_in {V : Vx} {hid : Nat → Nat} {A : Nat → Prop} {σ : Mem} {H : Heap} (h : Rep V hid A σ H) {o : Nat} (ho : o = 6 ∨ o = 7) : sbAt V (hid o) (gB σ o) H o := by
  rcases ho with rfl | rfl
  · exact ac6 (h.1 _ ly6)
  · exact ac6 (h.1 _ ly7)
theorem sb_ent {o : Nat} (ho : o = 6 ∨ o = 7) {e : Nat × Nat × Nat × Nat} (he : e ∈ layL) (h : e.1 = o) : e = (o, 6, 0, 4) := by
  rcases ho with rfl | rfl
  · exact lay_nd e he _ ly6 h
  · exact lay_nd e he _ ly7 h
theorem sb_P {V : Vx} {H : Heap} {o q : Nat} {z : Int32} {n m : Nat} {a : Nat → Int32} (h1 : t_OB (V.2.2 o) (V.1.1 0) 4 (V.1.2 0) H (sbF q z n)) (h2 : H[q]? = some (arrV (V.2.1 3) m (fun j => .int (a j)))) : va_P V.1 clv (sbE V (V.2.2 o) q z n m a) H := by
  intro k x hx
  have hz : k < 2 := (List.getElem?_eq_some_iff.mp hx).1
  rcases (show k = 0 ∨ k = 1 by omega) with rfl | rfl <;> cases hx
  · refine ⟨(RJ4, TJ4, 4), rfl, h1.to (fun k hk => ?_)⟩
    rcases (show k = 0 ∨ k = 1 ∨ k = 2 ∨ k = 3 by omega) with rfl | rfl | rfl | rfl <;> rfl
  · exact h2
theorem rep_sb {V : Vx} {hid : Nat → Nat} {A : Nat → Prop} {σ σ' : Mem} {H H1 : Heap} {o u n m : Nat} {z z2 : Int32} {a g : Nat → Int32} (ho : o = 6 ∨ o = 7) (hR : Rep V hid A σ H)
    (hσ : (∀ c j, gI σ' c j = gI σ c j) ∧ (∀ c j, gJ σ' c j = gJ σ c j) ∧ (∀ c j, gD σ' c j = gD σ c j) ∧ ∀ c, c ≠ o → gB σ' c = gB σ c)
    (hP1 : va_P V.1 clv (sbE V (V.2.2 o) u z2 (gB σ' o).2.1 (gB σ' o).1 g) H1) (hD1 : va_D (va_A (sbE V (V.2.2 o) (hid o) z n m a) H.size) (sbE V (V.2.2 o) u z2 (gB σ' o).2.1 (gB σ' o).1 g))
    (e1 : (gB σ' o).2.1 ≤ (gB σ' o).1) (e2 : (gB σ' o).1 ≤ 65536) (e3 : sb_Lat (gB σ' o).2.2 (gB σ' o).2.1 g) (e4 : sb_Fit g)
    (hk : ∀ q : Nat, q < H.size → ¬ va_A (sbE V (V.2.2 o) (hid o) z n m a) H.size q → H1[q]? = H[q]?) (hA : ∀ q, va_A (sbE V (V.2.2 o) (hid o) z n m a) H.size q → A q) : Rep V (fun c => if c = o then u else hid c) A σ' H1 := by
  obtain ⟨h1, h2, h3, h4, h5⟩ := hR
  have heo : (o, 6, 0, 4) ∈ layL := by rcases ho with rfl | rfl; exact ly6; exact ly7
  have inW : ∀ q, va_A (sbE V (V.2.2 o) (hid o) z n m a) H.size q → q = V.2.2 o ∨ q = hid o ∨ H.size ≤ q := by
    rintro q (⟨k, e, hke⟩ | h)
    · have hz : k < 2 := (List.getElem?_eq_some_iff.mp hke).1
      rcases (show k = 0 ∨ k = 1 by omega) with rfl | rfl <;> cases hke
      · exact Or.inl rfl
      · exact Or.inr (Or.inl rfl)
    · exact Or.inr (Or.inr h)
  have keep : ∀ q : Nat, q < H.size → q ≠ V.2.2 o → q ≠ hid o → H1[q]? = H[q]? := fun q q1 q2 q3 => hk q q1 (fun z => by rcases inW q z with h | h | h; exact q2 h; exact q3 h; omega)
  have hu := hD1.2 1 (u, .inl (V.2.1 3, ((gB σ' o).1, .inl g))) rfl
  have hne : u ≠ V.2.2 o := fun z => absurd (hD1.1 1 0 _ _ rfl rfl z) (by decide)
  have hu2 : u = hid o ∨ H.size ≤ u := by
    rcases inW u hu with h | h | h
    · exact absurd h hne
    · exact Or.inl h
    · exact Or.inr h
  have lt : ∀ e ∈ layL, V.2.2 e.1 < H.size ∧ ((e.1 = 6 ∨ e.1 = 7) → hid e.1 < H.size) := fun e he => cell_lt he (h1 e he)
  have lt6 : hid 6 < H.size := (lt _ ly6).2 (Or.inl rfl)
  have lt7 : hid 7 < H.size := (lt _ ly7).2 (Or.inr rfl)
  have hnu : ∀ e ∈ layL, V.2.2 e.1 ≠ u := by
    intro e he z
    rcases hu2 with h | h
    · exact (h4 o ho).2 e he (z.trans h)
    · have := (lt e he).1
      omega
  refine ⟨fun e he => ?_, h2, h3, fun o' ho' => ?_, ?_⟩
  · by_cases hq : e.1 = o
    · have ee := sb_ent ho he hq
      subst ee
      refine ca6 ?_
      show sbAt V (if o = o then u else hid o) (gB σ' o) H1 o
      rw [if_pos rfl]
      obtain ⟨r, hr, hOB⟩ := hP1 0 _ rfl
      cases hr
      refine ⟨z2, g, hOB.to (fun k hk => ?_), hP1 1 _ rfl, e1, e2, e3, e4⟩
      rcases (show k = 0 ∨ k = 1 ∨ k = 2 ∨ k = 3 by have : k < 4 := hk; omega) with rfl | rfl | rfl | rfl <;> rfl
    · refine cellAt_hid (hid := hid) (if_neg hq) (cellAt_keep he (hσ.1 e.1) (hσ.2.1 e.1) (hσ.2.2.1 e.1) (hσ.2.2.2 e.1 hq) (keep _ (lt e he).1 (fun z => hq (h3 e he _ heo z)) ((h4 o ho).2 e he)) (fun o2 => keep _ ((lt e he).2 o2) (fun z => (h4 e.1 o2).2 _ heo z.symm) (fun z => ?_)) (h1 e he))
      rcases ho with rfl | rfl <;> rcases o2 with o2 | o2 <;> rw [o2] at z hq
      · exact hq rfl
      · exact h5 z.symm
      · exact h5 z
      · exact hq rfl
  · by_cases hq : o' = o
    · subst hq
      refine ⟨?_, fun e he => ?_⟩
      · show A (if o' = o' then u else hid o')
        rw [if_pos rfl]
        exact hA u hu
      · show _ ≠ (if o' = o' then u else hid o')
        rw [if_pos rfl]
        exact hnu e he
    · show A (if o' = o then u else hid o') ∧ ∀ e ∈ layL, V.2.2 e.1 ≠ (if o' = o then u else hid o')
      rw [if_neg hq]
      exact h4 o' ho'
  · rcases ho with rfl | rfl
    · show (if (6 : Nat) = 6 then u else hid 6) ≠ (if (7 : Nat) = 6 then u else hid 7)
      rw [if_pos rfl, if_neg (by decide)]
      rcases hu2 with h | h
      · rw [h]; exact h5
      · omega
    · show (if (6 : Nat) = 7 then u else hid 6) ≠ (if (7 : Nat) = 7 then u else hid 7)
      rw [if_neg (by decide), if_pos rfl]
      rcases hu2 with h | h
      · rw [h]; exact h5
      · omega
section
variable {X : Cx} {V : Vx} {A : Nat → Prop} {fr lo c0 s0 : Nat} {α : Type} {F : (α ⊕ String) × Mem → Room → State → Prop} {pc : Nat} {lv : List (Nat × Value)} {rest : List Value} {σ : Mem} {own : String} {cc : ByteArray} {nL : Nat}
theorem lx_sbG {adV : Nat → Nat} (hC : Cok X V A own cc nL) (hE : Env0 V adV A (xs X) (xs X).heap) {o : Nat} (ho : o = 6 ∨ o = 7) {y : MethodName} {ccy : ByteArray} {nLy : Nat} {ret : Option FieldType} {fr' lo' mc ms index : Nat} {as : List Value} {σ' : Mem} {rv : Option Value} {r : Res α}
    (hσ : (∀ c j, gI σ' c j = gI σ c j) ∧ (∀ c j, gJ σ' c j = gJ σ c j) ∧ (∀ c j, gD σ' c j = gD σ c j) ∧ ∀ c, c ≠ o → gB σ' c = gB σ c) (hn : nC σ' = nC σ + mc) (hs : nS σ' = nS σ + ms) (has : as.map (cv V.2.2) = as)
    (hk : ∀ (q : Nat) (z : Int32) (a : Nat → Int32), (gB σ o).2.1 ≤ (gB σ o).1 → (gB σ o).1 ≤ 65536 → sb_Lat (gB σ o).2.2 (gB σ o).2.1 a → sb_Fit a → ∃ post : Option Value → va_W → Prop, KC (xl X) y (.code y ccy nLy ret) fr' lo' mc ms (.ref (V.2.2 o) :: as) V adV (sbE V (V.2.2 o) q z (gB σ o).2.1 (gB σ o).1 a) post ∧ ∀ r w, post r w → SBP V (V.2.2 o) (rv.map (cv V.2.2)) (gB σ' o) r w)
    (hw0 : Cond.code y ccy nLy ret ∈ gw) (hini : Cond.initialized y.cls ∈ gw) (hlink : Cond.methodLink own index y ∈ gw) (hin : Cond.instanceMethod y ∈ gw) (hse : Cond.selects RJ4 y y ∈ gw) (hd : y.cls ≠ "java/lang/invoke/MethodHandle" ∧ y.cls ≠ "java/lang/invoke/VarHandle" ∧ (parseMethodDescriptor y.desc).map (fun d => d.parameters.length) = some as.length)
    (hf : fr' + 1 ≤ fr) (hl : 8 + (nLy + 11) + lo' ≤ lo) (hw : wdt rest ≤ 8) (hdg : decode cc pc = .ok (.invokevirtual index, 3)) (k : LX X V A fr lo c0 s0 F (pc + 3) lv (rv.toList ++ rest) σ' r) : LX X V A fr lo c0 s0 F pc lv (as.reverse ++ .ref o :: rest) σ r := by
  intro out h1
  obtain ⟨hm, K⟩ := k out h1
  refine ⟨⟨by omega, by omega⟩, fun R h2 h3 h4 h5 H locs hid ls cells slots g1 g2 g3 g4 g5 => ?_⟩
  obtain ⟨z, a, q1, q2, q3, q4, q5, q6⟩ := sb_in g1 ho
  have heo : (o, 6, 0, 4) ∈ layL := by rcases ho with rfl | rfl; exact ly6; exact ly7
  have hP : va_P V.1 clv (sbE V (V.2.2 o) (hid o) z (gB σ o).2.1 (gB σ o).1 a) H := sb_P q1 q2
  have hne : V.2.2 o ≠ hid o := (g1.2.2.2.1 o ho).2 _ heo
  have hD : va_D A (sbE V (V.2.2 o) (hid o) z (gB σ o).2.1 (gB σ o).1 a) := by
    refine ⟨fun i j x y hx hy h => ?_, fun k x hx => ?_⟩
    · have hi : i < 2 := (List.getElem?_eq_some_iff.mp hx).1
      have hj : j < 2 := (List.getElem?_eq_some_iff.mp hy).1
      rcases (show i = 0 ∨ i = 1 by omega) with rfl | rfl <;> rcases (show j = 0 ∨ j = 1 by omega) with rfl | rfl <;> cases hx <;> cases hy
      · rfl
      · exact absurd h hne
      · exact absurd h.symm hne
      · rfl
    · have hi : k < 2 := (List.getElem?_eq_some_iff.mp hx).1
      rcases (show k = 0 ∨ k = 1 by omega) with rfl | rfl <;> cases hx
      · exact g1.2.1 _ heo
      · exact (g1.2.2.2.1 o ho).1
  have hF : ∀ q, va_A (sbE V (V.2.2 o) (hid o) z (gB σ o).2.1 (gB σ o).1 a) H.size q → A q := by
    rintro q (⟨k, e, hke⟩ | h)
    · exact hD.2 k (q, e) hke
    · exact hC.2.2.2.2.2.2.1 q (Nat.le_trans g2.1 h)
  obtain ⟨post, hkc, hpost⟩ := hk (hid o) z a q3 q4 q5 q6
  have hrc : ∃ cell : Cell, H[V.2.2 o]? = some cell ∧ cell.vm.isStatics = false ∧ (xs X).vm.findClass RJ4 = some cell.cls := by
    obtain ⟨cellV, w1, w2, w3, -⟩ := q1
    exact ⟨cellV, w1, by rw [w3]; rfl, by rw [w2]; exact (hC.2.2.2.2.2.1.1 0 (RJ4, TJ4, 4) rfl).2.1⟩
  refine kc_call (va_runV (As := as) (b := V.2.2 o) (rest := rest.map (cv V.2.2)) ⟨hC.1, hC.2.1, hC.2.2.1, hC.2.2.2.1, hC.2.2.2.2.1⟩ (hkc H.size) ⟨callB_gw (R := R) hC hw0 hini hlink hd (by omega) (by omega), lx_words hC hin, lx_words hC hse⟩ ⟨kp_blind, hrc, kp_at hC hE.2.2.2.2.2.1 hP hD hF g2⟩ rfl rfl (by show ls.size = nL; rw [← hC.2.2.1]; exact g3.1) (by show List.map _ _ = _; rw [List.map_append, List.map_reverse, has]; rfl) (by show 2 * 0 + _ ≤ 8; rw [show ((rest.map (cv V.2.2)).map fun v => v.category).sum = wdt rest from wdt_cv _ _]; omega) hdg ⟨by omega, by omega⟩) g2 (fun z _ h => hF z h) hF (fun r1 w H1 locs1 hp hP1 hD1 hz hk1 hS1 => ?_)
  obtain ⟨rfl, u, z2, g, rfl, e1, e2, e3, e4⟩ := hpost r1 w hp
  have hgo := K R h2 h3 h4 h5 H1 locs1 _ ls (cells + mc) (slots + ms) (rep_sb ho g1 hσ hP1 hD1 e1 e2 e3 e4 hk1 hF) hS1 g3 (by omega) (by omega)
  rw [show (rv.map (cv V.2.2)).toList ++ rest.map (cv V.2.2) = (rv.toList ++ rest).map (cv V.2.2) by cases rv <;> simp]
  exact hgo
theorem lx_stG {adV : Nat → Nat} (hC : Cok X V A own cc nL) (hE : Env0 V adV A (xs X) (xs X).heap) {i : Nat} (hi : i < strL.length) {y : MethodName} {ccy : ByteArray} {nLy : Nat} {ret : Option FieldType} {fr' lo' index : Nat} {as : List Value} {x : Int32} {r : Res α} (has : as.map (cv V.2.2) = as)
    (hkc : KC (xl X) y (.code y ccy nLy ret) fr' lo' 0 0 (.ref (V.2.2 (3000 + i)) :: as) V adV [] (fun r w => r = some (.int x) ∧ w = []))
    (hw0 : Cond.code y ccy nLy ret ∈ gw) (hini : Cond.initialized y.cls ∈ gw) (hlink : Cond.methodLink own index y ∈ gw) (hin : Cond.instanceMethod y ∈ gw) (hse : Cond.selects RJ0 y y ∈ gw) (hd : y.cls ≠ "java/lang/invoke/MethodHandle" ∧ y.cls ≠ "java/lang/invoke/VarHandle" ∧ (parseMethodDescriptor y.desc).map (fun d => d.parameters.length) = some as.length)
    (hf : fr' + 1 ≤ fr) (hl : 8 + (nLy + 11) + lo' ≤ lo) (hw : wdt rest ≤ 8) (hdg : decode cc pc = .ok (.invokevirtual index, 3)) (k : LX X V A fr lo c0 s0 F (pc + 3) lv (.int x :: rest) σ r) : LX X V A fr lo c0 s0 F pc lv (as.reverse ++ .ref (3000 + i) :: rest) σ r := by
  intro out h1
  obtain ⟨hm, K⟩ := k out h1
  refine ⟨hm, fun R h2 h3 h4 h5 H locs hid ls cells slots g1 g2 g3 g4 g5 => ?_⟩
  have hJ := hE.2.2.2.2.2.1
  have hP : va_P V.1 clv [] H := fun k x hx => by cases hx
  have hD : va_D A [] := ⟨fun i j x y hx => (by cases hx), fun k x hx => (by cases hx)⟩
  have hF : ∀ q, va_A [] H.size q → A q := by
    rintro q (⟨k, e, hke⟩ | h)
    · cases hke
    · exact hC.2.2.2.2.2.2.1 q (Nat.le_trans g2.1 h)
  refine kc_call (va_runV (As := as) (b := V.2.2 (3000 + i)) (rest := rest.map (cv V.2.2)) ⟨hC.1, hC.2.1, hC.2.2.1, hC.2.2.2.1, hC.2.2.2.2.1⟩ (hkc H.size) ⟨callB_gw (R := R) hC hw0 hini hlink hd (by omega) (by omega), lx_words hC hin, lx_words hC hse⟩ ⟨kp_blind, va_Orecv (hJ.1 i hi).1 g2, kp_at hC hJ hP hD hF g2⟩ rfl rfl (by show ls.size = nL; rw [← hC.2.2.1]; exact g3.1) (by show List.map _ _ = _; rw [List.map_append, List.map_reverse, has]; rfl) (by show 2 * 0 + _ ≤ 8; rw [show ((rest.map (cv V.2.2)).map fun v => v.category).sum = wdt rest from wdt_cv _ _]; omega) hdg ⟨by omega, by omega⟩) g2 (fun z _ h => hF z h) hF (fun r1 w H1 locs1 hp hP1 hD1 hz hk1 hS1 => ?_)
  obtain ⟨rfl, rfl⟩ := hp
  have hR : Rep V hid A σ H1 := by
    have hl : ∀ e ∈ layL, V.2.2 e.1 < H.size ∧ ((e.1 = 6 ∨ e.1 = 7) → hid e.1 < H.size) := fun e he => cell_lt he (g1.1 e he)
    refine g1.grow ⟨fun _ _ => rfl, fun _ _ => rfl, fun _ _ => rfl, fun _ => rfl⟩ (fun q hq => hk1 q hq ?_)
    rintro (⟨k, e, hke⟩ | h)
    · cases hke
    · omega
  exact K R h2 h3 h4 h5 H1 locs1 hid ls cells slots hR hS1 g3 g4 g5
end
theorem gB_put {σ : Mem} {o w : Nat} {t : Nat → Nat} : gB (sbPut σ o w t) o = (jcap ((gB σ o).2.1 + w) (gB σ o).1, (gB σ o).2.1 + w, sb_cat (gB σ o).2.2 (gB σ o).2.1 t) := by
  unfold sbPut jcap
  split <;> simp [gB, pN, pB]
theorem nC_put {σ : Mem} {o w : Nat} {t : Nat → Nat} : nC (sbPut σ o w t) = nC σ + jmc ((gB σ o).2.1 + w) (gB σ o).1 := by
  unfold sbPut jmc
  split <;> simp [nC, pN, pB]
theorem nS_put {σ : Mem} {o w : Nat} {t : Nat → Nat} : nS (sbPut σ o w t) = nS σ + jms ((gB σ o).2.1 + w) (gB σ o).1 := by
  unfold sbPut jms
  split <;> simp [nS, pN, pB]
theorem oth_put {σ : Mem} {o w : Nat} {t : Nat → Nat} : (∀ c j, gI (sbPut σ o w t) c j = gI σ c j) ∧ (∀ c j, gJ (sbPut σ o w t) c j = gJ σ c j) ∧ (∀ c j, gD (sbPut σ o w t) c j = gD σ c j) ∧ ∀ c, c ≠ o → gB (sbPut σ o w t) c = gB σ c := by
  unfold sbPut
  split
  · exact ⟨fun _ _ => rfl, fun _ _ => rfl, fun _ _ => rfl, fun c hc => if_neg hc⟩
  · exact ⟨fun _ _ => rfl, fun _ _ => rfl, fun _ _ => rfl, fun c hc => if_neg hc⟩
theorem jcap_le {n w m : Nat} (hn : n ≤ 30000) (hw : w ≤ 10) (hnm : n ≤ m) (hm : m ≤ 65536) : n + w ≤ jcap (n + w) m ∧ jcap (n + w) m ≤ 65536 := by
  unfold jcap grown
  split <;> omega
