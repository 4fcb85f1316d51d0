/-! ===== what only reads: a computation that answers or not ===== -/
def pur {α : Type} (σ : Mem) (p : Option α) : Res α := p.map (fun v => (.inl v, σ))
theorem pur_ite {α : Type} {c : Prop} {_ : Decidable c} {σ : Mem} {a b : Option α} : (if c then pur σ a else pur σ b) = pur σ (if c then a else b) := by split <;> rfl
theorem pur_g {α : Type} {c : Prop} {_ : Decidable c} {σ : Mem} {a : Option α} : (if c then pur σ a else none) = pur σ (if c then a else none) := by split <;> rfl
theorem pur_eq {α : Type} {σ : Mem} {p : Option α} {o : (α ⊕ String) × Mem} (h : pur σ p = some o) : ∃ v, p = some v ∧ o = (.inl v, σ) := by
  cases p with
  | none => cases h
  | some v => exact ⟨v, rfl, (Option.some.inj h).symm⟩
theorem pur_mono {α : Type} {σ : Mem} {p : Option α} : ∀ out, pur σ p = some out → nC σ ≤ nC out.2 ∧ nS σ ≤ nS out.2 := by
  intro out h
  obtain ⟨v, -, rfl⟩ := pur_eq h
  exact ⟨Nat.le_refl _, Nat.le_refl _⟩
def bindP {α β : Type} (p : Option β) (f : β → Res α) : Res α := match p with
  | none => none
  | some v => f v
def bindO {α β : Type} (p : Option β) (f : β → Option α) : Option α := match p with
  | none => none
  | some v => f v
def lpO {α β : Type} (body : (α → Option β) → α → Option β) : Nat → α → Option β
  | 0, _ => none
  | n + 1, a => body (lpO body n) a
/-- what is made never grows less -/
def Mn {α : Type} (σ : Mem) (r : Res α) : Prop := ∀ out, r = some out → nC σ ≤ nC out.2 ∧ nS σ ≤ nS out.2
theorem mn_none {α : Type} {σ : Mem} : Mn σ (none : Res α) := fun _ h => nomatch h
theorem mn_some {α : Type} {σ : Mem} {o : α ⊕ String} : Mn σ (some (o, σ)) := fun _ h => by cases h; exact ⟨Nat.le_refl _, Nat.le_refl _⟩
theorem mn_thr {α : Type} {σ : Mem} {o : α ⊕ String} {c n : Nat} : Mn σ (some (o, pN σ c n)) := fun _ h => by cases h; exact ⟨Nat.le_add_right _ _, Nat.le_add_right _ _⟩
theorem mn_if {α : Type} {σ : Mem} {c : Prop} {_ : Decidable c} {a b : Res α} (h1 : Mn σ a) (h2 : Mn σ b) : Mn σ (if c then a else b) := by split <;> assumption
theorem mn_bind {α β : Type} {σ : Mem} {x : Res β} {f : β → Mem → Res α} (h1 : Mn σ x) (h2 : ∀ v σ1, Mn σ1 (f v σ1)) : Mn σ (bindR x f) := by
  intro out h
  cases x with
  | none => cases h
  | some o =>
    obtain ⟨o, σ1⟩ := o
    have h3 := h1 _ rfl
    cases o with
    | inl v => exact ⟨Nat.le_trans h3.1 (h2 v σ1 out h).1, Nat.le_trans h3.2 (h2 v σ1 out h).2⟩
    | inr E => cases h; exact h3
theorem mn_bindP {α β : Type} {σ : Mem} {x : Option β} {f : β → Res α} (h2 : ∀ v, Mn σ (f v)) : Mn σ (bindP x f) := by
  cases x with
  | none => exact mn_none
  | some v => exact h2 v
theorem mn_lp {α β : Type} {sg : α → Mem} {body : (α → Res β) → α → Res β} (h : ∀ kf : α → Res β, (∀ a, Mn (sg a) (kf a)) → ∀ a, Mn (sg a) (body kf a)) : ∀ n a, Mn (sg a) (lp body n a)
  | 0, _ => mn_none
  | n + 1, a => h (lp body n) (mn_lp h n) a
section
variable {X : Cx} {V : Vx} {A : Nat → Prop} {fr lo c0 s0 : Nat} {α β : Type} {inj : α → Option Value} {F : (α ⊕ String) × Mem → Room → State → Prop} {pc : Nat} {lv : List (Nat × Value)} {rest : List Value} {σ : Mem} {own : String} {cc : ByteArray} {nL : Nat}
theorem lq_g {c : Prop} {_ : Decidable c} {st : List Value} {r1 : Option α} (k : c → LX X V A fr lo c0 s0 F pc lv st σ (pur σ r1)) : LX X V A fr lo c0 s0 F pc lv st σ (pur σ (if c then r1 else none)) := by
  rw [← pur_g]
  exact lx_if k
theorem lx_callP {adV : Nat → Nat} (hC : Cok X V A own cc nL) (ht : ∀ x ∈ (xc X).exceptionTable.toList, False) {y : MethodName} {w0 : Cond} {fr' lo' : Nat} {inb : β → Option Value} {as st : List Value} {p0 : Option β} (hsat : Sat (xl X) y w0 fr' lo' inb as σ (pur σ p0)) (hrun : ∀ out0, RunOf X V A fr lo y w0 fr' lo' adV inb as σ out0 pc lv st rest) {f : β → Res α}
    (k : ∀ v, p0 = some v → LX X V A fr lo c0 s0 (FM X V A inj) (pc + 3) lv ((inb v).toList ++ rest) σ (f v)) : LX X V A fr lo c0 s0 (FM X V A inj) pc lv st σ (bindP p0 f) := by
  have e : bindP p0 f = bindR (pur σ p0) (fun v _ => f v) := by cases p0 <;> rfl
  rw [e]
  refine lx_callX hC ht hsat hrun (fun v σ1 h => ?_)
  obtain ⟨v', h1, h2⟩ := pur_eq h
  cases h2
  exact k v h1
theorem lq_call {adV : Nat → Nat} (hC : Cok X V A own cc nL) (ht : ∀ x ∈ (xc X).exceptionTable.toList, False) {y : MethodName} {w0 : Cond} {fr' lo' : Nat} {inb : β → Option Value} {as st : List Value} {p0 : Option β} (hsat : Sat (xl X) y w0 fr' lo' inb as σ (pur σ p0)) (hrun : ∀ out0, RunOf X V A fr lo y w0 fr' lo' adV inb as σ out0 pc lv st rest) {f : β → Option α}
    (k : ∀ v, p0 = some v → LX X V A fr lo c0 s0 (FM X V A inj) (pc + 3) lv ((inb v).toList ++ rest) σ (pur σ (f v))) : LX X V A fr lo c0 s0 (FM X V A inj) pc lv st σ (pur σ (bindO p0 f)) := by
  have e : pur σ (bindO p0 f) = bindP p0 (fun v => pur σ (f v)) := by cases p0 <;> rfl
  rw [e]
  exact lx_callP hC ht hsat hrun k
theorem lq_lp {lv : α → List (Nat × Value)} {st : α → List Value} {F : (β ⊕ String) × Mem → Room → State → Prop} {body : (α → Option β) → α → Option β}
    (h : ∀ kf : α → Option β, (∀ a, LX X V A fr lo c0 s0 F pc (lv a) (st a) σ (pur σ (kf a))) → ∀ a, LX X V A fr lo c0 s0 F pc (lv a) (st a) σ (pur σ (body kf a))) : ∀ n a, LX X V A fr lo c0 s0 F pc (lv a) (st a) σ (pur σ (lpO body n a))
  | 0, _ => lx_none
  | n + 1, a => h (lpO body n) (lq_lp h n) a
theorem lq_istore_nN (hC : Cok X V A own cc nL) {j : Fin 4} {i : Nat} {x : Int32} {f : Int32 → Option α} (hdg : decode cc pc = .ok (.istore_n j, 1)) (hi : (j : Nat) = i) (hn : i < nL) (k : ∀ y, LX X V A fr lo c0 s0 F (pc + 1) ((i, .int y) :: lv.filter (fun q => !(q.1 == i) && !(q.1 + 1 == i && q.2.category == 2))) rest σ (pur σ (f y))) : LX X V A fr lo c0 s0 F pc lv (.int x :: rest) σ (pur σ (vl x f)) := lx_istore_n hC hdg hi hn (k x)
theorem lq_istoreN (hC : Cok X V A own cc nL) {i : Nat} {x : Int32} {f : Int32 → Option α} (hdg : decode cc pc = .ok (.istore i, 2)) (hn : i < nL) (k : ∀ y, LX X V A fr lo c0 s0 F (pc + 2) ((i, .int y) :: lv.filter (fun q => !(q.1 == i) && !(q.1 + 1 == i && q.2.category == 2))) rest σ (pur σ (f y))) : LX X V A fr lo c0 s0 F pc lv (.int x :: rest) σ (pur σ (vl x f)) := lx_istore hC hdg hn (k x)
theorem lq_iincN (hC : Cok X V A own cc nL) {i : Nat} {n : Int} {x v : Int32} {f : Int32 → Option α} (hdg : decode cc pc = .ok (.iinc i n, 3)) (q : Nat) (hl : lv[q]? = some (i, .int x)) (hn : i < nL) (hv : Int32.ofInt n = v) (k : ∀ y, LX X V A fr lo c0 s0 F (pc + 3) ((i, .int y) :: lv.filter (fun q => !(q.1 == i) && !(q.1 + 1 == i && q.2.category == 2))) rest σ (pur σ (f y))) : LX X V A fr lo c0 s0 F pc lv rest σ (pur σ (vl (x + v) f)) := by
  subst hv
  exact lx_iinc hC hdg q hl hn (k _)
theorem lq_zretn (hC : Cok X V A own cc nL) {x : Int32} {u : α} {ty : FieldType} (hi : inj u = some (.int x)) (hr : (xh X).sig.returnType = some ty) (hty : ty = .boolean ∨ ty = .char ∨ ty = .byte) (hdg : decode cc pc = .ok (.ireturn, 1)) : LX X V A fr lo c0 s0 (FM X V A inj) pc lv [.int x] σ (pur σ (if vp_nar ty x = x then some u else none)) :=
  lq_g fun h => lx_zret hC hi hr (nar_of h hty) hdg
/-- one case of a switch -/
theorem lx_case {x v : Int32} {r1 r2 : Res α} (k1 : x = v → LX X V A fr lo c0 s0 F pc lv (.int x :: rest) σ r1) (k2 : ¬ x = v → LX X V A fr lo c0 s0 F pc lv (.int x :: rest) σ r2) : LX X V A fr lo c0 s0 F pc lv (.int x :: rest) σ (if x = v then r1 else r2) := by
  by_cases h : x = v
  · rw [if_pos h]; exact k1 h
  · rw [if_neg h]; exact k2 h
theorem lq_case {x v : Int32} {r1 r2 : Option α} (k1 : x = v → LX X V A fr lo c0 s0 F pc lv (.int x :: rest) σ (pur σ r1)) (k2 : ¬ x = v → LX X V A fr lo c0 s0 F pc lv (.int x :: rest) σ (pur σ r2)) : LX X V A fr lo c0 s0 F pc lv (.int x :: rest) σ (pur σ (if x = v then r1 else r2)) := by
  rw [← pur_ite]
  exact lx_case k1 k2
theorem lx_tin (hC : Cok X V A own cc nL) {dflt lo1 hi1 : Int} {offs : Array Int} {len : Nat} {x v : Int32} {off : Int} {r : Res α} (tgt : Nat) (hx : x = v) (hdg : decode cc pc = .ok (.tableswitch dflt lo1 hi1 offs, len)) (h1 : ¬ v.toInt < lo1) (h2 : ¬ hi1 < v.toInt) (ho : offs[(v.toInt - lo1).toNat]? = some off) (ht : (pc : Int) + off = (tgt : Int)) (k : LX X V A fr lo c0 s0 F tgt lv rest σ r) : LX X V A fr lo c0 s0 F pc lv (.int x :: rest) σ r := by
  subst hx
  intro out q1
  obtain ⟨hm, K⟩ := k out q1
  exact ⟨hm, fun R h2' h3 h4 h5 H locs hid ls cells slots g1 g2 g3 g4 g5 => lv_tableIn hC.1 hC.2.1 hdg h1 h2 ho ht (K R h2' h3 h4 h5 H locs hid ls cells slots g1 g2 g3 g4 g5)⟩
theorem lx_tout (hC : Cok X V A own cc nL) {dflt lo1 hi1 : Int} {offs : Array Int} {len : Nat} {x : Int32} {r : Res α} (tgt : Nat) (hdg : decode cc pc = .ok (.tableswitch dflt lo1 hi1 offs, len)) (h : x.toInt < lo1 ∨ hi1 < x.toInt) (ht : (pc : Int) + dflt = (tgt : Int)) (k : LX X V A fr lo c0 s0 F tgt lv rest σ r) : LX X V A fr lo c0 s0 F pc lv (.int x :: rest) σ r := by
  intro out q1
  obtain ⟨hm, K⟩ := k out q1
  exact ⟨hm, fun R h2' h3 h4 h5 H locs hid ls cells slots g1 g2 g3 g4 g5 => lv_tableOut hC.1 hC.2.1 hdg h ht (K R h2' h3 h4 h5 H locs hid ls cells slots g1 g2 g3 g4 g5)⟩
theorem lx_lsw (hC : Cok X V A own cc nL) {dflt : Int} {ps : Array (Int × Int)} {len : Nat} {x : Int32} {off : Int} {r : Res α} (tgt : Nat) (hdg : decode cc pc = .ok (.lookupswitch dflt ps, len)) (hp : (ps.toList.zip (ps.toList.drop 1)).all (fun (a, next) => a.1 < next.1) = true) (ho : Op.lookupswitch.offset ps.toList dflt x.toInt = off) (ht : (pc : Int) + off = (tgt : Int)) (k : LX X V A fr lo c0 s0 F tgt lv rest σ r) : LX X V A fr lo c0 s0 F pc lv (.int x :: rest) σ r := by
  intro out q1
  obtain ⟨hm, K⟩ := k out q1
  exact ⟨hm, fun R h2' h3 h4 h5 H locs hid ls cells slots g1 g2 g3 g4 g5 => lv_lookup hC.1 hC.2.1 hdg hp ho ht (K R h2' h3 h4 h5 H locs hid ls cells slots g1 g2 g3 g4 g5)⟩
theorem sw_out {x : Int32} (lo1 hi1 : Int) (h : ∀ z : Int, lo1 ≤ z → z ≤ hi1 → ¬ x.toInt = z) : x.toInt < lo1 ∨ hi1 < x.toInt := by
  by_cases q : x.toInt < lo1
  · exact Or.inl q
  · by_cases q2 : hi1 < x.toInt
    · exact Or.inr q2
    · exact absurd rfl (h x.toInt (by omega) (by omega))
theorem th_ring {i : Int32} (h : ib i 10) : isTh (arf 65 i.toNatClampNeg) := by
  have h2 : i.toNatClampNeg < 10 := Nat.not_le.mp fun q => h (Or.inr q)
  show 12 ≤ arf 65 _ ∧ _
  unfold arf
  rw [if_pos rfl]
  exact ⟨by omega, by omega⟩
theorem ht_row {i : Int32} (h : ib i 5) : (arf 68 i.toNatClampNeg, 2, 0, 24) ∈ layL := by
  have h2 : i.toNatClampNeg < 5 := Nat.not_le.mp fun q => h (Or.inr q)
  generalize i.toNatClampNeg = j at h2
  rcases (show j = 0 ∨ j = 1 ∨ j = 2 ∨ j = 3 ∨ j = 4 by omega) with rfl | rfl | rfl | rfl | rfl <;> decide +kernel
/-- the code of a String constant -/
abbrev isStr (q : Nat) : Prop := 3000 ≤ q ∧ q < 3054
theorem lx_tdf (hC : Cok X V A own cc nL) {dflt lo1 hi1 : Int} {offs : Array Int} {len : Nat} {x : Int32} {r : Res α} (tgt : Nat) (hdg : decode cc pc = .ok (.tableswitch dflt lo1 hi1 offs, len)) (h : ∀ z : Int, lo1 ≤ z → z ≤ hi1 → x.toInt = z → offs[(z - lo1).toNat]? = some dflt) (ht : (pc : Int) + dflt = (tgt : Int)) (k : LX X V A fr lo c0 s0 F tgt lv rest σ r) : LX X V A fr lo c0 s0 F pc lv (.int x :: rest) σ r := by
  by_cases q : x.toInt < lo1
  · exact lx_tout hC tgt hdg (Or.inl q) ht k
  · by_cases q2 : hi1 < x.toInt
    · exact lx_tout hC tgt hdg (Or.inr q2) ht k
    · exact lx_tin hC tgt rfl hdg q q2 (h x.toInt (by omega) (by omega) rfl) ht k
theorem lx_ldcS {adV : Nat → Nat} (hC : Cok X V A own cc nL) (hE : Env0 V adV A (xs X) (xs X).heap) {i q index : Nat} {text : String} {r : Res α} (hs : strL[i]? = some (own, index, text)) (hq : 3000 + i = q) (hdg : decode cc pc = .ok (.ldc index, 2)) (k : LX X V A fr lo c0 s0 F (pc + 2) lv (.ref q :: rest) σ r) : LX X V A fr lo c0 s0 F pc lv rest σ r := by
  subst hq
  intro out h1
  obtain ⟨hm, K⟩ := k out h1
  exact ⟨hm, fun R h2 h3 h4 h5 H locs hid ls cells slots g1 g2 g3 g4 g5 => va_ldcS hC.1 hC.2.1 hC.2.2.2.1 (hE.2.2.1 i _ hs) hdg (K R h2 h3 h4 h5 H locs hid ls cells slots g1 g2 g3 g4 g5)⟩
theorem lx_mmin (hC : Cok X V A own cc nL) {index : Nat} (w1 : Cond.methodLink own index Lib.Math.min.name ∈ gw) (w2 : Cond.static Lib.Math.min.name ∈ gw) (w3 : Cond.initialized "java/lang/Math" ∈ gw) (w4 : Cond.code Lib.Math.min.name Lib.Math.min.code 2 (some .int) ∈ gw) (hf : 1 ≤ fr) (hl : wdt rest + 13 ≤ lo) {x y : Int32} {r : Res α} (hdg : decode cc pc = .ok (.invokestatic index, 3)) (k : LX X V A fr lo c0 s0 F (pc + 3) lv (.int (if y < x then y else x) :: rest) σ r) : LX X V A fr lo c0 s0 F pc lv (.int y :: .int x :: rest) σ r := by
  intro out h1
  obtain ⟨hm, K⟩ := k out h1
  refine ⟨hm, fun R h2 h3 h4 h5 H locs hid ls cells slots g1 g2 g3 g4 g5 => va_mmin hC.1 hC.2.1 g3.1.symm hC.2.2.2.1 (lx_words hC w1) (lx_words hC w2) (lx_words hC w3) (lx_words hC w4) (by omega) ?_ (by omega) (by omega) hdg (K R h2 h3 h4 h5 H locs hid ls cells slots g1 g2 g3 g4 g5)⟩
  rw [show ((rest.map (cv V.2.2)).map fun v => v.category).sum = wdt rest from wdt_cv _ _]; omega
theorem lx_mmax (hC : Cok X V A own cc nL) {index : Nat} (w1 : Cond.methodLink own index Lib.Math.max.name ∈ gw) (w2 : Cond.static Lib.Math.max.name ∈ gw) (w3 : Cond.initialized "java/lang/Math" ∈ gw) (w4 : Cond.code Lib.Math.max.name Lib.Math.max.code 2 (some .int) ∈ gw) (hf : 1 ≤ fr) (hl : wdt rest + 13 ≤ lo) {x y : Int32} {r : Res α} (hdg : decode cc pc = .ok (.invokestatic index, 3)) (k : LX X V A fr lo c0 s0 F (pc + 3) lv (.int (if x < y then y else x) :: rest) σ r) : LX X V A fr lo c0 s0 F pc lv (.int y :: .int x :: rest) σ r := by
  intro out h1
  obtain ⟨hm, K⟩ := k out h1
  refine ⟨hm, fun R h2 h3 h4 h5 H locs hid ls cells slots g1 g2 g3 g4 g5 => va_mmax hC.1 hC.2.1 g3.1.symm hC.2.2.2.1 (lx_words hC w1) (lx_words hC w2) (lx_words hC w3) (lx_words hC w4) (by omega) ?_ (by omega) (by omega) hdg (K R h2 h3 h4 h5 H locs hid ls cells slots g1 g2 g3 g4 g5)⟩
  rw [show ((rest.map (cv V.2.2)).map fun v => v.category).sum = wdt rest from wdt_cv _ _]; omega
theorem mn_vl {γ : Type} {x : γ} {f : γ → Res α} (h : ∀ y, Mn σ (f y)) : Mn σ (vl x f) := h x
theorem mn_put {x : Mem} {f : Mem → Res α} (h : ∀ s1, Mn s1 (f s1)) (e1 : nC x = nC σ := by rfl) (e2 : nS x = nS σ := by rfl) : Mn σ (vl x f) := by
  intro out q
  have := h x out q
  rw [e1, e2] at this
  exact this
theorem lq_if_eq (hC : Cok X V A own cc nL) {x : Int32} {off : Int} (tgt : Nat) {r1 r2 : Option α} (hdg : decode cc pc = .ok (.ifCond .eq off, 3)) (ht : (pc : Int) + off = (tgt : Int)) (kt : LX X V A fr lo c0 s0 F tgt lv rest σ (pur σ r1)) (kf : LX X V A fr lo c0 s0 F (pc + 3) lv rest σ (pur σ r2)) : LX X V A fr lo c0 s0 F pc lv (.int x :: rest) σ (pur σ (if x = 0 then r1 else r2)) := by
  rw [← pur_ite]
  exact lx_if_eq hC tgt hdg ht kt kf
theorem lq_icmp_eq (hC : Cok X V A own cc nL) {x y : Int32} {off : Int} (tgt : Nat) {r1 r2 : Option α} (hdg : decode cc pc = .ok (.if_icmp .eq off, 3)) (ht : (pc : Int) + off = (tgt : Int)) (kt : LX X V A fr lo c0 s0 F tgt lv rest σ (pur σ r1)) (kf : LX X V A fr lo c0 s0 F (pc + 3) lv rest σ (pur σ r2)) : LX X V A fr lo c0 s0 F pc lv (.int y :: .int x :: rest) σ (pur σ (if x = y then r1 else r2)) := by
  rw [← pur_ite]
  exact lx_icmp_eq hC tgt hdg ht kt kf
theorem lq_if_ne (hC : Cok X V A own cc nL) {x : Int32} {off : Int} (tgt : Nat) {r1 r2 : Option α} (hdg : decode cc pc = .ok (.ifCond .ne off, 3)) (ht : (pc : Int) + off = (tgt : Int)) (kt : LX X V A fr lo c0 s0 F tgt lv rest σ (pur σ r1)) (kf : LX X V A fr lo c0 s0 F (pc + 3) lv rest σ (pur σ r2)) : LX X V A fr lo c0 s0 F pc lv (.int x :: rest) σ (pur σ (if ¬ x = 0 then r1 else r2)) := by
  rw [← pur_ite]
  exact lx_if_ne hC tgt hdg ht kt kf
theorem lq_icmp_ne (hC : Cok X V A own cc nL) {x y : Int32} {off : Int} (tgt : Nat) {r1 r2 : Option α} (hdg : decode cc pc = .ok (.if_icmp .ne off, 3)) (ht : (pc : Int) + off = (tgt : Int)) (kt : LX X V A fr lo c0 s0 F tgt lv rest σ (pur σ r1)) (kf : LX X V A fr lo c0 s0 F (pc + 3) lv rest σ (pur σ r2)) : LX X V A fr lo c0 s0 F pc lv (.int y :: .int x :: rest) σ (pur σ (if ¬ x = y then r1 else r2)) := by
  rw [← pur_ite]
  exact lx_icmp_ne hC tgt hdg ht kt kf
theorem lq_if_lt (hC : Cok X V A own cc nL) {x : Int32} {off : Int} (tgt : Nat) {r1 r2 : Option α} (hdg : decode cc pc = .ok (.ifCond .lt off, 3)) (ht : (pc : Int) + off = (tgt : Int)) (kt : LX X V A fr lo c0 s0 F tgt lv rest σ (pur σ r1)) (kf : LX X V A fr lo c0 s0 F (pc + 3) lv rest σ (pur σ r2)) : LX X V A fr lo c0 s0 F pc lv (.int x :: rest) σ (pur σ (if x < 0 then r1 else r2)) := by
  rw [← pur_ite]
  exact lx_if_lt hC tgt hdg ht kt kf
theorem lq_icmp_lt (hC : Cok X V A own cc nL) {x y : Int32} {off : Int} (tgt : Nat) {r1 r2 : Option α} (hdg : decode cc pc = .ok (.if_icmp .lt off, 3)) (ht : (pc : Int) + off = (tgt : Int)) (kt : LX X V A fr lo c0 s0 F tgt lv rest σ (pur σ r1)) (kf : LX X V A fr lo c0 s0 F (pc + 3) lv rest σ (pur σ r2)) : LX X V A fr lo c0 s0 F pc lv (.int y :: .int x :: rest) σ (pur σ (if x < y then r1 else r2)) := by
  rw [← pur_ite]
  exact lx_icmp_lt hC tgt hdg ht kt kf
theorem lq_if_ge (hC : Cok X V A own cc nL) {x : Int32} {off : Int} (tgt : Nat) {r1 r2 : Option α} (hdg : decode cc pc = .ok (.ifCond .ge off, 3)) (ht : (pc : Int) + off = (tgt : Int)) (kt : LX X V A fr lo c0 s0 F tgt lv rest σ (pur σ r1)) (kf : LX X V A fr lo c0 s0 F (pc + 3) lv rest σ (pur σ r2)) : LX X V A fr lo c0 s0 F pc lv (.int x :: rest) σ (pur σ (if 0 ≤ x then r1 else r2)) := by
  rw [← pur_ite]
  exact lx_if_ge hC tgt hdg ht kt kf
theorem lq_icmp_ge (hC : Cok X V A own cc nL) {x y : Int32} {off : Int} (tgt : Nat) {r1 r2 : Option α} (hdg : decode cc pc = .ok (.if_icmp .ge off, 3)) (ht : (pc : Int) + off = (tgt : Int)) (kt : LX X V A fr lo c0 s0 F tgt lv rest σ (pur σ r1)) (kf : LX X V A fr lo c0 s0 F (pc + 3) lv rest σ (pur σ r2)) : LX X V A fr lo c0 s0 F pc lv (.int y :: .int x :: rest) σ (pur σ (if y ≤ x then r1 else r2)) := by
  rw [← pur_ite]
  exact lx_icmp_ge hC tgt hdg ht kt kf
theorem lq_if_gt (hC : Cok X V A own cc nL) {x : Int32} {off : Int} (tgt : Nat) {r1 r2 : Option α} (hdg : decode cc pc = .ok (.ifCond .gt off, 3)) (ht : (pc : Int) + off = (tgt : Int)) (kt : LX X V A fr lo c0 s0 F tgt lv rest σ (pur σ r1)) (kf : LX X V A fr lo c0 s0 F (pc + 3) lv rest σ (pur σ r2)) : LX X V A fr lo c0 s0 F pc lv (.int x :: rest) σ (pur σ (if 0 < x then r1 else r2)) := by
  rw [← pur_ite]
  exact lx_if_gt hC tgt hdg ht kt kf
theorem lq_icmp_gt (hC : Cok X V A own cc nL) {x y : Int32} {off : Int} (tgt : Nat) {r1 r2 : Option α} (hdg : decode cc pc = .ok (.if_icmp .gt off, 3)) (ht : (pc : Int) + off = (tgt : Int)) (kt : LX X V A fr lo c0 s0 F tgt lv rest σ (pur σ r1)) (kf : LX X V A fr lo c0 s0 F (pc + 3) lv rest σ (pur σ r2)) : LX X V A fr lo c0 s0 F pc lv (.int y :: .int x :: rest) σ (pur σ (if y < x then r1 else r2)) := by
  rw [← pur_ite]
  exact lx_icmp_gt hC tgt hdg ht kt kf
theorem lq_if_le (hC : Cok X V A own cc nL) {x : Int32} {off : Int} (tgt : Nat) {r1 r2 : Option α} (hdg : decode cc pc = .ok (.ifCond .le off, 3)) (ht : (pc : Int) + off = (tgt : Int)) (kt : LX X V A fr lo c0 s0 F tgt lv rest σ (pur σ r1)) (kf : LX X V A fr lo c0 s0 F (pc + 3) lv rest σ (pur σ r2)) : LX X V A fr lo c0 s0 F pc lv (.int x :: rest) σ (pur σ (if x ≤ 0 then r1 else r2)) := by
  rw [← pur_ite]
  exact lx_if_le hC tgt hdg ht kt kf
theorem lq_icmp_le (hC : Cok X V A own cc nL) {x y : Int32} {off : Int} (tgt : Nat) {r1 r2 : Option α} (hdg : decode cc pc = .ok (.if_icmp .le off, 3)) (ht : (pc : Int) + off = (tgt : Int)) (kt : LX X V A fr lo c0 s0 F tgt lv rest σ (pur σ r1)) (kf : LX X V A fr lo c0 s0 F (pc + 3) lv rest σ (pur σ r2)) : LX X V A fr lo c0 s0 F pc lv (.int y :: .int x :: rest) σ (pur σ (if x ≤ y then r1 else r2)) := by
  rw [← pur_ite]
  exact lx_icmp_le hC tgt hdg ht kt kf
theorem lq_iaload (hC : Cok X V A own cc nL) {c N : Nat} (he : (c, 2, 0, N) ∈ layL) {i : Int32} (hdg : decode cc pc = .ok (.iaload, 1)) {r1 : Option α} (k : LX X V A fr lo c0 s0 F (pc + 1) lv (.int (gI σ c i.toNatClampNeg) :: rest) σ (pur σ r1)) : LX X V A fr lo c0 s0 F pc lv (.int i :: .ref c :: rest) σ (pur σ (if ib i N then r1 else none)) := by
  rw [← pur_g]
  exact lx_iaload hC he hdg k
theorem lq_zaload (hC : Cok X V A own cc nL) {c N : Nat} (he : (c, 2, 1, N) ∈ layL) {i : Int32} (hdg : decode cc pc = .ok (.baload, 1)) {r1 : Option α} (k : LX X V A fr lo c0 s0 F (pc + 1) lv (.int (gI σ c i.toNatClampNeg) :: rest) σ (pur σ r1)) : LX X V A fr lo c0 s0 F pc lv (.int i :: .ref c :: rest) σ (pur σ (if ib i N then r1 else none)) := by
  rw [← pur_g]
  exact lx_zaload hC he hdg k
theorem lq_aaload (hC : Cok X V A own cc nL) {c x N : Nat} (he : (c, 5, x, N) ∈ layL) {ty : FieldType} (hx : (tysv V)[x]? = some (V.2.1 x, ty)) (hty : ty.isReference = true) {i : Int32} (hdg : decode cc pc = .ok (.aaload, 1)) {r1 : Option α} (k : ib i N → LX X V A fr lo c0 s0 F (pc + 1) lv (.ref (arf c i.toNatClampNeg) :: rest) σ (pur σ r1)) : LX X V A fr lo c0 s0 F pc lv (.int i :: .ref c :: rest) σ (pur σ (if ib i N then r1 else none)) := by
  rw [← pur_g]
  exact lx_aaload hC he hx hty hdg k
end
