/-! ===== the JDK's own methods: the walk of a body over a world ===== -/
def JX (X : Cx) (V : Vx) (A : Nat → Prop) (R : Room) (nL : Nat) (Q : State → Prop) (pc : Nat) (lv : List (Nat × Value)) (st : List Value) (ws : va_W) (cells slots : Nat) : Prop :=
  ∀ (H : Heap) (locs : List Loc) (ls : Array Slot), va_P V.1 clv ws H → va_D A ws → va_S A (xs X).heap H locs → lv_has ls nL lv → WX X R H locs cells slots Q (F0 (xm X) pc ls st)
def KQ (V : Vx) (A : Nat → Prop) (post : Option Value → va_W → Prop) : Array Value → State → Outcome → State → Prop := fun _ st oc t => (∃ (r : Option Value) (w : va_W), oc = .returned r ∧ post r w ∧ va_P V.1 clv w t.heap ∧ va_D A w) ∧ va_F A st t
def KP (V : Vx) (adV : Nat → Nat) (sz : Nat) (as : List Value) (ws : va_W) : Array Value → State → Prop := va_Pc as (fun U => U.heap.size = sz ∧ va_P V.1 clv ws U.heap ∧ va_K V.1 clv (tysv V) U ∧ va_D (fun _ => True) ws ∧ JW V adV (va_A ws sz) U U.heap)
/-- a contract over a world: the arguments, the world's cells, what comes back -/
def KC (l : Launch) (y : MethodName) (w0 : Cond) (fr lo mc ms : Nat) (as : List Value) (V : Vx) (adV : Nat → Nat) (ws : va_W) (post : Option Value → va_W → Prop) : Prop :=
  ∀ sz : Nat, Met l y (w0 :: gw) { frames := fr, cells := mc, slots := ms, locals := lo } (KP V adV sz as ws) (KQ V (va_A ws sz) post) mc ms (va_A ws sz)
theorem kc_of {l : Launch} {y : MethodName} {cc : ByteArray} {nL : Nat} {ret : Option FieldType} {fr lo mc ms : Nat} {as : List Value} {V : Vx} {adV : Nat → Nat} {ws : va_W} {post : Option Value → va_W → Prop} (hy : plainName y.cls = true) (hn : wdt as ≤ nL)
    (body : ∀ (X : Cx) (A : Nat → Prop), xl X = l → Cok X V A y.cls cc nL → JW V adV A (xs X) (xs X).heap → (xh X).sig.returnType = ret → JX X V A { frames := fr, cells := mc, slots := ms, locals := lo } nL (MQ (xb X) (KQ V A post) (xa X) (xs X) mc ms A) 0 (lv_args 0 as) [] ws 0 0) : KC l y (.code y cc nL ret) fr lo mc ms as V adV ws post := by
  intro sz
  refine Met.ofW (cc := cc) (maxL := nL) (ret := ret) hy rfl ?_
  intro p e s m args below meth c s₁ B hml hv
  obtain ⟨rfl, hsz, hP, hK, hD0, hJ⟩ := hv
  have hts := atoms_spec (ws := Cond.code y cc nL ret :: gw) B.pre
  subst hsz
  have hC : Cok (p, l, e, s, m, as.toArray, below, meth, c) V (va_A ws s.heap.size) y.cls cc nL := ⟨B.exec, B.bytes, hml, findClass_of_methodNamed B.named, fun w h => hts w (List.mem_cons_of_mem _ h), hK, fun q h => Or.inr h, B.notSynchronized⟩
  have hlv := lv_entry as (n := nL) (by rw [lg_sl_len]; exact hn)
  rw [lg_entry_eq]
  exact body (p, l, e, s, m, as.toArray, below, meth, c) (va_A ws s.heap.size) rfl hC hJ B.returns s.heap [] _ hP hD0.self va_S.rf hlv
theorem kp_blind {V : Vx} {adV : Nat → Nat} {sz : Nat} {as : List Value} {ws : va_W} : FrameBlind (KP V adV sz as ws) := fun a U g mk z => by
  obtain ⟨z0, z1, zP, zK, zD, zJ⟩ := z
  exact ⟨z0, z1, zP, va_K.moved (u := U) (U := U.calling g mk a) (Vm.Alike.refl U.vm) zK, zD, JW.moved (u := U) (U := U.calling g mk a) (Vm.Alike.refl U.vm) zJ⟩
theorem kp_at {X : Cx} {V : Vx} {A : Nat → Prop} {own : String} {cc : ByteArray} {nL : Nat} (hC : Cok X V A own cc nL) {adV : Nat → Nat} (hJ : JW V adV A (xs X) (xs X).heap) {H : Heap} {locs : List Loc} {wc : va_W} {as : List Value} (hP : va_P V.1 clv wc H) {B : Nat → Prop} (hD : va_D B wc) (hF : ∀ q, va_A wc H.size q → A q) (hS : va_S A (xs X).heap H locs) :
    ∀ U : State, U.heap = H → (xs X).WarmedH U.vm → KP V adV H.size as wc as.toArray U := by
  intro U hU hW
  refine ⟨rfl, by rw [hU], by rw [hU]; exact hP, va_K.moved hW.alike hC.2.2.2.2.2.1, hD.weaken (fun _ _ _ _ => trivial), ?_⟩
  rw [hU]
  exact JW.moved hW.alike ((hJ.kept hS.2.1).narrow hF)
section
variable {p : Program} {l : Launch} {e : Env} {R : Room} {s : State} {m : MethodId} {args : Array Value} {below : List Frame} {meth : Method} {c : Code} {H : Heap} {locs : List Loc} {cells slots : Nat} {Q : State → Prop}
theorem kc_call {V : Vx} {A0 A1 : Nat → Prop} {post : Option Value → va_W → Prop} {a : Array Value} {mc ms : Nat} {pc : Nat} {ls : Array Slot} {st0 rest : List Value} {H0 : Heap} {free : Nat → Prop} (hr : va_Run p l e R s m args below meth c H locs cells slots mc ms (F0 m pc ls st0) rest (KQ V A1 post a) free) (hS : va_S A0 H0 H locs) (hA : ∀ q, q < H.size → A1 q → A0 q) (hf : ∀ q, free q → A0 q)
    (kk : ∀ (r : Option Value) (w : va_W) (H1 : Heap) (locs1 : List Loc), post r w → va_P V.1 clv w H1 → va_D A1 w → H.size ≤ H1.size → (∀ q : Nat, q < H.size → ¬ A1 q → H1[q]? = H[q]?) → va_S A0 H0 H1 locs1 → W p l e R s m args below meth c H1 locs1 (cells + mc) (slots + ms) Q (F0 m (pc + 3) ls (r.toList ++ rest))) : W p l e R s m args below meth c H locs cells slots Q (F0 m pc ls st0) := by
  intro T hT X
  obtain ⟨v, st₀, t, T', L, h0, X', hL, e1, e2, ⟨⟨r, w, hv, hp, hP, hD⟩, hz, hk⟩, st⟩ := hr T hT X
  have hvr : v = r := Outcome.returned.inj hv
  subst hvr
  rw [h0] at hz hk
  obtain ⟨t2, a1, b1⟩ := kk v w T'.heap (locs ++ L) hp (by rw [e1]; exact hP) hD (by rw [e1]; exact hz) (fun q h1 h2 => by rw [e1]; exact hk q h1 h2)
    ⟨Nat.le_trans hS.1 (by rw [e1]; exact hz), fun q h1 h2 => by rw [e1, hk q (Nat.lt_of_lt_of_le h1 hS.1) (fun z => h2 (hA q (Nat.lt_of_lt_of_le h1 hS.1) z))]; exact hS.2.1 q h1 h2, fun q hq => by
      rcases List.mem_append.mp hq with h | h
      · exact hS.2.2 q h
      · exact hf _ (hL q h)⟩ T' rfl X'
  exact ⟨t2, st t2 a1, b1⟩
end
section
variable {X : Cx} {V : Vx} {A : Nat → Prop} {R : Room} {Q : State → Prop} {pc : Nat} {lv : List (Nat × Value)} {rest st : List Value} {ws : va_W} {cells slots : Nat} {own : String} {cc : ByteArray} {nL : Nat}
theorem jx_aload_n (hC : Cok X V A own cc nL) {j : Fin 4} {i x : Nat} (hdg : decode cc pc = .ok (.aload_n j, 1)) (hi : (j : Nat) = i) (q : Nat) (hl : lv[q]? = some (i, .ref x)) (k : JX X V A R nL Q (pc + 1) lv (.ref x :: rest) ws cells slots) : JX X V A R nL Q (pc) lv (rest) ws cells slots :=
  fun H locs ls h1 h2 h3 h4 => lv_aload_n hC.1 hC.2.1 hdg hi (lv_at h4 q hl) (k H locs ls h1 h2 h3 h4)
theorem jx_iload_n (hC : Cok X V A own cc nL) {j : Fin 4} {i : Nat} {x : Int32} (hdg : decode cc pc = .ok (.iload_n j, 1)) (hi : (j : Nat) = i) (q : Nat) (hl : lv[q]? = some (i, .int x)) (k : JX X V A R nL Q (pc + 1) lv (.int x :: rest) ws cells slots) : JX X V A R nL Q (pc) lv (rest) ws cells slots :=
  fun H locs ls h1 h2 h3 h4 => lv_iload_n hC.1 hC.2.1 hdg hi (lv_at h4 q hl) (k H locs ls h1 h2 h3 h4)
theorem jx_iload (hC : Cok X V A own cc nL) {i : Nat} {x : Int32} (hdg : decode cc pc = .ok (.iload i, 2)) (q : Nat) (hl : lv[q]? = some (i, .int x)) (k : JX X V A R nL Q (pc + 2) lv (.int x :: rest) ws cells slots) : JX X V A R nL Q (pc) lv (rest) ws cells slots :=
  fun H locs ls h1 h2 h3 h4 => lv_iload hC.1 hC.2.1 hdg (lv_at h4 q hl) (k H locs ls h1 h2 h3 h4)
theorem jx_aload (hC : Cok X V A own cc nL) {i x : Nat} (hdg : decode cc pc = .ok (.aload i, 2)) (q : Nat) (hl : lv[q]? = some (i, .ref x)) (k : JX X V A R nL Q (pc + 2) lv (.ref x :: rest) ws cells slots) : JX X V A R nL Q (pc) lv (rest) ws cells slots :=
  fun H locs ls h1 h2 h3 h4 => lv_aload hC.1 hC.2.1 hdg (lv_at h4 q hl) (k H locs ls h1 h2 h3 h4)
theorem jx_iconst (hC : Cok X V A own cc nL) {n : Int} {v : Int32} (hdg : decode cc pc = .ok (.iconst n, 1)) (hv : Int32.ofInt n = v) (k : JX X V A R nL Q (pc + 1) lv (.int v :: rest) ws cells slots) : JX X V A R nL Q (pc) lv (rest) ws cells slots :=
  fun H locs ls h1 h2 h3 h4 => lv_iconst hC.1 hC.2.1 hdg hv (k H locs ls h1 h2 h3 h4)
theorem jx_bipush (hC : Cok X V A own cc nL) {n : Int} {v : Int32} (hdg : decode cc pc = .ok (.bipush n, 2)) (hv : (Int8.ofInt n).toInt32 = v) (k : JX X V A R nL Q (pc + 2) lv (.int v :: rest) ws cells slots) : JX X V A R nL Q (pc) lv (rest) ws cells slots :=
  fun H locs ls h1 h2 h3 h4 => lv_bipush hC.1 hC.2.1 hdg hv (k H locs ls h1 h2 h3 h4)
theorem jx_sipush (hC : Cok X V A own cc nL) {n : Int} {v : Int32} (hdg : decode cc pc = .ok (.sipush n, 3)) (hv : (Int16.ofInt n).toInt32 = v) (k : JX X V A R nL Q (pc + 3) lv (.int v :: rest) ws cells slots) : JX X V A R nL Q (pc) lv (rest) ws cells slots :=
  fun H locs ls h1 h2 h3 h4 => lv_sipush hC.1 hC.2.1 hdg hv (k H locs ls h1 h2 h3 h4)
theorem jx_dup (hC : Cok X V A own cc nL) {va : Value} (hdg : decode cc pc = .ok (.dup, 1)) (hv : va.category = 1) (k : JX X V A R nL Q (pc + 1) lv (va :: va :: rest) ws cells slots) : JX X V A R nL Q (pc) lv (va :: rest) ws cells slots :=
  fun H locs ls h1 h2 h3 h4 => lv_dup hC.1 hC.2.1 hdg hv (k H locs ls h1 h2 h3 h4)
theorem jx_dup_x1 (hC : Cok X V A own cc nL) {va vb : Value} (hdg : decode cc pc = .ok (.dup_x1, 1)) (hva : va.category = 1) (hvb : vb.category = 1) (k : JX X V A R nL Q (pc + 1) lv (va :: vb :: va :: rest) ws cells slots) : JX X V A R nL Q (pc) lv (va :: vb :: rest) ws cells slots :=
  fun H locs ls h1 h2 h3 h4 => lv_dup_x1 hC.1 hC.2.1 hdg hva hvb (k H locs ls h1 h2 h3 h4)
theorem jx_pop (hC : Cok X V A own cc nL) {va : Value} (hdg : decode cc pc = .ok (.pop, 1)) (hva : va.category = 1) (k : JX X V A R nL Q (pc + 1) lv (rest) ws cells slots) : JX X V A R nL Q (pc) lv (va :: rest) ws cells slots :=
  fun H locs ls h1 h2 h3 h4 => lv_pop hC.1 hC.2.1 hdg hva (k H locs ls h1 h2 h3 h4)
theorem jx_iadd (hC : Cok X V A own cc nL) {x y v : Int32} (hdg : decode cc pc = .ok (.iadd, 1)) (hv : x + y = v) (k : JX X V A R nL Q (pc + 1) lv (.int v :: rest) ws cells slots) : JX X V A R nL Q (pc) lv (.int y :: .int x :: rest) ws cells slots :=
  fun H locs ls h1 h2 h3 h4 => lv_iadd hC.1 hC.2.1 hdg (by rw [hv]; exact k H locs ls h1 h2 h3 h4)
theorem jx_isub (hC : Cok X V A own cc nL) {x y v : Int32} (hdg : decode cc pc = .ok (.isub, 1)) (hv : x - y = v) (k : JX X V A R nL Q (pc + 1) lv (.int v :: rest) ws cells slots) : JX X V A R nL Q (pc) lv (.int y :: .int x :: rest) ws cells slots :=
  fun H locs ls h1 h2 h3 h4 => lv_isub hC.1 hC.2.1 hdg (by rw [hv]; exact k H locs ls h1 h2 h3 h4)
theorem jx_imul (hC : Cok X V A own cc nL) {x y v : Int32} (hdg : decode cc pc = .ok (.imul, 1)) (hv : x * y = v) (k : JX X V A R nL Q (pc + 1) lv (.int v :: rest) ws cells slots) : JX X V A R nL Q (pc) lv (.int y :: .int x :: rest) ws cells slots :=
  fun H locs ls h1 h2 h3 h4 => lv_imul hC.1 hC.2.1 hdg (by rw [hv]; exact k H locs ls h1 h2 h3 h4)
theorem jx_iand (hC : Cok X V A own cc nL) {x y v : Int32} (hdg : decode cc pc = .ok (.iand, 1)) (hv : x &&& y = v) (k : JX X V A R nL Q (pc + 1) lv (.int v :: rest) ws cells slots) : JX X V A R nL Q (pc) lv (.int y :: .int x :: rest) ws cells slots :=
  fun H locs ls h1 h2 h3 h4 => lv_iand hC.1 hC.2.1 hdg (by rw [hv]; exact k H locs ls h1 h2 h3 h4)
theorem jx_ishr (hC : Cok X V A own cc nL) {x y v : Int32} (hdg : decode cc pc = .ok (.ishr, 1)) (hv : x >>> (y &&& 31) = v) (k : JX X V A R nL Q (pc + 1) lv (.int v :: rest) ws cells slots) : JX X V A R nL Q (pc) lv (.int y :: .int x :: rest) ws cells slots :=
  fun H locs ls h1 h2 h3 h4 => lv_ishr hC.1 hC.2.1 hdg (by rw [hv]; exact k H locs ls h1 h2 h3 h4)
theorem jx_ishl (hC : Cok X V A own cc nL) {x y v : Int32} (hdg : decode cc pc = .ok (.ishl, 1)) (hv : x <<< (y &&& 31) = v) (k : JX X V A R nL Q (pc + 1) lv (.int v :: rest) ws cells slots) : JX X V A R nL Q (pc) lv (.int y :: .int x :: rest) ws cells slots :=
  fun H locs ls h1 h2 h3 h4 => lv_ishl hC.1 hC.2.1 hdg (by rw [hv]; exact k H locs ls h1 h2 h3 h4)
theorem jx_idiv (hC : Cok X V A own cc nL) {x y v : Int32} (hdg : decode cc pc = .ok (.idiv, 1)) (hne : ¬ y = 0) (hv : x / y = v) (k : JX X V A R nL Q (pc + 1) lv (.int v :: rest) ws cells slots) : JX X V A R nL Q (pc) lv (.int y :: .int x :: rest) ws cells slots :=
  fun H locs ls h1 h2 h3 h4 => lv_idiv hC.1 hC.2.1 hdg hne (by rw [hv]; exact k H locs ls h1 h2 h3 h4)
theorem jx_ineg (hC : Cok X V A own cc nL) {x v : Int32} (hdg : decode cc pc = .ok (.ineg, 1)) (hv : -x = v) (k : JX X V A R nL Q (pc + 1) lv (.int v :: rest) ws cells slots) : JX X V A R nL Q (pc) lv (.int x :: rest) ws cells slots :=
  fun H locs ls h1 h2 h3 h4 => lv_ineg hC.1 hC.2.1 hdg (by rw [hv]; exact k H locs ls h1 h2 h3 h4)
theorem jx_i2b (hC : Cok X V A own cc nL) {x v : Int32} (hdg : decode cc pc = .ok (.i2b, 1)) (hv : x.toInt8.toInt32 = v) (k : JX X V A R nL Q (pc + 1) lv (.int v :: rest) ws cells slots) : JX X V A R nL Q (pc) lv (.int x :: rest) ws cells slots :=
  fun H locs ls h1 h2 h3 h4 => lv_i2b hC.1 hC.2.1 hdg hv (k H locs ls h1 h2 h3 h4)
theorem jx_i2c (hC : Cok X V A own cc nL) {x v : Int32} (hdg : decode cc pc = .ok (.i2c, 1)) (hv : (x.toUInt32 % 65536).toInt32 = v) (k : JX X V A R nL Q (pc + 1) lv (.int v :: rest) ws cells slots) : JX X V A R nL Q (pc) lv (.int x :: rest) ws cells slots :=
  fun H locs ls h1 h2 h3 h4 => lv_i2c hC.1 hC.2.1 hdg hv (k H locs ls h1 h2 h3 h4)
theorem jx_istore_n (hC : Cok X V A own cc nL) {j : Fin 4} {i : Nat} {x : Int32} (hdg : decode cc pc = .ok (.istore_n j, 1)) (hi : (j : Nat) = i) (hn : i < nL) {lv1 : List (Nat × Value)} (hl : (i, Value.int x) :: lv.filter (fun q => !(q.1 == i) && !(q.1 + 1 == i && q.2.category == 2)) = lv1) (k : JX X V A R nL Q (pc + 1) lv1 (rest) ws cells slots) : JX X V A R nL Q (pc) lv (.int x :: rest) ws cells slots :=
  fun H locs ls h1 h2 h3 h4 => lv_istore_n hC.1 hC.2.1 hdg hi h4 hn hl (fun ls1 hl1 => k H locs ls1 h1 h2 h3 hl1)
theorem jx_istore (hC : Cok X V A own cc nL) {i : Nat} {x : Int32} (hdg : decode cc pc = .ok (.istore i, 2)) (hn : i < nL) {lv1 : List (Nat × Value)} (hl : (i, Value.int x) :: lv.filter (fun q => !(q.1 == i) && !(q.1 + 1 == i && q.2.category == 2)) = lv1) (k : JX X V A R nL Q (pc + 2) lv1 (rest) ws cells slots) : JX X V A R nL Q (pc) lv (.int x :: rest) ws cells slots :=
  fun H locs ls h1 h2 h3 h4 => lv_istore hC.1 hC.2.1 hdg h4 hn hl (fun ls1 hl1 => k H locs ls1 h1 h2 h3 hl1)
theorem jx_astore_n (hC : Cok X V A own cc nL) {j : Fin 4} {i x : Nat} (hdg : decode cc pc = .ok (.astore_n j, 1)) (hi : (j : Nat) = i) (hn : i < nL) {lv1 : List (Nat × Value)} (hl : (i, Value.ref x) :: lv.filter (fun q => !(q.1 == i) && !(q.1 + 1 == i && q.2.category == 2)) = lv1) (k : JX X V A R nL Q (pc + 1) lv1 (rest) ws cells slots) : JX X V A R nL Q (pc) lv (.ref x :: rest) ws cells slots :=
  fun H locs ls h1 h2 h3 h4 => lv_astore_n hC.1 hC.2.1 hdg hi h4 hn hl (fun ls1 hl1 => k H locs ls1 h1 h2 h3 hl1)
theorem jx_iinc (hC : Cok X V A own cc nL) {i : Nat} {n : Int} {x v : Int32} (hdg : decode cc pc = .ok (.iinc i n, 3)) (q : Nat) (hq : lv[q]? = some (i, .int x)) (hv : x + Int32.ofInt n = v) (hn : i < nL) {lv1 : List (Nat × Value)} (hl : (i, Value.int v) :: lv.filter (fun q => !(q.1 == i) && !(q.1 + 1 == i && q.2.category == 2)) = lv1) (k : JX X V A R nL Q (pc + 3) lv1 (st) ws cells slots) : JX X V A R nL Q (pc) lv (st) ws cells slots :=
  fun H locs ls h1 h2 h3 h4 => lv_iinc hC.1 hC.2.1 hdg h4 (k := q) hq hv hn hl (fun ls1 hl1 => k H locs ls1 h1 h2 h3 hl1)
theorem jx_goto (hC : Cok X V A own cc nL) {off : Int} (tgt : Nat) (hdg : decode cc pc = .ok (.goto off, 3)) (ht : (pc : Int) + off = (tgt : Int)) (k : JX X V A R nL Q (tgt) lv (st) ws cells slots) : JX X V A R nL Q (pc) lv (st) ws cells slots :=
  fun H locs ls h1 h2 h3 h4 => lv_goto hC.1 hC.2.1 hdg ht (k H locs ls h1 h2 h3 h4)
theorem jx_geT (hC : Cok X V A own cc nL) {x y : Int32} {off : Int} (tgt : Nat) (hdg : decode cc pc = .ok (.if_icmp .ge off, 3)) (ht : (pc : Int) + off = (tgt : Int)) (h : y ≤ x) (k : JX X V A R nL Q (tgt) lv (rest) ws cells slots) : JX X V A R nL Q (pc) lv (.int y :: .int x :: rest) ws cells slots :=
  fun H locs ls h1 h2 h3 h4 => lv_icmp_ge hC.1 hC.2.1 hdg ht (fun _ => k H locs ls h1 h2 h3 h4) (fun z => absurd h z)
theorem jx_geF (hC : Cok X V A own cc nL) {x y : Int32} {off : Int} (tgt : Nat) (hdg : decode cc pc = .ok (.if_icmp .ge off, 3)) (ht : (pc : Int) + off = (tgt : Int)) (h : ¬ y ≤ x) (k : JX X V A R nL Q (pc + 3) lv (rest) ws cells slots) : JX X V A R nL Q (pc) lv (.int y :: .int x :: rest) ws cells slots :=
  fun H locs ls h1 h2 h3 h4 => lv_icmp_ge hC.1 hC.2.1 hdg ht (fun z => absurd z h) (fun _ => k H locs ls h1 h2 h3 h4)
theorem jx_gtT (hC : Cok X V A own cc nL) {x y : Int32} {off : Int} (tgt : Nat) (hdg : decode cc pc = .ok (.if_icmp .gt off, 3)) (ht : (pc : Int) + off = (tgt : Int)) (h : y < x) (k : JX X V A R nL Q (tgt) lv (rest) ws cells slots) : JX X V A R nL Q (pc) lv (.int y :: .int x :: rest) ws cells slots :=
  fun H locs ls h1 h2 h3 h4 => lv_icmp_gt hC.1 hC.2.1 hdg ht (fun _ => k H locs ls h1 h2 h3 h4) (fun z => absurd h z)
theorem jx_gtF (hC : Cok X V A own cc nL) {x y : Int32} {off : Int} (tgt : Nat) (hdg : decode cc pc = .ok (.if_icmp .gt off, 3)) (ht : (pc : Int) + off = (tgt : Int)) (h : ¬ y < x) (k : JX X V A R nL Q (pc + 3) lv (rest) ws cells slots) : JX X V A R nL Q (pc) lv (.int y :: .int x :: rest) ws cells slots :=
  fun H locs ls h1 h2 h3 h4 => lv_icmp_gt hC.1 hC.2.1 hdg ht (fun z => absurd z h) (fun _ => k H locs ls h1 h2 h3 h4)
theorem jx_leT (hC : Cok X V A own cc nL) {x y : Int32} {off : Int} (tgt : Nat) (hdg : decode cc pc = .ok (.if_icmp .le off, 3)) (ht : (pc : Int) + off = (tgt : Int)) (h : x ≤ y) (k : JX X V A R nL Q (tgt) lv (rest) ws cells slots) : JX X V A R nL Q (pc) lv (.int y :: .int x :: rest) ws cells slots :=
  fun H locs ls h1 h2 h3 h4 => lv_icmp_le hC.1 hC.2.1 hdg ht (fun _ => k H locs ls h1 h2 h3 h4) (fun z => absurd h z)
theorem jx_leF (hC : Cok X V A own cc nL) {x y : Int32} {off : Int} (tgt : Nat) (hdg : decode cc pc = .ok (.if_icmp .le off, 3)) (ht : (pc : Int) + off = (tgt : Int)) (h : ¬ x ≤ y) (k : JX X V A R nL Q (pc + 3) lv (rest) ws cells slots) : JX X V A R nL Q (pc) lv (.int y :: .int x :: rest) ws cells slots :=
  fun H locs ls h1 h2 h3 h4 => lv_icmp_le hC.1 hC.2.1 hdg ht (fun z => absurd z h) (fun _ => k H locs ls h1 h2 h3 h4)
theorem jx_ltT (hC : Cok X V A own cc nL) {x y : Int32} {off : Int} (tgt : Nat) (hdg : decode cc pc = .ok (.if_icmp .lt off, 3)) (ht : (pc : Int) + off = (tgt : Int)) (h : x < y) (k : JX X V A R nL Q (tgt) lv (rest) ws cells slots) : JX X V A R nL Q (pc) lv (.int y :: .int x :: rest) ws cells slots :=
  fun H locs ls h1 h2 h3 h4 => lv_icmp_lt hC.1 hC.2.1 hdg ht (fun _ => k H locs ls h1 h2 h3 h4) (fun z => absurd h z)
theorem jx_ltF (hC : Cok X V A own cc nL) {x y : Int32} {off : Int} (tgt : Nat) (hdg : decode cc pc = .ok (.if_icmp .lt off, 3)) (ht : (pc : Int) + off = (tgt : Int)) (h : ¬ x < y) (k : JX X V A R nL Q (pc + 3) lv (rest) ws cells slots) : JX X V A R nL Q (pc) lv (.int y :: .int x :: rest) ws cells slots :=
  fun H locs ls h1 h2 h3 h4 => lv_icmp_lt hC.1 hC.2.1 hdg ht (fun z => absurd z h) (fun _ => k H locs ls h1 h2 h3 h4)
theorem jx_neT (hC : Cok X V A own cc nL) {x y : Int32} {off : Int} (tgt : Nat) (hdg : decode cc pc = .ok (.if_icmp .ne off, 3)) (ht : (pc : Int) + off = (tgt : Int)) (h : ¬ x = y) (k : JX X V A R nL Q (tgt) lv (rest) ws cells slots) : JX X V A R nL Q (pc) lv (.int y :: .int x :: rest) ws cells slots :=
  fun H locs ls h1 h2 h3 h4 => lv_icmp_ne hC.1 hC.2.1 hdg ht (fun _ => k H locs ls h1 h2 h3 h4) (fun z => absurd z h)
theorem jx_neF (hC : Cok X V A own cc nL) {x y : Int32} {off : Int} (tgt : Nat) (hdg : decode cc pc = .ok (.if_icmp .ne off, 3)) (ht : (pc : Int) + off = (tgt : Int)) (h : x = y) (k : JX X V A R nL Q (pc + 3) lv (rest) ws cells slots) : JX X V A R nL Q (pc) lv (.int y :: .int x :: rest) ws cells slots :=
  fun H locs ls h1 h2 h3 h4 => lv_icmp_ne hC.1 hC.2.1 hdg ht (fun z => absurd h z) (fun _ => k H locs ls h1 h2 h3 h4)
theorem jx_zeqT (hC : Cok X V A own cc nL) {x : Int32} {off : Int} (tgt : Nat) (hdg : decode cc pc = .ok (.ifCond .eq off, 3)) (ht : (pc : Int) + off = (tgt : Int)) (h : x = 0) (k : JX X V A R nL Q (tgt) lv (rest) ws cells slots) : JX X V A R nL Q (pc) lv (.int x :: rest) ws cells slots :=
  fun H locs ls h1 h2 h3 h4 => lv_if_eq hC.1 hC.2.1 hdg ht (fun _ => k H locs ls h1 h2 h3 h4) (fun z => absurd h z)
theorem jx_zeqF (hC : Cok X V A own cc nL) {x : Int32} {off : Int} (tgt : Nat) (hdg : decode cc pc = .ok (.ifCond .eq off, 3)) (ht : (pc : Int) + off = (tgt : Int)) (h : ¬ x = 0) (k : JX X V A R nL Q (pc + 3) lv (rest) ws cells slots) : JX X V A R nL Q (pc) lv (.int x :: rest) ws cells slots :=
  fun H locs ls h1 h2 h3 h4 => lv_if_eq hC.1 hC.2.1 hdg ht (fun z => absurd z h) (fun _ => k H locs ls h1 h2 h3 h4)
theorem jx_zneT (hC : Cok X V A own cc nL) {x : Int32} {off : Int} (tgt : Nat) (hdg : decode cc pc = .ok (.ifCond .ne off, 3)) (ht : (pc : Int) + off = (tgt : Int)) (h : ¬ x = 0) (k : JX X V A R nL Q (tgt) lv (rest) ws cells slots) : JX X V A R nL Q (pc) lv (.int x :: rest) ws cells slots :=
  fun H locs ls h1 h2 h3 h4 => lv_if_ne hC.1 hC.2.1 hdg ht (fun _ => k H locs ls h1 h2 h3 h4) (fun z => absurd z h)
theorem jx_zneF (hC : Cok X V A own cc nL) {x : Int32} {off : Int} (tgt : Nat) (hdg : decode cc pc = .ok (.ifCond .ne off, 3)) (ht : (pc : Int) + off = (tgt : Int)) (h : x = 0) (k : JX X V A R nL Q (pc + 3) lv (rest) ws cells slots) : JX X V A R nL Q (pc) lv (.int x :: rest) ws cells slots :=
  fun H locs ls h1 h2 h3 h4 => lv_if_ne hC.1 hC.2.1 hdg ht (fun z => absurd h z) (fun _ => k H locs ls h1 h2 h3 h4)
theorem jx_zgeT (hC : Cok X V A own cc nL) {x : Int32} {off : Int} (tgt : Nat) (hdg : decode cc pc = .ok (.ifCond .ge off, 3)) (ht : (pc : Int) + off = (tgt : Int)) (h : 0 ≤ x) (k : JX X V A R nL Q (tgt) lv (rest) ws cells slots) : JX X V A R nL Q (pc) lv (.int x :: rest) ws cells slots :=
  fun H locs ls h1 h2 h3 h4 => lv_if_ge hC.1 hC.2.1 hdg ht (fun _ => k H locs ls h1 h2 h3 h4) (fun z => absurd h z)
theorem jx_zgeF (hC : Cok X V A own cc nL) {x : Int32} {off : Int} (tgt : Nat) (hdg : decode cc pc = .ok (.ifCond .ge off, 3)) (ht : (pc : Int) + off = (tgt : Int)) (h : ¬ 0 ≤ x) (k : JX X V A R nL Q (pc + 3) lv (rest) ws cells slots) : JX X V A R nL Q (pc) lv (.int x :: rest) ws cells slots :=
  fun H locs ls h1 h2 h3 h4 => lv_if_ge hC.1 hC.2.1 hdg ht (fun z => absurd z h) (fun _ => k H locs ls h1 h2 h3 h4)
theorem jx_zltT (hC : Cok X V A own cc nL) {x : Int32} {off : Int} (tgt : Nat) (hdg : decode cc pc = .ok (.ifCond .lt off, 3)) (ht : (pc : Int) + off = (tgt : Int)) (h : x < 0) (k : JX X V A R nL Q (tgt) lv (rest) ws cells slots) : JX X V A R nL Q (pc) lv (.int x :: rest) ws cells slots :=
  fun H locs ls h1 h2 h3 h4 => lv_if_lt hC.1 hC.2.1 hdg ht (fun _ => k H locs ls h1 h2 h3 h4) (fun z => absurd h z)
theorem jx_zltF (hC : Cok X V A own cc nL) {x : Int32} {off : Int} (tgt : Nat) (hdg : decode cc pc = .ok (.ifCond .lt off, 3)) (ht : (pc : Int) + off = (tgt : Int)) (h : ¬ x < 0) (k : JX X V A R nL Q (pc + 3) lv (rest) ws cells slots) : JX X V A R nL Q (pc) lv (.int x :: rest) ws cells slots :=
  fun H locs ls h1 h2 h3 h4 => lv_if_lt hC.1 hC.2.1 hdg ht (fun z => absurd z h) (fun _ => k H locs ls h1 h2 h3 h4)
theorem jx_zleT (hC : Cok X V A own cc nL) {x : Int32} {off : Int} (tgt : Nat) (hdg : decode cc pc = .ok (.ifCond .le off, 3)) (ht : (pc : Int) + off = (tgt : Int)) (h : x ≤ 0) (k : JX X V A R nL Q (tgt) lv (rest) ws cells slots) : JX X V A R nL Q (pc) lv (.int x :: rest) ws cells slots :=
  fun H locs ls h1 h2 h3 h4 => lv_if_le hC.1 hC.2.1 hdg ht (fun _ => k H locs ls h1 h2 h3 h4) (fun z => absurd h z)
theorem jx_zleF (hC : Cok X V A own cc nL) {x : Int32} {off : Int} (tgt : Nat) (hdg : decode cc pc = .ok (.ifCond .le off, 3)) (ht : (pc : Int) + off = (tgt : Int)) (h : ¬ x ≤ 0) (k : JX X V A R nL Q (pc + 3) lv (rest) ws cells slots) : JX X V A R nL Q (pc) lv (.int x :: rest) ws cells slots :=
  fun H locs ls h1 h2 h3 h4 => lv_if_le hC.1 hC.2.1 hdg ht (fun z => absurd z h) (fun _ => k H locs ls h1 h2 h3 h4)
theorem jx_alen (hC : Cok X V A own cc nL) (q0 t0 : Nat) {a n : Nat} {cA : ClassId} {f : Nat → Int32} {ty : FieldType} {v : Int32} (he : ws[q0]? = some (a, .inl (cA, n, .inl f))) (ht : (tysv V)[t0]? = some (cA, ty)) (hv : Int32.ofNat n = v) (hdg : decode cc pc = .ok (.arraylength, 1)) (k : JX X V A R nL Q (pc + 1) lv (.int v :: rest) ws cells slots) : JX X V A R nL Q pc lv (.ref a :: rest) ws cells slots :=
  fun H locs ls h1 h2 h3 h4 => va_alen hC.1 hC.2.1 hC.2.2.2.2.2.1 h1 q0 t0 he ht hv hdg (k H locs ls h1 h2 h3 h4)
theorem jx_bald (hC : Cok X V A own cc nL) (q0 : Nat) {a n : Nat} {f : Nat → Int32} (he : ws[q0]? = some (a, .inl (V.2.1 3, n, .inl f))) {i v : Int32} (hin : vp_in i n) (hv : f i.toNatClampNeg = v) (hdg : decode cc pc = .ok (.baload, 1)) (k : JX X V A R nL Q (pc + 1) lv (.int v :: rest) ws cells slots) : JX X V A R nL Q pc lv (.int i :: .ref a :: rest) ws cells slots :=
  fun H locs ls h1 h2 h3 h4 => va_bald hC.1 hC.2.1 hC.2.2.2.2.2.1 h1 q0 3 he rfl hin hdg (by rw [hv]; exact k H locs ls h1 h2 h3 h4)
theorem jx_bast (hC : Cok X V A own cc nL) (q0 : Nat) {a n : Nat} {f g : Nat → Int32} (he : ws[q0]? = some (a, .inl (V.2.1 3, n, .inl f))) {i x : Int32} (hin : vp_in i n) (hg : upd f i.toNatClampNeg (vp_nar .byte x) = g) (hdg : decode cc pc = .ok (.bastore, 1)) (k : JX X V A R nL Q (pc + 1) lv rest (ws.set q0 (a, .inl (V.2.1 3, n, .inl g))) cells slots) : JX X V A R nL Q pc lv (.int x :: .int i :: .ref a :: rest) ws cells slots :=
  fun H locs ls h1 h2 h3 h4 => va_bast hC.1 hC.2.1 hC.2.2.2.2.2.1 h1 h2 h3 q0 3 he rfl hin hdg (fun H1 locs1 hP hD hS => by rw [hg] at hP hD; exact k H1 locs1 ls hP hD hS h4)
theorem jx_tb (hC : Cok X V A own cc nL) {t N : Nat} {f : Nat → Value} (hT : va_T .byte t N f A (xs X) (xs X).heap) {i : Int32} {v : Value} (hin : vp_in i N) (hv : f i.toNatClampNeg = v) (hdg : decode cc pc = .ok (.baload, 1)) (k : JX X V A R nL Q (pc + 1) lv (v :: rest) ws cells slots) : JX X V A R nL Q pc lv (.int i :: .ref t :: rest) ws cells slots :=
  fun H locs ls h1 h2 h3 h4 => va_tb hC.1 hC.2.1 hT h3 hin hv hdg (k H locs ls h1 h2 h3 h4)
theorem jx_tlen (hC : Cok X V A own cc nL) {ty : FieldType} {t N : Nat} {f : Nat → Value} (hT : va_T ty t N f A (xs X) (xs X).heap) {v : Int32} (hv : Int32.ofNat N = v) (hdg : decode cc pc = .ok (.arraylength, 1)) (k : JX X V A R nL Q (pc + 1) lv (.int v :: rest) ws cells slots) : JX X V A R nL Q pc lv (.ref t :: rest) ws cells slots :=
  fun H locs ls h1 h2 h3 h4 => va_tlen hC.1 hC.2.1 hT h3 hv hdg (k H locs ls h1 h2 h3 h4)
theorem jx_gets (hC : Cok X V A own cc nL) {C n d : String} {v : Value} {index : Nat} (hZ : va_Z C n d v A (xs X) (xs X).heap) (hlink : Cond.fieldLink own index C n d ∈ gw) (hdg : decode cc pc = .ok (.getstatic index, 3)) (k : JX X V A R nL Q (pc + 3) lv (v :: rest) ws cells slots) : JX X V A R nL Q pc lv rest ws cells slots :=
  fun H locs ls h1 h2 h3 h4 => va_gets hC.1 hC.2.1 hZ h3 hC.2.2.2.1 (lx_words hC hlink) (fun _ h => h) hdg (k H locs ls h1 h2 h3 h4)
theorem jx_getE (hC : Cok X V A own cc nL) {o n d : String} {v : Value} {index q : Nat} (hE : va_OF o n d v q A (xs X) (xs X).heap) (hlink : Cond.fieldLink own index o n d ∈ gw) (hdg : decode cc pc = .ok (.getfield index, 3)) (k : JX X V A R nL Q (pc + 3) lv (v :: rest) ws cells slots) : JX X V A R nL Q pc lv (.ref q :: rest) ws cells slots :=
  fun H locs ls h1 h2 h3 h4 => vk_getf hC.1 hC.2.1 hE h3 hC.2.2.2.1 (lx_words hC hlink) (fun _ h => h) hdg (k H locs ls h1 h2 h3 h4)
theorem jx_getf (hC : Cok X V A own cc nL) {C : String} {T : u_T} {N ci index : Nat} (hw : ∀ w ∈ u_ws C T N, w ∈ gw) (q0 : Nat) {a : Nat} {fs : List Value} (he : ws[q0]? = some (a, .inr (ci, fs))) (hc : clv[ci]? = some (C, T, N)) (k0 : Nat) (hk : k0 < N) (hlink : Cond.fieldLink own index (T k0).1 (T k0).2.1 (T k0).2.2.1 ∈ gw) {v : Value} (hv : fs[k0]? = some v) (hdg : decode cc pc = .ok (.getfield index, 3))
    (k : JX X V A R nL Q (pc + 3) lv (v :: rest) ws cells slots) : JX X V A R nL Q pc lv (.ref a :: rest) ws cells slots :=
  fun H locs ls h1 h2 h3 h4 => va_get hC.1 hC.2.1 hC.2.2.2.2.1 hw hC.2.2.2.1 hC.2.2.2.2.2.1 h1 q0 he hc k0 hk (lx_words hC hlink) (fun _ h => h) hv hdg (k H locs ls h1 h2 h3 h4)
theorem jx_put (hC : Cok X V A own cc nL) {C : String} {T : u_T} {N ci index : Nat} (hw : ∀ w ∈ u_ws C T N, w ∈ gw) (ty0 : Nat → FieldType) (hty : ∀ k, k < N → parseFieldDescriptor (T k).2.2.1 = some (ty0 k)) (hnm : ∀ a, a < N → ∀ b, b < N → a ≠ b → (T a).2.1 ≠ (T b).2.1) (q0 : Nat) {a : Nat} {fs : List Value} (he : ws[q0]? = some (a, .inr (ci, fs))) (hc : clv[ci]? = some (C, T, N)) (k0 : Nat) (hk : k0 < N) (hlink : Cond.fieldLink own index (T k0).1 (T k0).2.1 (T k0).2.2.1 ∈ gw) (hfin : (T k0).2.2.2 = false) {v : Value} (hn : narrow (ty0 k0) v = v) (hfit : fits (ty0 k0) v = true) (hl : k0 < fs.length) (hdg : decode cc pc = .ok (.putfield index, 3))
    (k : JX X V A R nL Q (pc + 3) lv rest (ws.set q0 (a, .inr (ci, fs.set k0 v))) cells slots) : JX X V A R nL Q pc lv (v :: .ref a :: rest) ws cells slots :=
  fun H locs ls h1 h2 h3 h4 => va_put hC.1 hC.2.1 hC.2.2.2.2.1 hw ty0 hty hnm hC.2.2.2.1 hC.2.2.2.2.2.1 h1 h2 h3 q0 he hc k0 hk (lx_words hC hlink) (fun _ h => h) hfin (hty k0 hk) hn hfit hl hdg (fun H1 locs1 hP hD hS => k H1 locs1 ls hP hD hS h4)
theorem jx_ldc (hC : Cok X V A own cc nL) {index : Nat} {v : Int32} (hc : Cond.constant own index v ∈ gw) (hdg : decode cc pc = .ok (.ldc index, 2)) (k : JX X V A R nL Q (pc + 2) lv (.int v :: rest) ws cells slots) : JX X V A R nL Q pc lv rest ws cells slots :=
  fun H locs ls h1 h2 h3 h4 => lv_ldc hC.1 hC.2.1 hC.2.2.2.1 (lx_words hC hc) hdg (k H locs ls h1 h2 h3 h4)
theorem jx_newb (hC : Cok X V A own cc nL) (harr : Cond.arrayClass (newarray.typeOf .byte) ∈ gw) {n : Int32} {N : Nat} (hn : ¬ n < 0) (hN : n.toNatClampNeg = N) (hb : N * componentBytes .byte ≤ 536870912) (hc : cells + 1 ≤ R.cells) (hs : slots + N ≤ R.slots) (hdg : decode cc pc = .ok (.newarray .byte, 2))
    (k : ∀ q : Nat, JX X V A R nL Q (pc + 2) lv (.ref q :: rest) (ws ++ [(q, .inl (V.2.1 3, (N, .inl (fun _ => 0))))]) (cells + 1) (slots + N)) : JX X V A R nL Q pc lv (.int n :: rest) ws cells slots := by
  intro H locs ls h1 h2 h3 h4
  refine va_newa (atype := .byte) (a0 := (N, .inl (fun _ => 0))) hC.1 hC.2.1 (lx_words hC harr) rfl hC.2.2.2.2.2.1 h1 h2 h3 hC.2.2.2.2.2.2.1 (fun _ => rfl) hn hN hb hc hs hdg (fun q cA H1 hK1 hP1 hD1 hS1 => ?_)
  have e1 : va_RA (xs X) cA .byte := (hK1.2 (tysv V).length (cA, .byte) (by simp; rfl)).2
  have e2 : va_RA (xs X) (V.2.1 3) .byte := (hC.2.2.2.2.2.1.2 3 (V.2.1 3, .byte) rfl).2
  have e3 : cA = V.2.1 3 := Option.some.inj (Eq.trans (Eq.symm e1) e2)
  subst e3
  exact k q H1 locs ls hP1 hD1 hS1 h4
theorem jx_copy (hC : Cok X V A own cc nL) {index : Nat} (hlink : Cond.methodLink own index arraycopyName ∈ gw) (hnat : Cond.native arraycopyName ∈ gw) (hstat : Cond.static arraycopyName ∈ gw) (hini : Cond.initialized "java/lang/System" ∈ gw) (q0 q1 : Nat) {a0 a n0 n1 : Nat} {f g : Nat → Int32} (ha0 : ws[q0]? = some (a0, .inl (V.2.1 3, n0, .inl f))) (ha1 : ws[q1]? = some (a, .inl (V.2.1 3, n1, .inl g))) {sp dp n : Int32} (h1 : ¬ sp < 0) (h2 : ¬ dp < 0) (h3 : ¬ n < 0) (h4 : sp.toNatClampNeg + n.toNatClampNeg ≤ n0) (h5 : dp.toNatClampNeg + n.toNatClampNeg ≤ n1) (hfit : ∀ i, i < n.toNatClampNeg → fits .byte (.int (f (sp.toNatClampNeg + i))) = true) (hframes : 1 ≤ R.frames) (hlocals : wdt rest + (nativeFrameWords "java/lang/System" "arraycopy" 5 + 11) ≤ R.locals) (hdg : decode cc pc = .ok (.invokestatic index, 3))
    (k : JX X V A R nL Q (pc + 3) lv rest (ws.set q1 (a, .inl (V.2.1 3, n1, .inl (va_cpy f g sp.toNatClampNeg dp.toNatClampNeg n.toNatClampNeg)))) cells slots) : JX X V A R nL Q pc lv (.int n :: .int dp :: .ref a :: .int sp :: .ref a0 :: rest) ws cells slots :=
  fun H locs ls g1 g2 g3 g4 => va_copyi hC.1 hC.2.1 (hC.2.2.1.trans g4.1.symm) hC.2.2.2.1 (lx_words hC hlink) (lx_words hC hnat) (lx_words hC hstat) (lx_words hC hini) hC.2.2.2.2.2.1 g1 g2 g3 q0 q1 3 3 ha0 ha1 rfl rfl rfl h1 h2 h3 h4 h5 hfit hframes hlocals hdg (fun H1 locs1 hP hD hS => k H1 locs1 ls hP hD hS g4)
theorem nI_max {a c : Nat} (ha : a < 2 ^ 31) (hc : c < 2 ^ 31) : (if nI a < nI c then nI c else nI a) = nI (max a c) := by
  by_cases h : a < c
  · rw [if_pos ((nI_ltI ha hc).mpr h), show max a c = c from by omega]
  · rw [if_neg (fun z => h ((nI_ltI ha hc).mp z)), show max a c = a from by omega]
theorem nI_min {a c : Nat} (ha : a < 2 ^ 31) (hc : c < 2 ^ 31) : (if nI c < nI a then nI c else nI a) = nI (min a c) := by
  by_cases h : c < a
  · rw [if_pos ((nI_ltI hc ha).mpr h), show min a c = c from by omega]
  · rw [if_neg (fun z => h ((nI_ltI hc ha).mp z)), show min a c = a from by omega]
theorem jx_mmax (hC : Cok X V A own cc nL) {index : Nat} (w1 : Cond.methodLink own index Lib.Math.max.name ∈ gw) (w2 : Cond.static Lib.Math.max.name ∈ gw) (w3 : Cond.initialized "java/lang/Math" ∈ gw) (w4 : Cond.code Lib.Math.max.name Lib.Math.max.code 2 (some .int) ∈ gw) (hf : 1 ≤ R.frames) (hl : wdt rest + 13 ≤ R.locals) (hc : cells ≤ R.cells) (hs : slots ≤ R.slots) {a b : Nat} (ha : a < 2 ^ 31) (hb : b < 2 ^ 31) (hdg : decode cc pc = .ok (.invokestatic index, 3)) (k : JX X V A R nL Q (pc + 3) lv (.int (nI (max a b)) :: rest) ws cells slots) : JX X V A R nL Q pc lv (.int (nI b) :: .int (nI a) :: rest) ws cells slots :=
  fun H locs ls h1 h2 h3 h4 => va_mmax hC.1 hC.2.1 (hC.2.2.1.trans h4.1.symm) hC.2.2.2.1 (lx_words hC w1) (lx_words hC w2) (lx_words hC w3) (lx_words hC w4) hf hl hc hs hdg (by rw [nI_max ha hb]; exact k H locs ls h1 h2 h3 h4)
theorem jx_mmin (hC : Cok X V A own cc nL) {index : Nat} (w1 : Cond.methodLink own index Lib.Math.min.name ∈ gw) (w2 : Cond.static Lib.Math.min.name ∈ gw) (w3 : Cond.initialized "java/lang/Math" ∈ gw) (w4 : Cond.code Lib.Math.min.name Lib.Math.min.code 2 (some .int) ∈ gw) (hf : 1 ≤ R.frames) (hl : wdt rest + 13 ≤ R.locals) (hc : cells ≤ R.cells) (hs : slots ≤ R.slots) {a b : Nat} (ha : a < 2 ^ 31) (hb : b < 2 ^ 31) (hdg : decode cc pc = .ok (.invokestatic index, 3)) (k : JX X V A R nL Q (pc + 3) lv (.int (nI (min a b)) :: rest) ws cells slots) : JX X V A R nL Q pc lv (.int (nI b) :: .int (nI a) :: rest) ws cells slots :=
  fun H locs ls h1 h2 h3 h4 => va_mmin hC.1 hC.2.1 (hC.2.2.1.trans h4.1.symm) hC.2.2.2.1 (lx_words hC w1) (lx_words hC w2) (lx_words hC w3) (lx_words hC w4) hf hl hc hs hdg (by rw [nI_min ha hb]; exact k H locs ls h1 h2 h3 h4)
theorem jx_ws {ws1 : va_W} (h : ws = ws1) (k : JX X V A R nL Q pc lv st ws1 cells slots) : JX X V A R nL Q pc lv st ws cells slots := by rw [h]; exact k
theorem jx_lv {lv1 : List (Nat × Value)} (h : lv = lv1) (k : JX X V A R nL Q pc lv1 st ws cells slots) : JX X V A R nL Q pc lv st ws cells slots := by rw [h]; exact k
theorem jx_lsub (ks : List Nat) {lv1 : List (Nat × Value)} (hl : lv_pick lv ks = lv1) (k : JX X V A R nL Q pc lv1 st ws cells slots) : JX X V A R nL Q pc lv st ws cells slots :=
  fun H locs ls h1 h2 h3 h4 => k H locs ls h1 h2 h3 (lv_sub h4 ks hl)
theorem jx_sub (is : List Nat) {ws1 : va_W} (hn : va_nd is = true) (hs : is.map (fun i => ws[i]?) = ws1.map some) (k : JX X V A R nL Q pc lv st ws1 cells slots) : JX X V A R nL Q pc lv st ws cells slots := by
  intro H locs ls h1 h2 h3 h4
  have hf : is.filterMap (fun i => ws[i]?) = ws1 := by
    have e : is.filterMap (fun i => ws[i]?) = (is.map (fun i => ws[i]?)).filterMap id := by rw [List.filterMap_map]; rfl
    rw [e, hs, List.filterMap_map]
    exact List.filterMap_some
  exact k H locs ls (h1.sub is hf) (h2.sub is hn hs) h3 h4
theorem jx_vret (hC : Cok X V A own cc nL) {mc ms : Nat} {post : Option Value → va_W → Prop} (hr : (xh X).sig.returnType = none) (hp : post none ws) (hc : cells ≤ mc) (hs : slots ≤ ms) (hdg : decode cc pc = .ok (.return_, 1)) : JX X V A R nL (MQ (xb X) (KQ V A post) (xa X) (xs X) mc ms A) pc lv [] ws cells slots :=
  fun H locs ls h1 h2 h3 h4 => W.widen hc hs (W.vret hC.1 hC.2.1 hr (fun t ht _ => ⟨⟨none, ws, rfl, hp, by rw [ht]; exact h1, h2⟩, h3.F ht⟩) h3.2.2 hdg (hlocks := hC.2.2.2.2.2.2.2))
theorem jx_iret (hC : Cok X V A own cc nL) {mc ms : Nat} {x : Int32} {post : Option Value → va_W → Prop} (hr : (xh X).sig.returnType = some .int) (hp : post (some (.int x)) ws) (hc : cells ≤ mc) (hs : slots ≤ ms) (hdg : decode cc pc = .ok (.ireturn, 1)) : JX X V A R nL (MQ (xb X) (KQ V A post) (xa X) (xs X) mc ms A) pc lv [.int x] ws cells slots :=
  fun H locs ls h1 h2 h3 h4 => W.widen hc hs (W.iret hC.1 hC.2.1 hr (fun t ht _ => ⟨⟨some (.int x), ws, rfl, hp, by rw [ht]; exact h1, h2⟩, h3.F ht⟩) h3.2.2 hdg (hlocks := hC.2.2.2.2.2.2.2))
theorem jx_zret (hC : Cok X V A own cc nL) {mc ms : Nat} {x : Int32} {ty : FieldType} {post : Option Value → va_W → Prop} (hr : (xh X).sig.returnType = some ty) (hn : narrow ty (.int x) = .int x) (hp : post (some (.int x)) ws) (hc : cells ≤ mc) (hs : slots ≤ ms) (hdg : decode cc pc = .ok (.ireturn, 1)) : JX X V A R nL (MQ (xb X) (KQ V A post) (xa X) (xs X) mc ms A) pc lv [.int x] ws cells slots :=
  fun H locs ls h1 h2 h3 h4 => W.widen hc hs (W.zret hC.1 hC.2.1 hr hn (fun t ht _ => ⟨⟨some (.int x), ws, rfl, hp, by rw [ht]; exact h1, h2⟩, h3.F ht⟩) h3.2.2 hdg (hlocks := hC.2.2.2.2.2.2.2))
theorem jx_aret (hC : Cok X V A own cc nL) {mc ms : Nat} {a : Nat} {rt : FieldType} {post : Option Value → va_W → Prop} (hr : (xh X).sig.returnType = some rt) (hrt : (∃ n, rt = .object n) ∨ ∃ t, rt = .array t) (hp : post (some (.ref a)) ws) (hc : cells ≤ mc) (hs : slots ≤ ms) (hdg : decode cc pc = .ok (.areturn, 1)) : JX X V A R nL (MQ (xb X) (KQ V A post) (xa X) (xs X) mc ms A) pc lv [.ref a] ws cells slots :=
  fun H locs ls h1 h2 h3 h4 => W.widen hc hs (W.aret hC.1 hC.2.1 hr hrt (Or.inr ⟨a, rfl⟩) (fun t ht _ => ⟨⟨some (.ref a), ws, rfl, hp, by rw [ht]; exact h1, h2⟩, h3.F ht⟩) h3.2.2 hdg (hlocks := hC.2.2.2.2.2.2.2))
theorem jx_callG (hC : Cok X V A own cc nL) {mc ms : Nat} {post : Option Value → va_W → Prop} {wc wr : va_W} {aa : Array Value} (isC isR : List Nat) (h1 : isC.map (fun i => ws[i]?) = wc.map some) (h2 : isR.map (fun i => ws[i]?) = wr.map some) (hnC : va_nd isC = true) (hnR : va_nd isR = true) (hdis : ∀ i ∈ isR, i ∉ isC)
    (hrun : ∀ (H : Heap) (locs : List Loc) (ls : Array Slot), va_P V.1 clv ws H → va_P V.1 clv wc H → va_D (va_A wc H.size) wc → (∀ q, va_A wc H.size q → A q) → va_S A (xs X).heap H locs → lv_has ls nL lv → va_Run (xp X) (xl X) (xe X) R (xs X) (xm X) (xa X) (xb X) (xh X) (xc X) H locs cells slots mc ms (F0 (xm X) pc ls st) rest (KQ V (va_A wc H.size) post aa) (va_A wc H.size))
    (k : ∀ r w1, post r w1 → JX X V A R nL Q (pc + 3) lv (r.toList ++ rest) (wr ++ w1) (cells + mc) (slots + ms)) : JX X V A R nL Q pc lv st ws cells slots := by
  intro H locs ls hP hD hS h4
  have hf : isC.filterMap (fun i => ws[i]?) = wc := by
    have e : isC.filterMap (fun i => ws[i]?) = (isC.map (fun i => ws[i]?)).filterMap id := by rw [List.filterMap_map]; rfl
    rw [e, h1, List.filterMap_map]
    exact List.filterMap_some
  have hPc := hP.sub (ws' := wc) isC hf
  have hDc := hD.sub (ws' := wc) isC hnC h1
  have hFc := va_free (wc := wc) hD hS hC.2.2.2.2.2.2.1 isC h1
  refine kc_call (hrun H locs ls hP hPc hDc.self hFc hS h4) hS (fun z _ h => hFc z h) hFc (fun r w H1 locs1 hp hP1 hD1 hz hk hS1 => ?_)
  obtain ⟨hP2, hD2⟩ := va_join (wr := wr) (w1 := w) hP hD isC isR h1 h2 hnR hdis hk hFc hP1 hD1
  exact k r w hp H1 locs1 ls hP2 hD2 hS1 h4
theorem jx_callS (hC : Cok X V A own cc nL) {adV : Nat → Nat} (hJ : JW V adV A (xs X) (xs X).heap) {y : MethodName} {ccy : ByteArray} {nLy : Nat} {ret : Option FieldType} {fr' lo' mc ms index : Nat} {as : List Value} {post : Option Value → va_W → Prop} {wc wr : va_W} (hn : KC (xl X) y (.code y ccy nLy ret) fr' lo' mc ms as V adV wc post) (hw0 : Cond.code y ccy nLy ret ∈ gw) (hini : Cond.initialized y.cls ∈ gw) (hlink : Cond.methodLink own index y ∈ gw) (hst : Cond.static y ∈ gw)
    (hd : y.cls ≠ "java/lang/invoke/MethodHandle" ∧ y.cls ≠ "java/lang/invoke/VarHandle" ∧ (parseMethodDescriptor y.desc).map (fun d => d.parameters.length) = some as.length) (hf : fr' + 1 ≤ R.frames) (hl : 8 + (nLy + 11) + lo' ≤ R.locals) (hw : wdt rest ≤ 8) (hc : cells + mc ≤ R.cells) (hs : slots + ms ≤ R.slots) (isC isR : List Nat) (h1 : isC.map (fun i => ws[i]?) = wc.map some) (h2 : isR.map (fun i => ws[i]?) = wr.map some) (hnC : va_nd isC = true) (hnR : va_nd isR = true) (hdis : ∀ i ∈ isR, i ∉ isC) (hst0 : st = as.reverse ++ rest) (hdg : decode cc pc = .ok (.invokestatic index, 3))
    (k : ∀ r w1, post r w1 → JX X V A R nL Q (pc + 3) lv (r.toList ++ rest) (wr ++ w1) (cells + mc) (slots + ms)) : JX X V A R nL Q pc lv st ws cells slots :=
  jx_callG hC isC isR h1 h2 hnC hnR hdis (fun H locs ls _ hPc hDc hFc hS h4 => va_runS (As := as) ⟨hC.1, hC.2.1, hC.2.2.1, hC.2.2.2.1, hC.2.2.2.2.1⟩ (hn H.size) ⟨callB_gw (R := R) hC hw0 hini hlink hd hf hl, lx_words hC hst⟩ ⟨kp_blind, kp_at hC hJ hPc hDc hFc hS⟩ rfl rfl (by show ls.size = nL; exact h4.1) (by rw [hst0]) (by show 2 * 0 + _ ≤ 8; rw [show (rest.map fun v => v.category).sum = wdt rest from rfl]; omega) hdg ⟨hc, hs⟩) k
theorem jx_recv (hC : Cok X V A own cc nL) {C : String} {T : u_T} {N ci a q0 : Nat} {fs : List Value} {H : Heap} (hc : clv[ci]? = some (C, T, N)) (he : ws[q0]? = some (a, .inr (ci, fs))) (hP : va_P V.1 clv ws H) : ∃ cell : Cell, H[a]? = some cell ∧ cell.vm.isStatics = false ∧ (xs X).vm.findClass C = some cell.cls := by
  obtain ⟨r', hr', cellV, g1, g2, g3, -⟩ := hP q0 _ he
  exact ⟨cellV, g1, by rw [g3]; rfl, by rw [g2]; exact (hC.2.2.2.2.2.1.1 ci _ hc).2.1⟩
/-- a method of the receiver's own class -/
theorem jx_callV (hC : Cok X V A own cc nL) {adV : Nat → Nat} (hJ : JW V adV A (xs X) (xs X).heap) {y : MethodName} {ccy : ByteArray} {nLy : Nat} {ret : Option FieldType} {fr' lo' mc ms index b : Nat} {C : String} {as : List Value} {post : Option Value → va_W → Prop} {wc wr : va_W} (hn : KC (xl X) y (.code y ccy nLy ret) fr' lo' mc ms (.ref b :: as) V adV wc post) (hrc : ∀ H : Heap, va_P V.1 clv ws H → (∀ locs, va_S A (xs X).heap H locs → ∃ cell : Cell, H[b]? = some cell ∧ cell.vm.isStatics = false ∧ (xs X).vm.findClass C = some cell.cls)) (hw0 : Cond.code y ccy nLy ret ∈ gw) (hini : Cond.initialized y.cls ∈ gw) (hlink : Cond.methodLink own index y ∈ gw) (hin : Cond.instanceMethod y ∈ gw) (hse : Cond.selects C y y ∈ gw)
    (hd : y.cls ≠ "java/lang/invoke/MethodHandle" ∧ y.cls ≠ "java/lang/invoke/VarHandle" ∧ (parseMethodDescriptor y.desc).map (fun d => d.parameters.length) = some as.length) (hf : fr' + 1 ≤ R.frames) (hl : 8 + (nLy + 11) + lo' ≤ R.locals) (hw : wdt rest ≤ 8) (hc : cells + mc ≤ R.cells) (hs : slots + ms ≤ R.slots) (isC isR : List Nat) (h1 : isC.map (fun i => ws[i]?) = wc.map some) (h2 : isR.map (fun i => ws[i]?) = wr.map some) (hnC : va_nd isC = true) (hnR : va_nd isR = true) (hdis : ∀ i ∈ isR, i ∉ isC) (hst0 : st = as.reverse ++ .ref b :: rest) (hdg : decode cc pc = .ok (.invokevirtual index, 3))
    (k : ∀ r w1, post r w1 → JX X V A R nL Q (pc + 3) lv (r.toList ++ rest) (wr ++ w1) (cells + mc) (slots + ms)) : JX X V A R nL Q pc lv st ws cells slots :=
  jx_callG hC isC isR h1 h2 hnC hnR hdis (fun H locs ls hP hPc hDc hFc hS h4 => va_runV (As := as) (b := b) ⟨hC.1, hC.2.1, hC.2.2.1, hC.2.2.2.1, hC.2.2.2.2.1⟩ (hn H.size) ⟨callB_gw (R := R) hC hw0 hini hlink hd hf hl, lx_words hC hin, lx_words hC hse⟩ ⟨kp_blind, hrc H hP locs hS, kp_at hC hJ hPc hDc hFc hS⟩ rfl rfl (by show ls.size = nL; exact h4.1) (by rw [hst0]) (by show 2 * 0 + _ ≤ 8; rw [show (rest.map fun v => v.category).sum = wdt rest from rfl]; omega) hdg ⟨hc, hs⟩) k
theorem gw_in {y : MethodName} {ccy : ByteArray} {nLy : Nat} {ret : Option FieldType} (hw0 : Cond.code y ccy nLy ret ∈ gw) : GoodIn gw (Cond.code y ccy nLy ret :: gw) := fun w h => (List.mem_cons.mp h).elim (fun e => by rw [e]; exact gw_good _ hw0) (gw_good w)
/-- a method that the receiver's class inherits (or that is private to the class above) -/
theorem jx_callU (hC : Cok X V A own cc nL) {adV : Nat → Nat} (hJ : JW V adV A (xs X) (xs X).heap) {y : MethodName} {ccy : ByteArray} {nLy : Nat} {ret : Option FieldType} {fr' lo' mc ms index b : Nat} {C : String} {as : List Value} {post : Option Value → va_W → Prop} {wc wr : va_W} (hn : KC (xl X) y (.code y ccy nLy ret) fr' lo' mc ms (.ref b :: as) V adV wc post) {T : u_T} {N ci q0 : Nat} {fs : List Value} (hcl : clv[ci]? = some (C, T, N)) (he : ws[q0]? = some (b, .inr (ci, fs))) (hw0 : Cond.code y ccy nLy ret ∈ gw) (hini : Cond.initialized y.cls ∈ gw) (hlink : Cond.methodLink own index y ∈ gw) (hsame : Cond.sameMethod y.cls y.cls y.name y.desc ∈ gw) (hin : Cond.instanceMethod y ∈ gw) (hse : Cond.selects C y y ∈ gw)
    (hd : y.cls ≠ "java/lang/invoke/MethodHandle" ∧ y.cls ≠ "java/lang/invoke/VarHandle" ∧ (parseMethodDescriptor y.desc).map (fun d => d.parameters.length) = some as.length) (hf : fr' + 1 ≤ R.frames) (hl : 8 + (nLy + 11) + lo' ≤ R.locals) (hw : wdt rest ≤ 8) (hc : cells + mc ≤ R.cells) (hs : slots + ms ≤ R.slots) (isC isR : List Nat) (h1 : isC.map (fun i => ws[i]?) = wc.map some) (h2 : isR.map (fun i => ws[i]?) = wr.map some) (hnC : va_nd isC = true) (hnR : va_nd isR = true) (hdis : ∀ i ∈ isR, i ∉ isC) (hst0 : st = as.reverse ++ .ref b :: rest) (hdg : decode cc pc = .ok (.invokevirtual index, 3))
    (k : ∀ r w1, post r w1 → JX X V A R nL Q (pc + 3) lv (r.toList ++ rest) (wr ++ w1) (cells + mc) (slots + ms)) : JX X V A R nL Q pc lv st ws cells slots :=
  jx_callG hC isC isR h1 h2 hnC hnR hdis (fun H locs ls hP hPc hDc hFc hS h4 => va_runU (As := as) (b := b) (x := y) (owner := y.cls) ⟨hC.1, hC.2.1, hC.2.2.1, hC.2.2.2.1, hC.2.2.2.2.1⟩ (hn H.size)
    (va_cwU as.length hC.2.2.2.2.1 (fun w h => by
      unfold va_wsU at h
      rcases List.mem_append.mp h with h | h
      · simp only [List.mem_cons, List.not_mem_nil, or_false] at h
        rcases h with rfl | rfl | rfl | rfl | rfl
        · exact gw_good _ hlink
        · exact gw_good _ hsame
        · exact gw_good _ hse
        · exact gw_good _ hin
        · exact gw_good _ hini
      · exact gw_in hw0 w h) rfl rfl rfl rfl hd ⟨hf, hl⟩) ⟨kp_blind, jx_recv hC hcl he hP, kp_at hC hJ hPc hDc hFc hS⟩ rfl rfl (by show ls.size = nL; exact h4.1) (by rw [hst0]) (by show 2 * 0 + _ ≤ 8; rw [show (rest.map fun v => v.category).sum = wdt rest from rfl]; omega) hdg ⟨hc, hs⟩) k
/-- a call of the class above -/
theorem jx_callSU (hC : Cok X V A own cc nL) {adV : Nat → Nat} (hJ : JW V adV A (xs X) (xs X).heap) {y : MethodName} {ccy : ByteArray} {nLy : Nat} {ret : Option FieldType} {fr' lo' mc ms index b : Nat} {C : String} {as : List Value} {post : Option Value → va_W → Prop} {wc wr : va_W} (hn : KC (xl X) y (.code y ccy nLy ret) fr' lo' mc ms (.ref b :: as) V adV wc post) {T : u_T} {N ci q0 : Nat} {fs : List Value} (hcl : clv[ci]? = some (C, T, N)) (he : ws[q0]? = some (b, .inr (ci, fs))) (hw0 : Cond.code y ccy nLy ret ∈ gw) (hini : Cond.initialized y.cls ∈ gw) (hlink : Cond.methodLink own index y ∈ gw) (hsame : Cond.sameMethod y.cls y.cls y.name y.desc ∈ gw) (hsup : Cond.superclass own y.cls ∈ gw) (hin : Cond.instanceMethod y ∈ gw)
    (hd : y.name ≠ "<init>" ∧ (parseMethodDescriptor y.desc).map (fun d => d.parameters.length) = some as.length) (hf : fr' + 1 ≤ R.frames) (hl : 8 + (nLy + 11) + lo' ≤ R.locals) (hw : wdt rest ≤ 8) (hc : cells + mc ≤ R.cells) (hs : slots + ms ≤ R.slots) (isC isR : List Nat) (h1 : isC.map (fun i => ws[i]?) = wc.map some) (h2 : isR.map (fun i => ws[i]?) = wr.map some) (hnC : va_nd isC = true) (hnR : va_nd isR = true) (hdis : ∀ i ∈ isR, i ∉ isC) (hst0 : st = as.reverse ++ .ref b :: rest) (hdg : decode cc pc = .ok (.invokespecial index, 3))
    (k : ∀ r w1, post r w1 → JX X V A R nL Q (pc + 3) lv (r.toList ++ rest) (wr ++ w1) (cells + mc) (slots + ms)) : JX X V A R nL Q pc lv st ws cells slots :=
  jx_callG hC isC isR h1 h2 hnC hnR hdis (fun H locs ls hP hPc hDc hFc hS h4 => va_runSU (As := as) (b := b) (hC.2.2.2.2.2.1.1 ci _ hcl).2 ⟨hC.1, hC.2.1, hC.2.2.1, hC.2.2.2.1, hC.2.2.2.2.1⟩ (hn H.size)
    (va_cwSU as.length hC.2.2.2.2.1 (fun w h => by
      unfold va_wsSU at h
      rcases List.mem_append.mp h with h | h
      · simp only [List.mem_cons, List.not_mem_nil, or_false] at h
        rcases h with rfl | rfl | rfl | rfl | rfl
        · exact gw_good _ hlink
        · exact gw_good _ hsame
        · exact gw_good _ hsup
        · exact gw_good _ hin
        · exact gw_good _ hini
      · exact gw_in hw0 w h) rfl rfl rfl hd ⟨hf, hl⟩) ⟨kp_blind, jx_recv hC hcl he hP, kp_at hC hJ hPc hDc hFc hS⟩ rfl rfl (by show ls.size = nL; exact h4.1) (by rw [hst0]) (by show 2 * 0 + _ ≤ 8; rw [show (rest.map fun v => v.category).sum = wdt rest from rfl]; omega) hdg ⟨hc, hs⟩) k
end
