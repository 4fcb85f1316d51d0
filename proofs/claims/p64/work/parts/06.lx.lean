/-! ===== the judgement of a walk over the logical memory ===== -/
abbrev Cx : Type := Program × Launch × Env × State × MethodId × Array Value × List Frame × Method × Code
abbrev xp (X : Cx) : Program := X.1
abbrev xl (X : Cx) : Launch := X.2.1
abbrev xe (X : Cx) : Env := X.2.2.1
abbrev xs (X : Cx) : State := X.2.2.2.1
abbrev xm (X : Cx) : MethodId := X.2.2.2.2.1
abbrev xa (X : Cx) : Array Value := X.2.2.2.2.2.1
abbrev xb (X : Cx) : List Frame := X.2.2.2.2.2.2.1
abbrev xh (X : Cx) : Method := X.2.2.2.2.2.2.2.1
abbrev xc (X : Cx) : Code := X.2.2.2.2.2.2.2.2
abbrev WX (X : Cx) (R : Room) (H : Heap) (locs : List Loc) (cells slots : Nat) (Q : State → Prop) (g : JFrame) : Prop := W (xp X) (xl X) (xe X) R (xs X) (xm X) (xa X) (xb X) (xh X) (xc X) H locs cells slots Q g
/-- what a computation gives: an answer or the class of what it throws, and the memory behind it -/
abbrev Res (α : Type) : Type := Option ((α ⊕ String) × Mem)
def LX (X : Cx) (V : Vx) (A : Nat → Prop) (fr lo c0 s0 : Nat) {α : Type} (F : (α ⊕ String) × Mem → Room → State → Prop) (pc : Nat) (lv : List (Nat × Value)) (st : List Value) (σ : Mem) (r : Res α) : Prop :=
  ∀ (out : (α ⊕ String) × Mem), r = some out → (nC σ ≤ nC out.2 ∧ nS σ ≤ nS out.2) ∧ ∀ (R : Room), R.frames = fr → R.locals = lo → nC out.2 = c0 + R.cells → nS out.2 = s0 + R.slots →
    ∀ (H : Heap) (locs : List Loc) (hid : Nat → Nat) (ls : Array Slot) (cells slots : Nat), Rep V hid A σ H → va_S A (xs X).heap H locs → lv_has ls (xc X).maxLocals (cvl V.2.2 lv) → nC σ = c0 + cells → nS σ = s0 + slots →
      WX X R H locs cells slots (F out R) (F0 (xm X) pc ls (st.map (cv V.2.2)))
/-- a value gets a name -/
def vl {γ δ : Type} (x : γ) (f : γ → δ) : δ := f x
/-- the words that every method may use; selections of private methods of the builder's superclass are true by the tables (part 105) -/
def jselL : List Cond := [Cond.selects RJ4 yJ5_ensureCapacityInternal_d00df yJ5_ensureCapacityInternal_d00df, Cond.selects RJ4 yJ5_newCapacity_0f7a4 yJ5_newCapacity_0f7a4]
def gw : List Cond := (lw_tbl ++ jselL).filter goodWord
theorem gwm {w : Cond} (i : Nat) (h : lw_tbl[i]? = some w) (g : goodWord w = true) : w ∈ gw := List.mem_filter.mpr ⟨List.mem_append_left _ (List.mem_of_getElem? h), g⟩
theorem gw_good : GoodIn gw gw := fun _ h => ⟨h, good_of_word (List.mem_filter.mp h).2⟩
def tysv (V : Vx) : List (ClassId × FieldType) := [(V.2.1 0, .int), (V.2.1 1, .boolean), (V.2.1 2, .int), (V.2.1 3, .byte), (V.2.1 4, .int), (V.2.1 5, .int), (V.2.1 6, .object "EchoCensus$Theatre"), (V.2.1 7, .array .int)]
/-- what holds all through a method's body: the machine, the code, the words, the classes -/
def Cok (X : Cx) (V : Vx) (A : Nat → Prop) (own : String) (cc : ByteArray) (nL : Nat) : Prop :=
  (xp X).tables.exec = Jvm.exec ∧ (xc X).code = cc ∧ (xc X).maxLocals = nL ∧ (xs X).vm.findClass own = some (xm X).cls ∧ (∀ w ∈ gw, w.before (xa X) (xs X) = true) ∧ va_K V.1 clv (tysv V) (xs X) ∧ (∀ q, (xs X).heap.size ≤ q → A q) ∧ (xh X).locks = false
section
variable {X : Cx} {V : Vx} {A : Nat → Prop} {fr lo c0 s0 : Nat} {α β : Type} {F : (α ⊕ String) × Mem → Room → State → Prop} {pc : Nat} {lv : List (Nat × Value)} {rest : List Value} {σ : Mem} {r : Res α} {own : String} {cc : ByteArray} {nL : Nat}
theorem lx_none {st : List Value} : LX X V A fr lo c0 s0 F pc lv st σ none := fun _ h => nomatch h
/-- fewer locals, in any order -/
theorem lx_sub {st : List Value} {lv' : List (Nat × Value)} (ks : List Nat) (hl : lv_pick lv ks = lv') (k : LX X V A fr lo c0 s0 F pc lv' st σ r) : LX X V A fr lo c0 s0 F pc lv st σ r := by
  intro out h1
  obtain ⟨hm, K⟩ := k out h1
  exact ⟨hm, fun R h2 h3 h4 h5 H locs hid ls cells slots g1 g2 g3 g4 g5 => K R h2 h3 h4 h5 H locs hid ls cells slots g1 g2 (lv_sub g3 ks (by rw [cvl_pick, hl])) g4 g5⟩
theorem lx_iconst (hC : Cok X V A own cc nL) {n : Int} (hdg : decode cc pc = .ok (.iconst n, 1)) (k : LX X V A fr lo c0 s0 F (pc + 1) lv (.int (Int32.ofInt n) :: rest) σ r) : LX X V A fr lo c0 s0 F pc lv (rest) σ r := by
  intro out h1
  obtain ⟨hm, K⟩ := k out h1
  exact ⟨hm, fun R h2 h3 h4 h5 H locs hid ls cells slots g1 g2 g3 g4 g5 => lv_iconst hC.1 hC.2.1 hdg rfl (K R h2 h3 h4 h5 H locs hid ls cells slots g1 g2 g3 g4 g5)⟩
theorem lx_iconstv (hC : Cok X V A own cc nL) {n : Int} {v : Int32} (hdg : decode cc pc = .ok (.iconst n, 1)) (hv : Int32.ofInt n = v) (k : LX X V A fr lo c0 s0 F (pc + 1) lv (.int v :: rest) σ r) : LX X V A fr lo c0 s0 F pc lv (rest) σ r := by
  intro out h1
  obtain ⟨hm, K⟩ := k out h1
  exact ⟨hm, fun R h2 h3 h4 h5 H locs hid ls cells slots g1 g2 g3 g4 g5 => lv_iconst hC.1 hC.2.1 hdg hv (K R h2 h3 h4 h5 H locs hid ls cells slots g1 g2 g3 g4 g5)⟩
theorem lx_bipush (hC : Cok X V A own cc nL) {n : Int} {v : Int32} (hdg : decode cc pc = .ok (.bipush n, 2)) (hv : (Int8.ofInt n).toInt32 = v) (k : LX X V A fr lo c0 s0 F (pc + 2) lv (.int v :: rest) σ r) : LX X V A fr lo c0 s0 F pc lv (rest) σ r := by
  intro out h1
  obtain ⟨hm, K⟩ := k out h1
  exact ⟨hm, fun R h2 h3 h4 h5 H locs hid ls cells slots g1 g2 g3 g4 g5 => lv_bipush hC.1 hC.2.1 hdg hv (K R h2 h3 h4 h5 H locs hid ls cells slots g1 g2 g3 g4 g5)⟩
theorem lx_sipush (hC : Cok X V A own cc nL) {n : Int} {v : Int32} (hdg : decode cc pc = .ok (.sipush n, 3)) (hv : (Int16.ofInt n).toInt32 = v) (k : LX X V A fr lo c0 s0 F (pc + 3) lv (.int v :: rest) σ r) : LX X V A fr lo c0 s0 F pc lv (rest) σ r := by
  intro out h1
  obtain ⟨hm, K⟩ := k out h1
  exact ⟨hm, fun R h2 h3 h4 h5 H locs hid ls cells slots g1 g2 g3 g4 g5 => lv_sipush hC.1 hC.2.1 hdg hv (K R h2 h3 h4 h5 H locs hid ls cells slots g1 g2 g3 g4 g5)⟩
theorem lx_lconst (hC : Cok X V A own cc nL) {n : Fin 2} {v : Int64} (hdg : decode cc pc = .ok (.lconst n, 1)) (hv : Int64.ofNat (n : Nat) = v) (k : LX X V A fr lo c0 s0 F (pc + 1) lv (.long v :: rest) σ r) : LX X V A fr lo c0 s0 F pc lv (rest) σ r := by
  intro out h1
  obtain ⟨hm, K⟩ := k out h1
  exact ⟨hm, fun R h2 h3 h4 h5 H locs hid ls cells slots g1 g2 g3 g4 g5 => lv_lconst hC.1 hC.2.1 hdg hv (K R h2 h3 h4 h5 H locs hid ls cells slots g1 g2 g3 g4 g5)⟩
theorem lx_iload_n (hC : Cok X V A own cc nL) {j : Fin 4} {i : Nat} {x : Int32} (hdg : decode cc pc = .ok (.iload_n j, 1)) (hi : (j : Nat) = i) (q : Nat) (hl : lv[q]? = some (i, .int x)) (k : LX X V A fr lo c0 s0 F (pc + 1) lv (.int x :: rest) σ r) : LX X V A fr lo c0 s0 F pc lv (rest) σ r := by
  intro out h1
  obtain ⟨hm, K⟩ := k out h1
  exact ⟨hm, fun R h2 h3 h4 h5 H locs hid ls cells slots g1 g2 g3 g4 g5 => lv_iload_n hC.1 hC.2.1 hdg hi (lv_at g3 q (cvl_at hl)) (K R h2 h3 h4 h5 H locs hid ls cells slots g1 g2 g3 g4 g5)⟩
theorem lx_iload (hC : Cok X V A own cc nL) {i : Nat} {x : Int32} (hdg : decode cc pc = .ok (.iload i, 2)) (q : Nat) (hl : lv[q]? = some (i, .int x)) (k : LX X V A fr lo c0 s0 F (pc + 2) lv (.int x :: rest) σ r) : LX X V A fr lo c0 s0 F pc lv (rest) σ r := by
  intro out h1
  obtain ⟨hm, K⟩ := k out h1
  exact ⟨hm, fun R h2 h3 h4 h5 H locs hid ls cells slots g1 g2 g3 g4 g5 => lv_iload hC.1 hC.2.1 hdg (lv_at g3 q (cvl_at hl)) (K R h2 h3 h4 h5 H locs hid ls cells slots g1 g2 g3 g4 g5)⟩
theorem lx_lload_n (hC : Cok X V A own cc nL) {j : Fin 4} {i : Nat} {x : Int64} (hdg : decode cc pc = .ok (.lload_n j, 1)) (hi : (j : Nat) = i) (q : Nat) (hl : lv[q]? = some (i, .long x)) (k : LX X V A fr lo c0 s0 F (pc + 1) lv (.long x :: rest) σ r) : LX X V A fr lo c0 s0 F pc lv (rest) σ r := by
  intro out h1
  obtain ⟨hm, K⟩ := k out h1
  exact ⟨hm, fun R h2 h3 h4 h5 H locs hid ls cells slots g1 g2 g3 g4 g5 => lv_lload_n hC.1 hC.2.1 hdg hi (lv_at g3 q (cvl_at hl)) (K R h2 h3 h4 h5 H locs hid ls cells slots g1 g2 g3 g4 g5)⟩
theorem lx_lload (hC : Cok X V A own cc nL) {i : Nat} {x : Int64} (hdg : decode cc pc = .ok (.lload i, 2)) (q : Nat) (hl : lv[q]? = some (i, .long x)) (k : LX X V A fr lo c0 s0 F (pc + 2) lv (.long x :: rest) σ r) : LX X V A fr lo c0 s0 F pc lv (rest) σ r := by
  intro out h1
  obtain ⟨hm, K⟩ := k out h1
  exact ⟨hm, fun R h2 h3 h4 h5 H locs hid ls cells slots g1 g2 g3 g4 g5 => lv_lload hC.1 hC.2.1 hdg (lv_at g3 q (cvl_at hl)) (K R h2 h3 h4 h5 H locs hid ls cells slots g1 g2 g3 g4 g5)⟩
theorem lx_aload_n (hC : Cok X V A own cc nL) {j : Fin 4} {i : Nat} {x : Nat} (hdg : decode cc pc = .ok (.aload_n j, 1)) (hi : (j : Nat) = i) (q : Nat) (hl : lv[q]? = some (i, .ref x)) (k : LX X V A fr lo c0 s0 F (pc + 1) lv (.ref x :: rest) σ r) : LX X V A fr lo c0 s0 F pc lv (rest) σ r := by
  intro out h1
  obtain ⟨hm, K⟩ := k out h1
  exact ⟨hm, fun R h2 h3 h4 h5 H locs hid ls cells slots g1 g2 g3 g4 g5 => lv_aload_n hC.1 hC.2.1 hdg hi (lv_at g3 q (cvl_at hl)) (K R h2 h3 h4 h5 H locs hid ls cells slots g1 g2 g3 g4 g5)⟩
theorem lx_aload (hC : Cok X V A own cc nL) {i : Nat} {x : Nat} (hdg : decode cc pc = .ok (.aload i, 2)) (q : Nat) (hl : lv[q]? = some (i, .ref x)) (k : LX X V A fr lo c0 s0 F (pc + 2) lv (.ref x :: rest) σ r) : LX X V A fr lo c0 s0 F pc lv (rest) σ r := by
  intro out h1
  obtain ⟨hm, K⟩ := k out h1
  exact ⟨hm, fun R h2 h3 h4 h5 H locs hid ls cells slots g1 g2 g3 g4 g5 => lv_aload hC.1 hC.2.1 hdg (lv_at g3 q (cvl_at hl)) (K R h2 h3 h4 h5 H locs hid ls cells slots g1 g2 g3 g4 g5)⟩
theorem lx_dload_n (hC : Cok X V A own cc nL) {j : Fin 4} {i : Nat} {x : UInt64} (hdg : decode cc pc = .ok (.dload_n j, 1)) (hi : (j : Nat) = i) (q : Nat) (hl : lv[q]? = some (i, .double x)) (k : LX X V A fr lo c0 s0 F (pc + 1) lv (.double x :: rest) σ r) : LX X V A fr lo c0 s0 F pc lv (rest) σ r := by
  intro out h1
  obtain ⟨hm, K⟩ := k out h1
  exact ⟨hm, fun R h2 h3 h4 h5 H locs hid ls cells slots g1 g2 g3 g4 g5 => lv_dload_n hC.1 hC.2.1 hdg hi (lv_at g3 q (cvl_at hl)) (K R h2 h3 h4 h5 H locs hid ls cells slots g1 g2 g3 g4 g5)⟩
theorem lx_dload (hC : Cok X V A own cc nL) {i : Nat} {x : UInt64} (hdg : decode cc pc = .ok (.dload i, 2)) (q : Nat) (hl : lv[q]? = some (i, .double x)) (k : LX X V A fr lo c0 s0 F (pc + 2) lv (.double x :: rest) σ r) : LX X V A fr lo c0 s0 F pc lv (rest) σ r := by
  intro out h1
  obtain ⟨hm, K⟩ := k out h1
  exact ⟨hm, fun R h2 h3 h4 h5 H locs hid ls cells slots g1 g2 g3 g4 g5 => lv_dload hC.1 hC.2.1 hdg (lv_at g3 q (cvl_at hl)) (K R h2 h3 h4 h5 H locs hid ls cells slots g1 g2 g3 g4 g5)⟩
theorem lx_fload_n (hC : Cok X V A own cc nL) {j : Fin 4} {i : Nat} {x : UInt32} (hdg : decode cc pc = .ok (.fload_n j, 1)) (hi : (j : Nat) = i) (q : Nat) (hl : lv[q]? = some (i, .float x)) (k : LX X V A fr lo c0 s0 F (pc + 1) lv (.float x :: rest) σ r) : LX X V A fr lo c0 s0 F pc lv (rest) σ r := by
  intro out h1
  obtain ⟨hm, K⟩ := k out h1
  exact ⟨hm, fun R h2 h3 h4 h5 H locs hid ls cells slots g1 g2 g3 g4 g5 => lv_fload_n hC.1 hC.2.1 hdg hi (lv_at g3 q (cvl_at hl)) (K R h2 h3 h4 h5 H locs hid ls cells slots g1 g2 g3 g4 g5)⟩
theorem lx_fload (hC : Cok X V A own cc nL) {i : Nat} {x : UInt32} (hdg : decode cc pc = .ok (.fload i, 2)) (q : Nat) (hl : lv[q]? = some (i, .float x)) (k : LX X V A fr lo c0 s0 F (pc + 2) lv (.float x :: rest) σ r) : LX X V A fr lo c0 s0 F pc lv (rest) σ r := by
  intro out h1
  obtain ⟨hm, K⟩ := k out h1
  exact ⟨hm, fun R h2 h3 h4 h5 H locs hid ls cells slots g1 g2 g3 g4 g5 => lv_fload hC.1 hC.2.1 hdg (lv_at g3 q (cvl_at hl)) (K R h2 h3 h4 h5 H locs hid ls cells slots g1 g2 g3 g4 g5)⟩
theorem lx_iadd (hC : Cok X V A own cc nL) {x y : Int32} (hdg : decode cc pc = .ok (.iadd, 1)) (k : LX X V A fr lo c0 s0 F (pc + 1) lv (.int (x + y) :: rest) σ r) : LX X V A fr lo c0 s0 F pc lv (.int y :: .int x :: rest) σ r := by
  intro out h1
  obtain ⟨hm, K⟩ := k out h1
  exact ⟨hm, fun R h2 h3 h4 h5 H locs hid ls cells slots g1 g2 g3 g4 g5 => lv_iadd hC.1 hC.2.1 hdg (K R h2 h3 h4 h5 H locs hid ls cells slots g1 g2 g3 g4 g5)⟩
theorem lx_isub (hC : Cok X V A own cc nL) {x y : Int32} (hdg : decode cc pc = .ok (.isub, 1)) (k : LX X V A fr lo c0 s0 F (pc + 1) lv (.int (x - y) :: rest) σ r) : LX X V A fr lo c0 s0 F pc lv (.int y :: .int x :: rest) σ r := by
  intro out h1
  obtain ⟨hm, K⟩ := k out h1
  exact ⟨hm, fun R h2 h3 h4 h5 H locs hid ls cells slots g1 g2 g3 g4 g5 => lv_isub hC.1 hC.2.1 hdg (K R h2 h3 h4 h5 H locs hid ls cells slots g1 g2 g3 g4 g5)⟩
theorem lx_imul (hC : Cok X V A own cc nL) {x y : Int32} (hdg : decode cc pc = .ok (.imul, 1)) (k : LX X V A fr lo c0 s0 F (pc + 1) lv (.int (x * y) :: rest) σ r) : LX X V A fr lo c0 s0 F pc lv (.int y :: .int x :: rest) σ r := by
  intro out h1
  obtain ⟨hm, K⟩ := k out h1
  exact ⟨hm, fun R h2 h3 h4 h5 H locs hid ls cells slots g1 g2 g3 g4 g5 => lv_imul hC.1 hC.2.1 hdg (K R h2 h3 h4 h5 H locs hid ls cells slots g1 g2 g3 g4 g5)⟩
theorem lx_iand (hC : Cok X V A own cc nL) {x y : Int32} (hdg : decode cc pc = .ok (.iand, 1)) (k : LX X V A fr lo c0 s0 F (pc + 1) lv (.int (x &&& y) :: rest) σ r) : LX X V A fr lo c0 s0 F pc lv (.int y :: .int x :: rest) σ r := by
  intro out h1
  obtain ⟨hm, K⟩ := k out h1
  exact ⟨hm, fun R h2 h3 h4 h5 H locs hid ls cells slots g1 g2 g3 g4 g5 => lv_iand hC.1 hC.2.1 hdg (K R h2 h3 h4 h5 H locs hid ls cells slots g1 g2 g3 g4 g5)⟩
theorem lx_ladd (hC : Cok X V A own cc nL) {x y : Int64} (hdg : decode cc pc = .ok (.ladd, 1)) (k : LX X V A fr lo c0 s0 F (pc + 1) lv (.long (x + y) :: rest) σ r) : LX X V A fr lo c0 s0 F pc lv (.long y :: .long x :: rest) σ r := by
  intro out h1
  obtain ⟨hm, K⟩ := k out h1
  exact ⟨hm, fun R h2 h3 h4 h5 H locs hid ls cells slots g1 g2 g3 g4 g5 => lv_ladd hC.1 hC.2.1 hdg (K R h2 h3 h4 h5 H locs hid ls cells slots g1 g2 g3 g4 g5)⟩
theorem lx_lsub (hC : Cok X V A own cc nL) {x y : Int64} (hdg : decode cc pc = .ok (.lsub, 1)) (k : LX X V A fr lo c0 s0 F (pc + 1) lv (.long (x - y) :: rest) σ r) : LX X V A fr lo c0 s0 F pc lv (.long y :: .long x :: rest) σ r := by
  intro out h1
  obtain ⟨hm, K⟩ := k out h1
  exact ⟨hm, fun R h2 h3 h4 h5 H locs hid ls cells slots g1 g2 g3 g4 g5 => lv_lsub hC.1 hC.2.1 hdg (K R h2 h3 h4 h5 H locs hid ls cells slots g1 g2 g3 g4 g5)⟩
theorem lx_idiv (hC : Cok X V A own cc nL) {x y : Int32} (hdg : decode cc pc = .ok (.idiv, 1)) (hne : ¬ y = 0) (k : LX X V A fr lo c0 s0 F (pc + 1) lv (.int (x / y) :: rest) σ r) : LX X V A fr lo c0 s0 F pc lv (.int y :: .int x :: rest) σ r := by
  intro out h1
  obtain ⟨hm, K⟩ := k out h1
  exact ⟨hm, fun R h2 h3 h4 h5 H locs hid ls cells slots g1 g2 g3 g4 g5 => lv_idiv hC.1 hC.2.1 hdg hne (K R h2 h3 h4 h5 H locs hid ls cells slots g1 g2 g3 g4 g5)⟩
theorem lx_irem (hC : Cok X V A own cc nL) {x y : Int32} (hdg : decode cc pc = .ok (.irem, 1)) (hne : ¬ y = 0) (k : LX X V A fr lo c0 s0 F (pc + 1) lv (.int (x - x / y * y) :: rest) σ r) : LX X V A fr lo c0 s0 F pc lv (.int y :: .int x :: rest) σ r := by
  intro out h1
  obtain ⟨hm, K⟩ := k out h1
  exact ⟨hm, fun R h2 h3 h4 h5 H locs hid ls cells slots g1 g2 g3 g4 g5 => lv_irem hC.1 hC.2.1 hdg hne (K R h2 h3 h4 h5 H locs hid ls cells slots g1 g2 g3 g4 g5)⟩
theorem lx_ineg (hC : Cok X V A own cc nL) {x : Int32} (hdg : decode cc pc = .ok (.ineg, 1)) (k : LX X V A fr lo c0 s0 F (pc + 1) lv (.int (-x) :: rest) σ r) : LX X V A fr lo c0 s0 F pc lv (.int x :: rest) σ r := by
  intro out h1
  obtain ⟨hm, K⟩ := k out h1
  exact ⟨hm, fun R h2 h3 h4 h5 H locs hid ls cells slots g1 g2 g3 g4 g5 => lv_ineg hC.1 hC.2.1 hdg (K R h2 h3 h4 h5 H locs hid ls cells slots g1 g2 g3 g4 g5)⟩
theorem lx_i2l (hC : Cok X V A own cc nL) {x : Int32} (hdg : decode cc pc = .ok (.i2l, 1)) (k : LX X V A fr lo c0 s0 F (pc + 1) lv (.long x.toInt64 :: rest) σ r) : LX X V A fr lo c0 s0 F pc lv (.int x :: rest) σ r := by
  intro out h1
  obtain ⟨hm, K⟩ := k out h1
  exact ⟨hm, fun R h2 h3 h4 h5 H locs hid ls cells slots g1 g2 g3 g4 g5 => lv_i2l hC.1 hC.2.1 hdg rfl (K R h2 h3 h4 h5 H locs hid ls cells slots g1 g2 g3 g4 g5)⟩
theorem lx_i2c (hC : Cok X V A own cc nL) {x : Int32} (hdg : decode cc pc = .ok (.i2c, 1)) (k : LX X V A fr lo c0 s0 F (pc + 1) lv (.int ((x.toUInt32 % 65536).toInt32) :: rest) σ r) : LX X V A fr lo c0 s0 F pc lv (.int x :: rest) σ r := by
  intro out h1
  obtain ⟨hm, K⟩ := k out h1
  exact ⟨hm, fun R h2 h3 h4 h5 H locs hid ls cells slots g1 g2 g3 g4 g5 => lv_i2c hC.1 hC.2.1 hdg rfl (K R h2 h3 h4 h5 H locs hid ls cells slots g1 g2 g3 g4 g5)⟩
theorem lx_lcmp (hC : Cok X V A own cc nL) {x y : Int64} (hdg : decode cc pc = .ok (.lcmp, 1)) (k : LX X V A fr lo c0 s0 F (pc + 1) lv (.int (lg_cmp x y) :: rest) σ r) : LX X V A fr lo c0 s0 F pc lv (.long y :: .long x :: rest) σ r := by
  intro out h1
  obtain ⟨hm, K⟩ := k out h1
  exact ⟨hm, fun R h2 h3 h4 h5 H locs hid ls cells slots g1 g2 g3 g4 g5 => W.lcmp hC.1 hC.2.1 hdg (K R h2 h3 h4 h5 H locs hid ls cells slots g1 g2 g3 g4 g5)⟩
theorem lx_dcmp (hC : Cok X V A own cc nL) {x y : UInt64} {op : CmpOp} (hdg : decode cc pc = .ok (.dcmp op, 1)) (k : LX X V A fr lo c0 s0 F (pc + 1) lv (.int (Op.cmpValue (FP.dcmp x y) op) :: rest) σ r) : LX X V A fr lo c0 s0 F pc lv (.double y :: .double x :: rest) σ r := by
  intro out h1
  obtain ⟨hm, K⟩ := k out h1
  exact ⟨hm, fun R h2 h3 h4 h5 H locs hid ls cells slots g1 g2 g3 g4 g5 => lv_dcmp hC.1 hC.2.1 hdg (K R h2 h3 h4 h5 H locs hid ls cells slots g1 g2 g3 g4 g5)⟩
theorem lx_i2d (hC : Cok X V A own cc nL) {x : Int32} (hdg : decode cc pc = .ok (.i2d, 1)) (k : LX X V A fr lo c0 s0 F (pc + 1) lv (.double (FP.i2d x) :: rest) σ r) : LX X V A fr lo c0 s0 F pc lv (.int x :: rest) σ r := by
  intro out h1
  obtain ⟨hm, K⟩ := k out h1
  exact ⟨hm, fun R h2 h3 h4 h5 H locs hid ls cells slots g1 g2 g3 g4 g5 => lv_i2d hC.1 hC.2.1 hdg (K R h2 h3 h4 h5 H locs hid ls cells slots g1 g2 g3 g4 g5)⟩
theorem lx_i2f (hC : Cok X V A own cc nL) {x : Int32} (hdg : decode cc pc = .ok (.i2f, 1)) (k : LX X V A fr lo c0 s0 F (pc + 1) lv (.float (FP.i2f x) :: rest) σ r) : LX X V A fr lo c0 s0 F pc lv (.int x :: rest) σ r := by
  intro out h1
  obtain ⟨hm, K⟩ := k out h1
  exact ⟨hm, fun R h2 h3 h4 h5 H locs hid ls cells slots g1 g2 g3 g4 g5 => lv_i2f hC.1 hC.2.1 hdg (K R h2 h3 h4 h5 H locs hid ls cells slots g1 g2 g3 g4 g5)⟩
theorem lx_ddiv (hC : Cok X V A own cc nL) {x y : UInt64} (hdg : decode cc pc = .ok (.ddiv, 1)) (hne : vf_n64 (FP.ddiv x y)) (k : LX X V A fr lo c0 s0 F (pc + 1) lv (.double (FP.ddiv x y) :: rest) σ r) : LX X V A fr lo c0 s0 F pc lv (.double y :: .double x :: rest) σ r := by
  intro out h1
  obtain ⟨hm, K⟩ := k out h1
  exact ⟨hm, fun R h2 h3 h4 h5 H locs hid ls cells slots g1 g2 g3 g4 g5 => lv_ddiv hC.1 hC.2.1 hdg hne (K R h2 h3 h4 h5 H locs hid ls cells slots g1 g2 g3 g4 g5)⟩
theorem lx_fdiv (hC : Cok X V A own cc nL) {x y : UInt32} (hdg : decode cc pc = .ok (.fdiv, 1)) (hne : vf_n32 (FP.fdiv x y)) (k : LX X V A fr lo c0 s0 F (pc + 1) lv (.float (FP.fdiv x y) :: rest) σ r) : LX X V A fr lo c0 s0 F pc lv (.float y :: .float x :: rest) σ r := by
  intro out h1
  obtain ⟨hm, K⟩ := k out h1
  exact ⟨hm, fun R h2 h3 h4 h5 H locs hid ls cells slots g1 g2 g3 g4 g5 => lv_fdiv hC.1 hC.2.1 hdg hne (K R h2 h3 h4 h5 H locs hid ls cells slots g1 g2 g3 g4 g5)⟩
theorem lx_f2d (hC : Cok X V A own cc nL) {x : UInt32} (hdg : decode cc pc = .ok (.f2d, 1)) (hne : vf_n64 (FP.f2d x)) (k : LX X V A fr lo c0 s0 F (pc + 1) lv (.double (FP.f2d x) :: rest) σ r) : LX X V A fr lo c0 s0 F pc lv (.float x :: rest) σ r := by
  intro out h1
  obtain ⟨hm, K⟩ := k out h1
  exact ⟨hm, fun R h2 h3 h4 h5 H locs hid ls cells slots g1 g2 g3 g4 g5 => lv_f2d hC.1 hC.2.1 hdg hne (K R h2 h3 h4 h5 H locs hid ls cells slots g1 g2 g3 g4 g5)⟩
theorem lx_dup_int (hC : Cok X V A own cc nL) {x : Int32} (hdg : decode cc pc = .ok (.dup, 1)) (k : LX X V A fr lo c0 s0 F (pc + 1) lv (.int x :: .int x :: rest) σ r) : LX X V A fr lo c0 s0 F pc lv (.int x :: rest) σ r := by
  intro out h1
  obtain ⟨hm, K⟩ := k out h1
  exact ⟨hm, fun R h2 h3 h4 h5 H locs hid ls cells slots g1 g2 g3 g4 g5 => lv_dup hC.1 hC.2.1 hdg rfl (K R h2 h3 h4 h5 H locs hid ls cells slots g1 g2 g3 g4 g5)⟩
theorem lx_pop_int (hC : Cok X V A own cc nL) {x : Int32} (hdg : decode cc pc = .ok (.pop, 1)) (k : LX X V A fr lo c0 s0 F (pc + 1) lv (rest) σ r) : LX X V A fr lo c0 s0 F pc lv (.int x :: rest) σ r := by
  intro out h1
  obtain ⟨hm, K⟩ := k out h1
  exact ⟨hm, fun R h2 h3 h4 h5 H locs hid ls cells slots g1 g2 g3 g4 g5 => lv_pop hC.1 hC.2.1 hdg rfl (K R h2 h3 h4 h5 H locs hid ls cells slots g1 g2 g3 g4 g5)⟩
theorem lx_dup_ref (hC : Cok X V A own cc nL) {x : Nat} (hdg : decode cc pc = .ok (.dup, 1)) (k : LX X V A fr lo c0 s0 F (pc + 1) lv (.ref x :: .ref x :: rest) σ r) : LX X V A fr lo c0 s0 F pc lv (.ref x :: rest) σ r := by
  intro out h1
  obtain ⟨hm, K⟩ := k out h1
  exact ⟨hm, fun R h2 h3 h4 h5 H locs hid ls cells slots g1 g2 g3 g4 g5 => lv_dup hC.1 hC.2.1 hdg rfl (K R h2 h3 h4 h5 H locs hid ls cells slots g1 g2 g3 g4 g5)⟩
theorem lx_pop_ref (hC : Cok X V A own cc nL) {x : Nat} (hdg : decode cc pc = .ok (.pop, 1)) (k : LX X V A fr lo c0 s0 F (pc + 1) lv (rest) σ r) : LX X V A fr lo c0 s0 F pc lv (.ref x :: rest) σ r := by
  intro out h1
  obtain ⟨hm, K⟩ := k out h1
  exact ⟨hm, fun R h2 h3 h4 h5 H locs hid ls cells slots g1 g2 g3 g4 g5 => lv_pop hC.1 hC.2.1 hdg rfl (K R h2 h3 h4 h5 H locs hid ls cells slots g1 g2 g3 g4 g5)⟩
theorem lx_goto (hC : Cok X V A own cc nL) {st : List Value} {off : Int} (tgt : Nat) (hdg : decode cc pc = .ok (.goto off, 3)) (ht : (pc : Int) + off = (tgt : Int)) (k : LX X V A fr lo c0 s0 F tgt lv st σ r) : LX X V A fr lo c0 s0 F pc lv st σ r := by
  intro out h1
  obtain ⟨hm, K⟩ := k out h1
  exact ⟨hm, fun R h2 h3 h4 h5 H locs hid ls cells slots g1 g2 g3 g4 g5 => lv_goto hC.1 hC.2.1 hdg ht (K R h2 h3 h4 h5 H locs hid ls cells slots g1 g2 g3 g4 g5)⟩
theorem lx_if_eq (hC : Cok X V A own cc nL) {x : Int32} {off : Int} (tgt : Nat) {r1 r2 : Res α} (hdg : decode cc pc = .ok (.ifCond .eq off, 3)) (ht : (pc : Int) + off = (tgt : Int)) (kt : LX X V A fr lo c0 s0 F tgt lv rest σ r1) (kf : LX X V A fr lo c0 s0 F (pc + 3) lv rest σ r2) : LX X V A fr lo c0 s0 F pc lv (.int x :: rest) σ (if x = 0 then r1 else r2) := by
  intro out h1
  by_cases hc : x = 0
  · rw [if_pos hc] at h1
    obtain ⟨hm, K⟩ := kt out h1
    exact ⟨hm, fun R h2 h3 h4 h5 H locs hid ls cells slots g1 g2 g3 g4 g5 => lv_if_eq hC.1 hC.2.1 hdg ht (fun _ => K R h2 h3 h4 h5 H locs hid ls cells slots g1 g2 g3 g4 g5) (fun z => by first | exact absurd hc z | exact absurd z hc)⟩
  · rw [if_neg hc] at h1
    obtain ⟨hm, K⟩ := kf out h1
    exact ⟨hm, fun R h2 h3 h4 h5 H locs hid ls cells slots g1 g2 g3 g4 g5 => lv_if_eq hC.1 hC.2.1 hdg ht (fun z => by first | exact absurd z hc | exact absurd hc z) (fun _ => K R h2 h3 h4 h5 H locs hid ls cells slots g1 g2 g3 g4 g5)⟩
theorem lx_icmp_eq (hC : Cok X V A own cc nL) {x y : Int32} {off : Int} (tgt : Nat) {r1 r2 : Res α} (hdg : decode cc pc = .ok (.if_icmp .eq off, 3)) (ht : (pc : Int) + off = (tgt : Int)) (kt : LX X V A fr lo c0 s0 F tgt lv rest σ r1) (kf : LX X V A fr lo c0 s0 F (pc + 3) lv rest σ r2) : LX X V A fr lo c0 s0 F pc lv (.int y :: .int x :: rest) σ (if x = y then r1 else r2) := by
  intro out h1
  by_cases hc : x = y
  · rw [if_pos hc] at h1
    obtain ⟨hm, K⟩ := kt out h1
    exact ⟨hm, fun R h2 h3 h4 h5 H locs hid ls cells slots g1 g2 g3 g4 g5 => lv_icmp_eq hC.1 hC.2.1 hdg ht (fun _ => K R h2 h3 h4 h5 H locs hid ls cells slots g1 g2 g3 g4 g5) (fun z => by first | exact absurd hc z | exact absurd z hc)⟩
  · rw [if_neg hc] at h1
    obtain ⟨hm, K⟩ := kf out h1
    exact ⟨hm, fun R h2 h3 h4 h5 H locs hid ls cells slots g1 g2 g3 g4 g5 => lv_icmp_eq hC.1 hC.2.1 hdg ht (fun z => by first | exact absurd z hc | exact absurd hc z) (fun _ => K R h2 h3 h4 h5 H locs hid ls cells slots g1 g2 g3 g4 g5)⟩
theorem lx_if_ne (hC : Cok X V A own cc nL) {x : Int32} {off : Int} (tgt : Nat) {r1 r2 : Res α} (hdg : decode cc pc = .ok (.ifCond .ne off, 3)) (ht : (pc : Int) + off = (tgt : Int)) (kt : LX X V A fr lo c0 s0 F tgt lv rest σ r1) (kf : LX X V A fr lo c0 s0 F (pc + 3) lv rest σ r2) : LX X V A fr lo c0 s0 F pc lv (.int x :: rest) σ (if ¬ x = 0 then r1 else r2) := by
  intro out h1
  by_cases hc : ¬ x = 0
  · rw [if_pos hc] at h1
    obtain ⟨hm, K⟩ := kt out h1
    exact ⟨hm, fun R h2 h3 h4 h5 H locs hid ls cells slots g1 g2 g3 g4 g5 => lv_if_ne hC.1 hC.2.1 hdg ht (fun _ => K R h2 h3 h4 h5 H locs hid ls cells slots g1 g2 g3 g4 g5) (fun z => by first | exact absurd hc z | exact absurd z hc)⟩
  · rw [if_neg hc] at h1
    obtain ⟨hm, K⟩ := kf out h1
    exact ⟨hm, fun R h2 h3 h4 h5 H locs hid ls cells slots g1 g2 g3 g4 g5 => lv_if_ne hC.1 hC.2.1 hdg ht (fun z => by first | exact absurd z hc | exact absurd hc z) (fun _ => K R h2 h3 h4 h5 H locs hid ls cells slots g1 g2 g3 g4 g5)⟩
theorem lx_icmp_ne (hC : Cok X V A own cc nL) {x y : Int32} {off : Int} (tgt : Nat) {r1 r2 : Res α} (hdg : decode cc pc = .ok (.if_icmp .ne off, 3)) (ht : (pc : Int) + off = (tgt : Int)) (kt : LX X V A fr lo c0 s0 F tgt lv rest σ r1) (kf : LX X V A fr lo c0 s0 F (pc + 3) lv rest σ r2) : LX X V A fr lo c0 s0 F pc lv (.int y :: .int x :: rest) σ (if ¬ x = y then r1 else r2) := by
  intro out h1
  by_cases hc : ¬ x = y
  · rw [if_pos hc] at h1
    obtain ⟨hm, K⟩ := kt out h1
    exact ⟨hm, fun R h2 h3 h4 h5 H locs hid ls cells slots g1 g2 g3 g4 g5 => lv_icmp_ne hC.1 hC.2.1 hdg ht (fun _ => K R h2 h3 h4 h5 H locs hid ls cells slots g1 g2 g3 g4 g5) (fun z => by first | exact absurd hc z | exact absurd z hc)⟩
  · rw [if_neg hc] at h1
    obtain ⟨hm, K⟩ := kf out h1
    exact ⟨hm, fun R h2 h3 h4 h5 H locs hid ls cells slots g1 g2 g3 g4 g5 => lv_icmp_ne hC.1 hC.2.1 hdg ht (fun z => by first | exact absurd z hc | exact absurd hc z) (fun _ => K R h2 h3 h4 h5 H locs hid ls cells slots g1 g2 g3 g4 g5)⟩
theorem lx_if_lt (hC : Cok X V A own cc nL) {x : Int32} {off : Int} (tgt : Nat) {r1 r2 : Res α} (hdg : decode cc pc = .ok (.ifCond .lt off, 3)) (ht : (pc : Int) + off = (tgt : Int)) (kt : LX X V A fr lo c0 s0 F tgt lv rest σ r1) (kf : LX X V A fr lo c0 s0 F (pc + 3) lv rest σ r2) : LX X V A fr lo c0 s0 F pc lv (.int x :: rest) σ (if x < 0 then r1 else r2) := by
  intro out h1
  by_cases hc : x < 0
  · rw [if_pos hc] at h1
    obtain ⟨hm, K⟩ := kt out h1
    exact ⟨hm, fun R h2 h3 h4 h5 H locs hid ls cells slots g1 g2 g3 g4 g5 => lv_if_lt hC.1 hC.2.1 hdg ht (fun _ => K R h2 h3 h4 h5 H locs hid ls cells slots g1 g2 g3 g4 g5) (fun z => by first | exact absurd hc z | exact absurd z hc)⟩
  · rw [if_neg hc] at h1
    obtain ⟨hm, K⟩ := kf out h1
    exact ⟨hm, fun R h2 h3 h4 h5 H locs hid ls cells slots g1 g2 g3 g4 g5 => lv_if_lt hC.1 hC.2.1 hdg ht (fun z => by first | exact absurd z hc | exact absurd hc z) (fun _ => K R h2 h3 h4 h5 H locs hid ls cells slots g1 g2 g3 g4 g5)⟩
theorem lx_icmp_lt (hC : Cok X V A own cc nL) {x y : Int32} {off : Int} (tgt : Nat) {r1 r2 : Res α} (hdg : decode cc pc = .ok (.if_icmp .lt off, 3)) (ht : (pc : Int) + off = (tgt : Int)) (kt : LX X V A fr lo c0 s0 F tgt lv rest σ r1) (kf : LX X V A fr lo c0 s0 F (pc + 3) lv rest σ r2) : LX X V A fr lo c0 s0 F pc lv (.int y :: .int x :: rest) σ (if x < y then r1 else r2) := by
  intro out h1
  by_cases hc : x < y
  · rw [if_pos hc] at h1
    obtain ⟨hm, K⟩ := kt out h1
    exact ⟨hm, fun R h2 h3 h4 h5 H locs hid ls cells slots g1 g2 g3 g4 g5 => lv_icmp_lt hC.1 hC.2.1 hdg ht (fun _ => K R h2 h3 h4 h5 H locs hid ls cells slots g1 g2 g3 g4 g5) (fun z => by first | exact absurd hc z | exact absurd z hc)⟩
  · rw [if_neg hc] at h1
    obtain ⟨hm, K⟩ := kf out h1
    exact ⟨hm, fun R h2 h3 h4 h5 H locs hid ls cells slots g1 g2 g3 g4 g5 => lv_icmp_lt hC.1 hC.2.1 hdg ht (fun z => by first | exact absurd z hc | exact absurd hc z) (fun _ => K R h2 h3 h4 h5 H locs hid ls cells slots g1 g2 g3 g4 g5)⟩
theorem lx_if_ge (hC : Cok X V A own cc nL) {x : Int32} {off : Int} (tgt : Nat) {r1 r2 : Res α} (hdg : decode cc pc = .ok (.ifCond .ge off, 3)) (ht : (pc : Int) + off = (tgt : Int)) (kt : LX X V A fr lo c0 s0 F tgt lv rest σ r1) (kf : LX X V A fr lo c0 s0 F (pc + 3) lv rest σ r2) : LX X V A fr lo c0 s0 F pc lv (.int x :: rest) σ (if 0 ≤ x then r1 else r2) := by
  intro out h1
  by_cases hc : 0 ≤ x
  · rw [if_pos hc] at h1
    obtain ⟨hm, K⟩ := kt out h1
    exact ⟨hm, fun R h2 h3 h4 h5 H locs hid ls cells slots g1 g2 g3 g4 g5 => lv_if_ge hC.1 hC.2.1 hdg ht (fun _ => K R h2 h3 h4 h5 H locs hid ls cells slots g1 g2 g3 g4 g5) (fun z => by first | exact absurd hc z | exact absurd z hc)⟩
  · rw [if_neg hc] at h1
    obtain ⟨hm, K⟩ := kf out h1
    exact ⟨hm, fun R h2 h3 h4 h5 H locs hid ls cells slots g1 g2 g3 g4 g5 => lv_if_ge hC.1 hC.2.1 hdg ht (fun z => by first | exact absurd z hc | exact absurd hc z) (fun _ => K R h2 h3 h4 h5 H locs hid ls cells slots g1 g2 g3 g4 g5)⟩
theorem lx_icmp_ge (hC : Cok X V A own cc nL) {x y : Int32} {off : Int} (tgt : Nat) {r1 r2 : Res α} (hdg : decode cc pc = .ok (.if_icmp .ge off, 3)) (ht : (pc : Int) + off = (tgt : Int)) (kt : LX X V A fr lo c0 s0 F tgt lv rest σ r1) (kf : LX X V A fr lo c0 s0 F (pc + 3) lv rest σ r2) : LX X V A fr lo c0 s0 F pc lv (.int y :: .int x :: rest) σ (if y ≤ x then r1 else r2) := by
  intro out h1
  by_cases hc : y ≤ x
  · rw [if_pos hc] at h1
    obtain ⟨hm, K⟩ := kt out h1
    exact ⟨hm, fun R h2 h3 h4 h5 H locs hid ls cells slots g1 g2 g3 g4 g5 => lv_icmp_ge hC.1 hC.2.1 hdg ht (fun _ => K R h2 h3 h4 h5 H locs hid ls cells slots g1 g2 g3 g4 g5) (fun z => by first | exact absurd hc z | exact absurd z hc)⟩
  · rw [if_neg hc] at h1
    obtain ⟨hm, K⟩ := kf out h1
    exact ⟨hm, fun R h2 h3 h4 h5 H locs hid ls cells slots g1 g2 g3 g4 g5 => lv_icmp_ge hC.1 hC.2.1 hdg ht (fun z => by first | exact absurd z hc | exact absurd hc z) (fun _ => K R h2 h3 h4 h5 H locs hid ls cells slots g1 g2 g3 g4 g5)⟩
theorem lx_if_gt (hC : Cok X V A own cc nL) {x : Int32} {off : Int} (tgt : Nat) {r1 r2 : Res α} (hdg : decode cc pc = .ok (.ifCond .gt off, 3)) (ht : (pc : Int) + off = (tgt : Int)) (kt : LX X V A fr lo c0 s0 F tgt lv rest σ r1) (kf : LX X V A fr lo c0 s0 F (pc + 3) lv rest σ r2) : LX X V A fr lo c0 s0 F pc lv (.int x :: rest) σ (if 0 < x then r1 else r2) := by
  intro out h1
  by_cases hc : 0 < x
  · rw [if_pos hc] at h1
    obtain ⟨hm, K⟩ := kt out h1
    exact ⟨hm, fun R h2 h3 h4 h5 H locs hid ls cells slots g1 g2 g3 g4 g5 => lv_if_gt hC.1 hC.2.1 hdg ht (fun _ => K R h2 h3 h4 h5 H locs hid ls cells slots g1 g2 g3 g4 g5) (fun z => by first | exact absurd hc z | exact absurd z hc)⟩
  · rw [if_neg hc] at h1
    obtain ⟨hm, K⟩ := kf out h1
    exact ⟨hm, fun R h2 h3 h4 h5 H locs hid ls cells slots g1 g2 g3 g4 g5 => lv_if_gt hC.1 hC.2.1 hdg ht (fun z => by first | exact absurd z hc | exact absurd hc z) (fun _ => K R h2 h3 h4 h5 H locs hid ls cells slots g1 g2 g3 g4 g5)⟩
theorem lx_icmp_gt (hC : Cok X V A own cc nL) {x y : Int32} {off : Int} (tgt : Nat) {r1 r2 : Res α} (hdg : decode cc pc = .ok (.if_icmp .gt off, 3)) (ht : (pc : Int) + off = (tgt : Int)) (kt : LX X V A fr lo c0 s0 F tgt lv rest σ r1) (kf : LX X V A fr lo c0 s0 F (pc + 3) lv rest σ r2) : LX X V A fr lo c0 s0 F pc lv (.int y :: .int x :: rest) σ (if y < x then r1 else r2) := by
  intro out h1
  by_cases hc : y < x
  · rw [if_pos hc] at h1
    obtain ⟨hm, K⟩ := kt out h1
    exact ⟨hm, fun R h2 h3 h4 h5 H locs hid ls cells slots g1 g2 g3 g4 g5 => lv_icmp_gt hC.1 hC.2.1 hdg ht (fun _ => K R h2 h3 h4 h5 H locs hid ls cells slots g1 g2 g3 g4 g5) (fun z => by first | exact absurd hc z | exact absurd z hc)⟩
  · rw [if_neg hc] at h1
    obtain ⟨hm, K⟩ := kf out h1
    exact ⟨hm, fun R h2 h3 h4 h5 H locs hid ls cells slots g1 g2 g3 g4 g5 => lv_icmp_gt hC.1 hC.2.1 hdg ht (fun z => by first | exact absurd z hc | exact absurd hc z) (fun _ => K R h2 h3 h4 h5 H locs hid ls cells slots g1 g2 g3 g4 g5)⟩
theorem lx_if_le (hC : Cok X V A own cc nL) {x : Int32} {off : Int} (tgt : Nat) {r1 r2 : Res α} (hdg : decode cc pc = .ok (.ifCond .le off, 3)) (ht : (pc : Int) + off = (tgt : Int)) (kt : LX X V A fr lo c0 s0 F tgt lv rest σ r1) (kf : LX X V A fr lo c0 s0 F (pc + 3) lv rest σ r2) : LX X V A fr lo c0 s0 F pc lv (.int x :: rest) σ (if x ≤ 0 then r1 else r2) := by
  intro out h1
  by_cases hc : x ≤ 0
  · rw [if_pos hc] at h1
    obtain ⟨hm, K⟩ := kt out h1
    exact ⟨hm, fun R h2 h3 h4 h5 H locs hid ls cells slots g1 g2 g3 g4 g5 => lv_if_le hC.1 hC.2.1 hdg ht (fun _ => K R h2 h3 h4 h5 H locs hid ls cells slots g1 g2 g3 g4 g5) (fun z => by first | exact absurd hc z | exact absurd z hc)⟩
  · rw [if_neg hc] at h1
    obtain ⟨hm, K⟩ := kf out h1
    exact ⟨hm, fun R h2 h3 h4 h5 H locs hid ls cells slots g1 g2 g3 g4 g5 => lv_if_le hC.1 hC.2.1 hdg ht (fun z => by first | exact absurd z hc | exact absurd hc z) (fun _ => K R h2 h3 h4 h5 H locs hid ls cells slots g1 g2 g3 g4 g5)⟩
theorem lx_icmp_le (hC : Cok X V A own cc nL) {x y : Int32} {off : Int} (tgt : Nat) {r1 r2 : Res α} (hdg : decode cc pc = .ok (.if_icmp .le off, 3)) (ht : (pc : Int) + off = (tgt : Int)) (kt : LX X V A fr lo c0 s0 F tgt lv rest σ r1) (kf : LX X V A fr lo c0 s0 F (pc + 3) lv rest σ r2) : LX X V A fr lo c0 s0 F pc lv (.int y :: .int x :: rest) σ (if x ≤ y then r1 else r2) := by
  intro out h1
  by_cases hc : x ≤ y
  · rw [if_pos hc] at h1
    obtain ⟨hm, K⟩ := kt out h1
    exact ⟨hm, fun R h2 h3 h4 h5 H locs hid ls cells slots g1 g2 g3 g4 g5 => lv_icmp_le hC.1 hC.2.1 hdg ht (fun _ => K R h2 h3 h4 h5 H locs hid ls cells slots g1 g2 g3 g4 g5) (fun z => by first | exact absurd hc z | exact absurd z hc)⟩
  · rw [if_neg hc] at h1
    obtain ⟨hm, K⟩ := kf out h1
    exact ⟨hm, fun R h2 h3 h4 h5 H locs hid ls cells slots g1 g2 g3 g4 g5 => lv_icmp_le hC.1 hC.2.1 hdg ht (fun z => by first | exact absurd z hc | exact absurd hc z) (fun _ => K R h2 h3 h4 h5 H locs hid ls cells slots g1 g2 g3 g4 g5)⟩
theorem lx_istore_n (hC : Cok X V A own cc nL) {j : Fin 4} {i : Nat} {x : Int32} (hdg : decode cc pc = .ok (.istore_n j, 1)) (hi : (j : Nat) = i) (hn : i < nL) (k : LX X V A fr lo c0 s0 F (pc + 1) ((i, .int x) :: lv.filter (fun q => !(q.1 == i) && !(q.1 + 1 == i && q.2.category == 2))) rest σ r) : LX X V A fr lo c0 s0 F pc lv (.int x :: rest) σ r := by
  intro out h1
  obtain ⟨hm, K⟩ := k out h1
  exact ⟨hm, fun R h2 h3 h4 h5 H locs hid ls cells slots g1 g2 g3 g4 g5 => lv_istore_n hC.1 hC.2.1 hdg hi g3 (by rw [hC.2.2.1]; exact hn) rfl (fun ls' hl' => K R h2 h3 h4 h5 H locs hid ls' cells slots g1 g2 (by rw [cvl_filter] at hl'; exact hl') g4 g5)⟩
theorem lx_istore (hC : Cok X V A own cc nL) {i : Nat} {x : Int32} (hdg : decode cc pc = .ok (.istore i, 2)) (hn : i < nL) (k : LX X V A fr lo c0 s0 F (pc + 2) ((i, .int x) :: lv.filter (fun q => !(q.1 == i) && !(q.1 + 1 == i && q.2.category == 2))) rest σ r) : LX X V A fr lo c0 s0 F pc lv (.int x :: rest) σ r := by
  intro out h1
  obtain ⟨hm, K⟩ := k out h1
  exact ⟨hm, fun R h2 h3 h4 h5 H locs hid ls cells slots g1 g2 g3 g4 g5 => lv_istore hC.1 hC.2.1 hdg g3 (by rw [hC.2.2.1]; exact hn) rfl (fun ls' hl' => K R h2 h3 h4 h5 H locs hid ls' cells slots g1 g2 (by rw [cvl_filter] at hl'; exact hl') g4 g5)⟩
theorem lx_astore_n (hC : Cok X V A own cc nL) {j : Fin 4} {i : Nat} {x : Nat} (hdg : decode cc pc = .ok (.astore_n j, 1)) (hi : (j : Nat) = i) (hn : i < nL) (k : LX X V A fr lo c0 s0 F (pc + 1) ((i, .ref x) :: lv.filter (fun q => !(q.1 == i) && !(q.1 + 1 == i && q.2.category == 2))) rest σ r) : LX X V A fr lo c0 s0 F pc lv (.ref x :: rest) σ r := by
  intro out h1
  obtain ⟨hm, K⟩ := k out h1
  exact ⟨hm, fun R h2 h3 h4 h5 H locs hid ls cells slots g1 g2 g3 g4 g5 => lv_astore_n hC.1 hC.2.1 hdg hi g3 (by rw [hC.2.2.1]; exact hn) rfl (fun ls' hl' => K R h2 h3 h4 h5 H locs hid ls' cells slots g1 g2 (by rw [cvl_filter] at hl'; exact hl') g4 g5)⟩
theorem lx_astore (hC : Cok X V A own cc nL) {i : Nat} {x : Nat} (hdg : decode cc pc = .ok (.astore i, 2)) (hn : i < nL) (k : LX X V A fr lo c0 s0 F (pc + 2) ((i, .ref x) :: lv.filter (fun q => !(q.1 == i) && !(q.1 + 1 == i && q.2.category == 2))) rest σ r) : LX X V A fr lo c0 s0 F pc lv (.ref x :: rest) σ r := by
  intro out h1
  obtain ⟨hm, K⟩ := k out h1
  exact ⟨hm, fun R h2 h3 h4 h5 H locs hid ls cells slots g1 g2 g3 g4 g5 => lv_astore hC.1 hC.2.1 hdg g3 (by rw [hC.2.2.1]; exact hn) rfl (fun ls' hl' => K R h2 h3 h4 h5 H locs hid ls' cells slots g1 g2 (by rw [cvl_filter] at hl'; exact hl') g4 g5)⟩
theorem lx_fstore_n (hC : Cok X V A own cc nL) {j : Fin 4} {i : Nat} {x : UInt32} (hdg : decode cc pc = .ok (.fstore_n j, 1)) (hi : (j : Nat) = i) (hn : i < nL) (k : LX X V A fr lo c0 s0 F (pc + 1) ((i, .float x) :: lv.filter (fun q => !(q.1 == i) && !(q.1 + 1 == i && q.2.category == 2))) rest σ r) : LX X V A fr lo c0 s0 F pc lv (.float x :: rest) σ r := by
  intro out h1
  obtain ⟨hm, K⟩ := k out h1
  exact ⟨hm, fun R h2 h3 h4 h5 H locs hid ls cells slots g1 g2 g3 g4 g5 => lv_fstore_n hC.1 hC.2.1 hdg hi g3 (by rw [hC.2.2.1]; exact hn) rfl (fun ls' hl' => K R h2 h3 h4 h5 H locs hid ls' cells slots g1 g2 (by rw [cvl_filter] at hl'; exact hl') g4 g5)⟩
theorem lx_fstore (hC : Cok X V A own cc nL) {i : Nat} {x : UInt32} (hdg : decode cc pc = .ok (.fstore i, 2)) (hn : i < nL) (k : LX X V A fr lo c0 s0 F (pc + 2) ((i, .float x) :: lv.filter (fun q => !(q.1 == i) && !(q.1 + 1 == i && q.2.category == 2))) rest σ r) : LX X V A fr lo c0 s0 F pc lv (.float x :: rest) σ r := by
  intro out h1
  obtain ⟨hm, K⟩ := k out h1
  exact ⟨hm, fun R h2 h3 h4 h5 H locs hid ls cells slots g1 g2 g3 g4 g5 => lv_fstore hC.1 hC.2.1 hdg g3 (by rw [hC.2.2.1]; exact hn) rfl (fun ls' hl' => K R h2 h3 h4 h5 H locs hid ls' cells slots g1 g2 (by rw [cvl_filter] at hl'; exact hl') g4 g5)⟩
theorem lx_istore_nN (hC : Cok X V A own cc nL) {j : Fin 4} {i : Nat} {x : Int32} {f : Int32 → Res α} (hdg : decode cc pc = .ok (.istore_n j, 1)) (hi : (j : Nat) = i) (hn : i < nL) (k : ∀ y, LX X V A fr lo c0 s0 F (pc + 1) ((i, .int y) :: lv.filter (fun q => !(q.1 == i) && !(q.1 + 1 == i && q.2.category == 2))) rest σ (f y)) : LX X V A fr lo c0 s0 F pc lv (.int x :: rest) σ (vl x f) := lx_istore_n hC hdg hi hn (k x)
theorem lx_istoreN (hC : Cok X V A own cc nL) {i : Nat} {x : Int32} {f : Int32 → Res α} (hdg : decode cc pc = .ok (.istore i, 2)) (hn : i < nL) (k : ∀ y, LX X V A fr lo c0 s0 F (pc + 2) ((i, .int y) :: lv.filter (fun q => !(q.1 == i) && !(q.1 + 1 == i && q.2.category == 2))) rest σ (f y)) : LX X V A fr lo c0 s0 F pc lv (.int x :: rest) σ (vl x f) := lx_istore hC hdg hn (k x)
theorem lx_lstore_n (hC : Cok X V A own cc nL) {j : Fin 4} {i : Nat} {x : Int64} (hdg : decode cc pc = .ok (.lstore_n j, 1)) (hi : (j : Nat) = i) (hn : i + 1 < nL) (k : LX X V A fr lo c0 s0 F (pc + 1) ((i, .long x) :: lv.filter (fun q => !(q.1 == i) && (!(q.1 == i + 1) && !(q.1 + 1 == i && q.2.category == 2)))) rest σ r) : LX X V A fr lo c0 s0 F pc lv (.long x :: rest) σ r := by
  intro out h1
  obtain ⟨hm, K⟩ := k out h1
  exact ⟨hm, fun R h2 h3 h4 h5 H locs hid ls cells slots g1 g2 g3 g4 g5 => lv_lstore_n hC.1 hC.2.1 hdg hi g3 (by rw [hC.2.2.1]; exact hn) rfl (fun ls' hl' => K R h2 h3 h4 h5 H locs hid ls' cells slots g1 g2 (by rw [cvl_filter2] at hl'; exact hl') g4 g5)⟩
theorem lx_lstore (hC : Cok X V A own cc nL) {i : Nat} {x : Int64} (hdg : decode cc pc = .ok (.lstore i, 2)) (hn : i + 1 < nL) (k : LX X V A fr lo c0 s0 F (pc + 2) ((i, .long x) :: lv.filter (fun q => !(q.1 == i) && (!(q.1 == i + 1) && !(q.1 + 1 == i && q.2.category == 2)))) rest σ r) : LX X V A fr lo c0 s0 F pc lv (.long x :: rest) σ r := by
  intro out h1
  obtain ⟨hm, K⟩ := k out h1
  exact ⟨hm, fun R h2 h3 h4 h5 H locs hid ls cells slots g1 g2 g3 g4 g5 => lv_lstore hC.1 hC.2.1 hdg g3 (by rw [hC.2.2.1]; exact hn) rfl (fun ls' hl' => K R h2 h3 h4 h5 H locs hid ls' cells slots g1 g2 (by rw [cvl_filter2] at hl'; exact hl') g4 g5)⟩
theorem lx_dstore_n (hC : Cok X V A own cc nL) {j : Fin 4} {i : Nat} {x : UInt64} (hdg : decode cc pc = .ok (.dstore_n j, 1)) (hi : (j : Nat) = i) (hn : i + 1 < nL) (k : LX X V A fr lo c0 s0 F (pc + 1) ((i, .double x) :: lv.filter (fun q => !(q.1 == i) && (!(q.1 == i + 1) && !(q.1 + 1 == i && q.2.category == 2)))) rest σ r) : LX X V A fr lo c0 s0 F pc lv (.double x :: rest) σ r := by
  intro out h1
  obtain ⟨hm, K⟩ := k out h1
  exact ⟨hm, fun R h2 h3 h4 h5 H locs hid ls cells slots g1 g2 g3 g4 g5 => lv_dstore_n hC.1 hC.2.1 hdg hi g3 (by rw [hC.2.2.1]; exact hn) rfl (fun ls' hl' => K R h2 h3 h4 h5 H locs hid ls' cells slots g1 g2 (by rw [cvl_filter2] at hl'; exact hl') g4 g5)⟩
theorem lx_dstore (hC : Cok X V A own cc nL) {i : Nat} {x : UInt64} (hdg : decode cc pc = .ok (.dstore i, 2)) (hn : i + 1 < nL) (k : LX X V A fr lo c0 s0 F (pc + 2) ((i, .double x) :: lv.filter (fun q => !(q.1 == i) && (!(q.1 == i + 1) && !(q.1 + 1 == i && q.2.category == 2)))) rest σ r) : LX X V A fr lo c0 s0 F pc lv (.double x :: rest) σ r := by
  intro out h1
  obtain ⟨hm, K⟩ := k out h1
  exact ⟨hm, fun R h2 h3 h4 h5 H locs hid ls cells slots g1 g2 g3 g4 g5 => lv_dstore hC.1 hC.2.1 hdg g3 (by rw [hC.2.2.1]; exact hn) rfl (fun ls' hl' => K R h2 h3 h4 h5 H locs hid ls' cells slots g1 g2 (by rw [cvl_filter2] at hl'; exact hl') g4 g5)⟩
theorem lx_iinc (hC : Cok X V A own cc nL) {i : Nat} {n : Int} {x : Int32} (hdg : decode cc pc = .ok (.iinc i n, 3)) (q : Nat) (hl : lv[q]? = some (i, .int x)) (hn : i < nL) (k : LX X V A fr lo c0 s0 F (pc + 3) ((i, .int (x + Int32.ofInt n)) :: lv.filter (fun q => !(q.1 == i) && !(q.1 + 1 == i && q.2.category == 2))) rest σ r) : LX X V A fr lo c0 s0 F pc lv rest σ r := by
  intro out h1
  obtain ⟨hm, K⟩ := k out h1
  exact ⟨hm, fun R h2 h3 h4 h5 H locs hid ls cells slots g1 g2 g3 g4 g5 => lv_iinc hC.1 hC.2.1 hdg g3 (k := q) (cvl_at hl) rfl (by rw [hC.2.2.1]; exact hn) rfl (fun ls' hl' => K R h2 h3 h4 h5 H locs hid ls' cells slots g1 g2 (by rw [cvl_filter] at hl'; exact hl') g4 g5)⟩
theorem lx_iincN (hC : Cok X V A own cc nL) {i : Nat} {n : Int} {x v : Int32} {f : Int32 → Res α} (hdg : decode cc pc = .ok (.iinc i n, 3)) (q : Nat) (hl : lv[q]? = some (i, .int x)) (hn : i < nL) (hv : Int32.ofInt n = v) (k : ∀ y, LX X V A fr lo c0 s0 F (pc + 3) ((i, .int y) :: lv.filter (fun q => !(q.1 == i) && !(q.1 + 1 == i && q.2.category == 2))) rest σ (f y)) : LX X V A fr lo c0 s0 F pc lv rest σ (vl (x + v) f) := by
  subst hv
  exact lx_iinc hC hdg q hl hn (k _)
theorem lx_dup2ir (hC : Cok X V A own cc nL) {x : Int32} {y : Nat} (hdg : decode cc pc = .ok (.dup2, 1)) (k : LX X V A fr lo c0 s0 F (pc + 1) lv (.int x :: .ref y :: .int x :: .ref y :: rest) σ r) : LX X V A fr lo c0 s0 F pc lv (.int x :: .ref y :: rest) σ r := by
  intro out h1
  obtain ⟨hm, K⟩ := k out h1
  exact ⟨hm, fun R h2 h3 h4 h5 H locs hid ls cells slots g1 g2 g3 g4 g5 => lv_dup2_11 hC.1 hC.2.1 hdg rfl rfl (K R h2 h3 h4 h5 H locs hid ls cells slots g1 g2 g3 g4 g5)⟩
theorem lx_fcmp (hC : Cok X V A own cc nL) {x y : UInt32} {op : CmpOp} (hdg : decode cc pc = .ok (.fcmp op, 1)) (k : LX X V A fr lo c0 s0 F (pc + 1) lv (.int (Op.cmpValue (FP.fcmp x y) op) :: rest) σ r) : LX X V A fr lo c0 s0 F pc lv (.float y :: .float x :: rest) σ r := by
  intro out h1
  obtain ⟨hm, K⟩ := k out h1
  exact ⟨hm, fun R h2 h3 h4 h5 H locs hid ls cells slots g1 g2 g3 g4 g5 => lv_fcmp hC.1 hC.2.1 hdg (K R h2 h3 h4 h5 H locs hid ls cells slots g1 g2 g3 g4 g5)⟩
end
