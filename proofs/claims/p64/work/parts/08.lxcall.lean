/-! ===== String constants, casts ===== -/
def strL : List (String × Nat × String) := [("EchoCensus", 93, "no active echo has this id"), ("EchoCensus", 100, "there is no such row"), ("EchoCensus", 105, "an argument is not allowed"), ("EchoCensus", 110, "the census does not allow this now"), ("EchoCensus", 152, "the row has no such position"), ("EchoCensus", 178, "the echo has no heir"), ("EchoCensus", 234, "the first row is greater than the last row"), ("EchoCensus", 236, "there is no such rank"), ("EchoCensus", 226, "no echo is active"), ("EchoCensus", 93, "no active echo has this id"), ("EchoCensus", 256, "there is no box with this name"), ("EchoCensus", 248, "the box names no row"), ("java/lang/StringIndexOutOfBoundsException", 13, "String index out of range: "), ("java/util/Arrays", 337, " > "), ("java/util/Arrays", 48, "fromIndex("), ("java/util/Arrays", 57, ") > toIndex("), ("java/util/Arrays", 59, ")"), ("java/lang/ArrayIndexOutOfBoundsException", 13, "Array index out of range: "), ("EchoCensus", 315, "the line has no such index"), ("EchoCensus", 321, "the character is not from ' ' to '~'"), ("EchoCensus", 323, "the input buffer is full"), ("EchoCensus$Program", 103, "row "), ("EchoCensus$Program", 105, "phantoms "), ("EchoCensus$Program", 107, "dismiss "), ("EchoCensus$Program", 109, "echo "), ("EchoCensus$Program", 111, "move "), ("EchoCensus$Program", 113, "remove "), ("EchoCensus$Program", 115, "heir "), ("EchoCensus$Program", 117, "disown "), ("EchoCensus$Program", 119, "lock "), ("EchoCensus$Program", 121, "unlock "), ("EchoCensus$Program", 123, "box "), ("EchoCensus$Program", 125, "spread "), ("EchoCensus$Program", 127, "N"), ("EchoCensus$Program", 129, "DD"), ("EchoCensus$Program", 131, "DN"), ("EchoCensus$Program", 133, "ND"), ("EchoCensus$Program", 135, "NN"), ("EchoCensus$Program", 137, "BD"), ("EchoCensus$Program", 139, "D"), ("EchoCensus", 329, "the program is malformed"), ("EchoCensus", 334, "a command of the program failed"), ("EchoCensus", 93, "no active echo has this id"), ("EchoCensus", 93, "no active echo has this id"), ("EchoCensus", 346, "no change can be undone"), ("EchoCensus", 354, "there is no saved copy"), ("EchoCensusLaw", 385, "echo 0 50;echo 1 60"), ("EchoCensusLaw", 387, "phantoms 0 1;echo 0 7"), ("EchoCensusLaw", 389, "spread 0;spread 1"), ("EchoCensusLaw", 391, "lock 2"), ("EchoCensusLaw", 393, "unlock 2;box b 2"), ("EchoCensusLaw", 395, "row 3;box c 0"), ("EchoCensusLaw", 397, "heir 0 1;remove 0"), ("EchoCensusLaw", 399, "move 1 2;spread 2")]
def cstL : List (String × String) := [("java/util/NoSuchElementException", "java/util/NoSuchElementException"), ("java/lang/IndexOutOfBoundsException", "java/lang/IndexOutOfBoundsException"), ("java/lang/IllegalArgumentException", "java/lang/IllegalArgumentException"), ("java/lang/IllegalStateException", "java/lang/IllegalStateException"), ("java/lang/ArrayIndexOutOfBoundsException", "java/lang/ArrayIndexOutOfBoundsException"), ("[B", "java/lang/Cloneable"), ("java/lang/ArrayIndexOutOfBoundsException", "java/lang/IndexOutOfBoundsException"), ("java/lang/StringIndexOutOfBoundsException", "java/lang/IndexOutOfBoundsException"), ("EchoCensus", "java/lang/Object"), ("EchoCensus$History", "java/lang/Object"), ("EchoCensus$Theatre", "java/lang/Object"), ("EchoCensus$FenwickTree", "java/lang/Object"), ("EchoCensus$HeirTables", "java/lang/Object"), ("EchoCensus$Program", "java/lang/Object"), ("java/lang/StringBuilder", "java/lang/Object"), ("java/util/NoSuchElementException", "java/lang/Object"), ("java/lang/IndexOutOfBoundsException", "java/lang/Object"), ("java/lang/IllegalArgumentException", "java/lang/Object"), ("java/lang/IllegalStateException", "java/lang/Object"), ("java/lang/ArrayIndexOutOfBoundsException", "java/lang/Object"), ("java/lang/StringIndexOutOfBoundsException", "java/lang/Object"), ("java/lang/String", "java/lang/Object"), ("java/lang/Throwable", "java/lang/Object")]
def dclL : List MethodName := [⟨"java/lang/RuntimeException", "<init>", "()V"⟩, ⟨"java/lang/RuntimeException", "<init>", "(Ljava/lang/String;)V"⟩, ⟨"java/lang/Exception", "<init>", "()V"⟩, ⟨"java/lang/Exception", "<init>", "(Ljava/lang/String;)V"⟩, ⟨"java/lang/Throwable", "<init>", "()V"⟩, ⟨"java/lang/Throwable", "<init>", "(Ljava/lang/String;)V"⟩, ⟨"java/lang/IndexOutOfBoundsException", "<init>", "()V"⟩, ⟨"java/lang/IndexOutOfBoundsException", "<init>", "(Ljava/lang/String;)V"⟩]
def wdL : List Cond := cstL.map (fun q => Cond.castable q.1 q.2) ++ dclL.map Cond.declares
theorem wdL_t : ∀ w ∈ wdL, w.onTables = true := by decide +kernel
theorem wdL_w {u : State} {vm : Vm} (h : u.WarmedH vm) : ∀ w ∈ wdL, w.before #[] u = true → w.before #[] (u.setVm vm) = true := by
  intro w hw h1
  refine Cond.before_warmed h w ?_ h1
  rcases List.mem_append.mp hw with q | q
  · obtain ⟨a, -, rfl⟩ := List.mem_map.mp q
    trivial
  · obtain ⟨a, -, rfl⟩ := List.mem_map.mp q
    trivial
def ncsL : List (String × String) := [("EchoCensus", "java/lang/IllegalArgumentException"), ("EchoCensus$History", "java/lang/IllegalArgumentException"), ("EchoCensus$Theatre", "java/lang/IllegalArgumentException"), ("EchoCensus$FenwickTree", "java/lang/IllegalArgumentException"), ("EchoCensus$HeirTables", "java/lang/IllegalArgumentException"), ("EchoCensus$Program", "java/lang/IllegalArgumentException"), ("java/lang/StringBuilder", "java/lang/IllegalArgumentException"), ("java/util/NoSuchElementException", "java/lang/IllegalArgumentException"), ("java/lang/IndexOutOfBoundsException", "java/lang/IllegalArgumentException"), ("java/lang/IllegalStateException", "java/lang/IllegalArgumentException"), ("java/lang/ArrayIndexOutOfBoundsException", "java/lang/IllegalArgumentException"), ("java/lang/StringIndexOutOfBoundsException", "java/lang/IllegalArgumentException"), ("java/lang/String", "java/lang/IllegalArgumentException"), ("EchoCensus", "java/lang/IllegalStateException"), ("EchoCensus$History", "java/lang/IllegalStateException"), ("EchoCensus$Theatre", "java/lang/IllegalStateException"), ("EchoCensus$FenwickTree", "java/lang/IllegalStateException"), ("EchoCensus$HeirTables", "java/lang/IllegalStateException"), ("EchoCensus$Program", "java/lang/IllegalStateException"), ("java/lang/StringBuilder", "java/lang/IllegalStateException"), ("java/util/NoSuchElementException", "java/lang/IllegalStateException"), ("java/lang/IndexOutOfBoundsException", "java/lang/IllegalStateException"), ("java/lang/IllegalArgumentException", "java/lang/IllegalStateException"), ("java/lang/ArrayIndexOutOfBoundsException", "java/lang/IllegalStateException"), ("java/lang/StringIndexOutOfBoundsException", "java/lang/IllegalStateException"), ("java/lang/String", "java/lang/IllegalStateException"), ("EchoCensus", "java/lang/IndexOutOfBoundsException"), ("EchoCensus$History", "java/lang/IndexOutOfBoundsException"), ("EchoCensus$Theatre", "java/lang/IndexOutOfBoundsException"), ("EchoCensus$FenwickTree", "java/lang/IndexOutOfBoundsException"), ("EchoCensus$HeirTables", "java/lang/IndexOutOfBoundsException"), ("EchoCensus$Program", "java/lang/IndexOutOfBoundsException"), ("java/lang/StringBuilder", "java/lang/IndexOutOfBoundsException"), ("java/util/NoSuchElementException", "java/lang/IndexOutOfBoundsException"), ("java/lang/IllegalArgumentException", "java/lang/IndexOutOfBoundsException"), ("java/lang/IllegalStateException", "java/lang/IndexOutOfBoundsException"), ("java/lang/String", "java/lang/IndexOutOfBoundsException"), ("EchoCensus", "java/util/NoSuchElementException"), ("EchoCensus$History", "java/util/NoSuchElementException"), ("EchoCensus$Theatre", "java/util/NoSuchElementException"), ("EchoCensus$FenwickTree", "java/util/NoSuchElementException"), ("EchoCensus$HeirTables", "java/util/NoSuchElementException"), ("EchoCensus$Program", "java/util/NoSuchElementException"), ("java/lang/StringBuilder", "java/util/NoSuchElementException"), ("java/lang/IndexOutOfBoundsException", "java/util/NoSuchElementException"), ("java/lang/IllegalArgumentException", "java/util/NoSuchElementException"), ("java/lang/IllegalStateException", "java/util/NoSuchElementException"), ("java/lang/ArrayIndexOutOfBoundsException", "java/util/NoSuchElementException"), ("java/lang/StringIndexOutOfBoundsException", "java/util/NoSuchElementException"), ("java/lang/String", "java/util/NoSuchElementException")]
/-! ===== the JDK's standing world: constants, statics ===== -/
def txL : List (List Int32) := strL.map (fun q => q.2.2.toList.map (fun c => sb_b c.toNat))
/-- every String constant is a String of Latin-1 bytes; the statics that the JDK's methods read -/
def JW (V : Vx) (adV : Nat → Nat) (A : Nat → Prop) (U : State) (H : Heap) : Prop :=
  (∀ i, i < strL.length → va_O "java/lang/String" (V.2.2 (3000 + i)) A U H ∧ va_OF "java/lang/String" "coder" "B" (.int 0) (V.2.2 (3000 + i)) A U H ∧ va_OF "java/lang/String" "value" "[B" (.ref (adV i)) (V.2.2 (3000 + i)) A U H ∧ va_T .byte (adV i) (txL.getD i []).length (fun j => .int ((txL.getD i []).getD j 0)) A U H) ∧
  va_Z "java/lang/String" "COMPACT_STRINGS" "Z" (.int 1) A U H ∧ va_Zq "jdk/internal/util/Preconditions" "SIOOBE_FORMATTER" "Ljava/util/function/BiFunction;" A U H ∧
  (∃ d : Nat, va_Z "java/lang/Integer" "DigitOnes" "[B" (.ref d) A U H ∧ va_T .byte d 100 (fun j => .int (sb_b (48 + j % 10))) A U H) ∧
  (∃ d : Nat, va_Z "java/lang/Integer" "DigitTens" "[B" (.ref d) A U H ∧ va_T .byte d 100 (fun j => .int (sb_b (48 + j / 10))) A U H)
theorem JW.moved {V : Vx} {adV : Nat → Nat} {A : Nat → Prop} {u U : State} {H : Heap} (hvm : u.vm.Alike U.vm) (h : JW V adV A u H) : JW V adV A U H := by
  obtain ⟨h1, h2, h2q, ⟨d, h3, h4⟩, d', h5, h6⟩ := h
  exact ⟨fun i hi => ⟨va_O.moved hvm (h1 i hi).1, va_OF.moved hvm (h1 i hi).2.1, va_OF.moved hvm (h1 i hi).2.2.1, va_T.moved hvm (h1 i hi).2.2.2⟩, va_Z.moved hvm h2, va_Zq.moved hvm h2q, ⟨d, va_Z.moved hvm h3, va_T.moved hvm h4⟩, d', va_Z.moved hvm h5, va_T.moved hvm h6⟩
theorem JW.kept {V : Vx} {adV : Nat → Nat} {A : Nat → Prop} {U : State} {H H1 : Heap} (h : JW V adV A U H) (hq : ∀ a : Nat, a < H.size → ¬ A a → H1[a]? = H[a]?) : JW V adV A U H1 := by
  obtain ⟨h1, h2, h2q, ⟨d, h3, h4⟩, d', h5, h6⟩ := h
  exact ⟨fun i hi => ⟨(h1 i hi).1.kept hq, (h1 i hi).2.1.kept hq, (h1 i hi).2.2.1.kept hq, (h1 i hi).2.2.2.kept hq⟩, h2.kept hq, h2q.kept hq, ⟨d, h3.kept hq, h4.kept hq⟩, d', h5.kept hq, h6.kept hq⟩
theorem JW.narrow {V : Vx} {adV : Nat → Nat} {A B : Nat → Prop} {U : State} {H : Heap} (h : JW V adV A U H) (hAB : ∀ q, B q → A q) : JW V adV B U H := by
  obtain ⟨h1, h2, h2q, ⟨d, h3, h4⟩, d', h5, h6⟩ := h
  exact ⟨fun i hi => ⟨(h1 i hi).1.narrow hAB, (h1 i hi).2.1.narrow hAB, (h1 i hi).2.2.1.narrow hAB, (h1 i hi).2.2.2.narrow hAB⟩, h2.narrow hAB, h2q.narrow hAB, ⟨d, h3.narrow hAB, h4.narrow hAB⟩, d', h5.narrow hAB, h6.narrow hAB⟩
/-- the law's texts, at 2001 -/
def TX (V : Vx) (A : Nat → Prop) (U : State) (H : Heap) : Prop := va_Z "EchoCensusLaw" "TEXTS" "[Ljava/lang/String;" (.ref (V.2.2 2001)) A U H ∧ va_T (.object "java/lang/String") (V.2.2 2001) 8 (fun j => .ref (V.2.2 (3046 + j))) A U H
theorem TX.moved {V : Vx} {A : Nat → Prop} {u U : State} {H : Heap} (hvm : u.vm.Alike U.vm) (h : TX V A u H) : TX V A U H := ⟨va_Z.moved hvm h.1, va_T.moved hvm h.2⟩
theorem TX.kept {V : Vx} {A : Nat → Prop} {U : State} {H H1 : Heap} (h : TX V A U H) (hq : ∀ a : Nat, a < H.size → ¬ A a → H1[a]? = H[a]?) : TX V A U H1 := ⟨h.1.kept hq, h.2.kept hq⟩
theorem TX.narrow {V : Vx} {A B : Nat → Prop} {U : State} {H : Heap} (h : TX V A U H) (hAB : ∀ q, B q → A q) : TX V B U H := ⟨h.1.narrow hAB, h.2.narrow hAB⟩
def Env0 (V : Vx) (adV : Nat → Nat) (A : Nat → Prop) (U : State) (H : Heap) : Prop :=
  vx_Zq Bundle.tN "UNASSIGNED_STACK" Bundle.steD A U H ∧ vx_Zq Bundle.tN "SUPPRESSED_SENTINEL" Bundle.listD A U H ∧
  (∀ (i : Nat) (q : String × Nat × String), strL[i]? = some q → vk_R q.1 q.2.1 q.2.2 (V.2.2 (3000 + i)) U) ∧
  (∀ w ∈ wdL, w.before #[] U = true) ∧ (∀ q ∈ ncsL, va_Nc q.1 q.2 U) ∧ JW V adV A U H ∧ TX V A U H
theorem Env0.moved {V : Vx} {adV : Nat → Nat} {A : Nat → Prop} {u U : State} {H : Heap} (hW : u.WarmedH U.vm) (h : Env0 V adV A u H) : Env0 V adV A U H := by
  obtain ⟨h1, h2, h3, h4, h5, h6⟩ := h
  refine ⟨h1.moved hW.alike, h2.moved hW.alike, fun i q hq => vk_R.warm hW (h3 i q hq), fun q hq => ?_, fun q hq => va_Nc.moved hW.alike (h5 q hq), h6.1.moved hW.alike, h6.2.moved hW.alike⟩
  exact va_tabs (wdL_t q hq) (u := u.setVm U.vm) rfl (wdL_w hW q hq (h4 q hq))
theorem Env0.kept {V : Vx} {adV : Nat → Nat} {A : Nat → Prop} {U : State} {H H1 : Heap} (h : Env0 V adV A U H) (hq : ∀ a : Nat, a < H.size → ¬ A a → H1[a]? = H[a]?) : Env0 V adV A U H1 :=
  ⟨h.1.kept hq, h.2.1.kept hq, h.2.2.1, h.2.2.2.1, h.2.2.2.2.1, h.2.2.2.2.2.1.kept hq, h.2.2.2.2.2.2.kept hq⟩
theorem Env0.narrow {V : Vx} {adV : Nat → Nat} {A B : Nat → Prop} {U : State} {H : Heap} (h : Env0 V adV A U H) (hAB : ∀ q, B q → A q) : Env0 V adV B U H :=
  ⟨h.1.narrow hAB, h.2.1.narrow hAB, h.2.2.1, h.2.2.2.1, h.2.2.2.2.1, h.2.2.2.2.2.1.narrow hAB, h.2.2.2.2.2.2.narrow hAB⟩
/-! ===== contracts ===== -/
def QC {α : Type} (V : Vx) (A : Nat → Prop) (inj : α → Option Value) (out : (α ⊕ String) × Mem) : Array Value → State → Outcome → State → Prop :=
  fun _ st o t => (∃ v, out.1 = .inl v ∧ o = .returned ((inj v).map (cv V.2.2)) ∧ ∃ hid, Rep V hid A out.2 t.heap) ∧ va_F A st t
def XC {α : Type} (V : Vx) (A : Nat → Prop) (out : (α ⊕ String) × Mem) : String → State → State → Prop :=
  fun E st t => (out.1 = .inr E ∧ ∃ hid, Rep V hid A out.2 t.heap) ∧ va_F A st t
def FM {α : Type} (X : Cx) (V : Vx) (A : Nat → Prop) (inj : α → Option Value) : (α ⊕ String) × Mem → Room → State → Prop :=
  fun out R => vx_MQ (xb X) (QC V A inj out) (XC V A out) (xa X) (xs X) R.cells R.slots A
def Prc (V : Vx) (hid adV : Nat → Nat) (sz : Nat) (σ : Mem) (as : List Value) : Array Value → State → Prop :=
  va_Pc (as.map (cv V.2.2)) (fun U => U.heap.size = sz ∧ Rep V hid (fun _ => True) σ U.heap ∧ va_K V.1 clv (tysv V) U ∧ Env0 V adV (own1 V hid sz) U U.heap)
def Sat (l : Launch) (y : MethodName) (w0 : Cond) (fr lo : Nat) {α : Type} (inj : α → Option Value) (as : List Value) (σ : Mem) (r : Res α) : Prop :=
  ∀ out, r = some out → (nC σ ≤ nC out.2 ∧ nS σ ≤ nS out.2) ∧ ∀ (V : Vx) (hid adV : Nat → Nat) (sz mc ms : Nat), nC out.2 = nC σ + mc → nS out.2 = nS σ + ms →
    vx_Met l y (w0 :: gw) { frames := fr, cells := mc, slots := ms, locals := lo } (Prc V hid adV sz σ as) (QC V (own1 V hid sz) inj out) (XC V (own1 V hid sz) out) mc ms (own1 V hid sz)
theorem cv_map_sl (ad : Nat → Nat) (as : List Value) : lv_args 0 (as.map (cv ad)) = cvl ad (lv_args 0 as) := by
  have h : ∀ (as : List Value) (i : Nat), lv_args i (as.map (cv ad)) = cvl ad (lv_args i as) := by
    intro as
    induction as with
    | nil => intro i; rfl
    | cons v vs ih =>
      intro i
      show (i, cv ad v) :: lv_args _ (vs.map (cv ad)) = (i, cv ad v) :: cvl ad (lv_args _ vs)
      rw [cv_cat, ih]
  exact h as 0
def wdt (as : List Value) : Nat := (as.map (fun v => v.category)).sum
theorem lg_sl_len (vs : List Value) : (lg_sl vs).length = wdt vs := by
  induction vs with
  | nil => rfl
  | cons v vs ih =>
    have h : lg_sl (v :: vs) = (if v.category = 2 then [Slot.val v, Slot.second] else [Slot.val v]) ++ lg_sl vs := by
      first | rfl | (simp [lg_sl])
    rw [h, List.length_append, ih]
    rcases lv_cat v with q | q <;> simp [wdt, q]
theorem wdt_cv (ad : Nat → Nat) (as : List Value) : wdt (as.map (cv ad)) = wdt as := by
  unfold wdt
  rw [List.map_map]
  congr 1
  apply List.map_congr_left
  intro v _
  exact cv_cat ad v
/-- a method's contract out of the walk of its body -/
theorem sat_of {l : Launch} {y : MethodName} {cc : ByteArray} {nL : Nat} {ret : Option FieldType} {fr lo : Nat} {α : Type} {inj : α → Option Value} {as : List Value} {σ : Mem} {r : Res α} (hl : l.stackTraces = false) (hy : plainName y.cls = true) (hn : wdt as ≤ nL)
    (body : ∀ (X : Cx) (V : Vx) (A : Nat → Prop) (adV : Nat → Nat), xl X = l → Cok X V A y.cls cc nL → Env0 V adV A (xs X) (xs X).heap → (∀ x ∈ (xc X).exceptionTable.toList, False) → (xh X).sig.returnType = ret → LX X V A fr lo (nC σ) (nS σ) (FM X V A inj) 0 (lv_args 0 as) [] σ r)
    (hm : ∀ out, r = some out → nC σ ≤ nC out.2 ∧ nS σ ≤ nS out.2) : Sat l y (.code y cc nL ret) fr lo inj as σ r := by
  intro out hr
  refine ⟨hm out hr, fun V hid adV sz mc ms e1 e2 => ?_⟩
  refine vx_ofW (cc := cc) (maxL := nL) (ret := ret) hy rfl ?_
  intro p e s m args below meth c s₁ B hml ht hv
  obtain ⟨rfl, hsz, hR, hK, hE⟩ := hv
  have hts := atoms_spec (ws := Cond.code y cc nL ret :: gw) B.pre
  have hA : ∀ q : Nat, s.heap.size ≤ q → own1 V hid sz q := fun q h => Or.inr (Or.inr (by rw [← hsz]; exact h))
  have hC : Cok (p, l, e, s, m, (as.map (cv V.2.2)).toArray, below, meth, c) V (own1 V hid sz) y.cls cc nL :=
    ⟨B.exec, B.bytes, hml, findClass_of_methodNamed B.named, fun w h => hts w (List.mem_cons_of_mem _ h), hK, hA, B.notSynchronized⟩
  obtain ⟨-, K⟩ := body (p, l, e, s, m, (as.map (cv V.2.2)).toArray, below, meth, c) V (own1 V hid sz) adV rfl hC hE ht B.returns out hr
  have hlv := lv_entry (as.map (cv V.2.2)) (n := nL) (by rw [lg_sl_len, wdt_cv]; exact hn)
  rw [lg_entry_eq]
  rw [cv_map_sl, ← hml] at hlv
  rw [← hml]
  exact K { frames := fr, cells := mc, slots := ms, locals := lo } rfl rfl e1 e2 s.heap [] hid _ 0 0 (hR.self sz) va_S.rf hlv rfl rfl
section
variable {X : Cx} {V : Vx} {A : Nat → Prop} {fr lo c0 s0 : Nat} {α β : Type} {inj : α → Option Value} {pc : Nat} {lv : List (Nat × Value)} {rest : List Value} {σ : Mem} {r : Res α} {own : String} {cc : ByteArray} {nL : Nat}
theorem lx_end {st : List Value} {v : α} (k : ∀ (R : Room) (H : Heap) (locs : List Loc) (hid : Nat → Nat) (ls : Array Slot), Rep V hid A σ H → va_S A (xs X).heap H locs → (∀ q ∈ locs, A q.base) → (∀ t : State, t.heap = H → QC V A inj (.inl v, σ) (xa X) (xs X) (.returned ((inj v).map (cv V.2.2))) t) →
      WX X R H locs R.cells R.slots (MQ (xb X) (QC V A inj (.inl v, σ)) (xa X) (xs X) R.cells R.slots A) (F0 (xm X) pc ls (st.map (cv V.2.2)))) : LX X V A fr lo c0 s0 (FM X V A inj) pc lv st σ (some (.inl v, σ)) := by
  intro out h1
  cases h1
  refine ⟨⟨Nat.le_refl _, Nat.le_refl _⟩, fun R h2 h3 h4 h5 H locs hid ls cells slots g1 g2 g3 g4 g5 => ?_⟩
  have e1 : cells = R.cells := by have := h4.symm.trans g4; omega
  have e2 : slots = R.slots := by have := h5.symm.trans g5; omega
  subst e1; subst e2
  refine vx_ret (k R H locs hid ls g1 g2 g2.2.2 (fun t ht => ⟨⟨v, rfl, rfl, hid, by rw [ht]; exact g1⟩, g2.F ht⟩))
theorem lx_vret (hC : Cok X V A own cc nL) {u : α} (hi : inj u = none) (hr : (xh X).sig.returnType = none) (hdg : decode cc pc = .ok (.return_, 1)) : LX X V A fr lo c0 s0 (FM X V A inj) pc lv [] σ (some (.inl u, σ)) :=
  lx_end fun R H locs hid ls g1 g2 hf hq => W.vret hC.1 hC.2.1 hr (fun t ht _ => by have := hq t ht; rw [hi] at this; exact this) hf hdg (hlocks := hC.2.2.2.2.2.2.2)
theorem lx_iret (hC : Cok X V A own cc nL) {x : Int32} {u : α} (hi : inj u = some (.int x)) (hr : (xh X).sig.returnType = some .int) (hdg : decode cc pc = .ok (.ireturn, 1)) : LX X V A fr lo c0 s0 (FM X V A inj) pc lv [.int x] σ (some (.inl u, σ)) :=
  lx_end fun R H locs hid ls g1 g2 hf hq => W.iret hC.1 hC.2.1 hr (fun t ht _ => by have := hq t ht; rw [hi] at this; exact this) hf hdg (hlocks := hC.2.2.2.2.2.2.2)
theorem nar_of {ty : FieldType} {x : Int32} (h : vp_nar ty x = x) (hty : ty = .boolean ∨ ty = .char ∨ ty = .byte) : narrow ty (.int x) = .int x := by
  rcases hty with rfl | rfl | rfl
  · exact congrArg Value.int h
  · exact congrArg Value.int h
  · exact congrArg Value.int h
theorem lx_zret (hC : Cok X V A own cc nL) {x : Int32} {u : α} {ty : FieldType} (hi : inj u = some (.int x)) (hr : (xh X).sig.returnType = some ty) (hn : narrow ty (.int x) = .int x) (hdg : decode cc pc = .ok (.ireturn, 1)) : LX X V A fr lo c0 s0 (FM X V A inj) pc lv [.int x] σ (some (.inl u, σ)) :=
  lx_end fun R H locs hid ls g1 g2 hf hq => W.zret hC.1 hC.2.1 hr hn (fun t ht _ => by have := hq t ht; rw [hi] at this; exact this) hf hdg (hlocks := hC.2.2.2.2.2.2.2)
theorem lx_zretn (hC : Cok X V A own cc nL) {x : Int32} {u : α} {ty : FieldType} (hi : inj u = some (.int x)) (hr : (xh X).sig.returnType = some ty) (hty : ty = .boolean ∨ ty = .char ∨ ty = .byte) (hdg : decode cc pc = .ok (.ireturn, 1)) : LX X V A fr lo c0 s0 (FM X V A inj) pc lv [.int x] σ (if vp_nar ty x = x then some (.inl u, σ) else none) :=
  lx_if fun h => lx_zret hC hi hr (nar_of h hty) hdg
theorem lx_lret (hC : Cok X V A own cc nL) {x : Int64} {u : α} (hi : inj u = some (.long x)) (hr : (xh X).sig.returnType = some .long) (hdg : decode cc pc = .ok (.lreturn, 1)) : LX X V A fr lo c0 s0 (FM X V A inj) pc lv [.long x] σ (some (.inl u, σ)) :=
  lx_end fun R H locs hid ls g1 g2 hf hq => W.lret hC.1 hC.2.1 hr (fun t ht _ => by have := hq t ht; rw [hi] at this; exact this) hf hdg (hlocks := hC.2.2.2.2.2.2.2)
theorem lx_dret (hC : Cok X V A own cc nL) {x : UInt64} {u : α} (hi : inj u = some (.double x)) (hr : (xh X).sig.returnType = some .double) (hdg : decode cc pc = .ok (.dreturn, 1)) : LX X V A fr lo c0 s0 (FM X V A inj) pc lv [.double x] σ (some (.inl u, σ)) :=
  lx_end fun R H locs hid ls g1 g2 hf hq => W.dret hC.1 hC.2.1 hr (fun t ht _ => by have := hq t ht; rw [hi] at this; exact this) hf hdg (hlocks := hC.2.2.2.2.2.2.2)
theorem lx_fret (hC : Cok X V A own cc nL) {x : UInt32} {u : α} (hi : inj u = some (.float x)) (hr : (xh X).sig.returnType = some .float) (hdg : decode cc pc = .ok (.freturn, 1)) : LX X V A fr lo c0 s0 (FM X V A inj) pc lv [.float x] σ (some (.inl u, σ)) :=
  lx_end fun R H locs hid ls g1 g2 hf hq => W.fret hC.1 hC.2.1 hr (fun t ht _ => by have := hq t ht; rw [hi] at this; exact this) hf hdg (hlocks := hC.2.2.2.2.2.2.2)
theorem lx_aret (hC : Cok X V A own cc nL) {x : Nat} {u : α} {rt : FieldType} (hi : inj u = some (.ref x)) (hr : (xh X).sig.returnType = some rt) (hrt : (∃ n, rt = .object n) ∨ ∃ t, rt = .array t) (hdg : decode cc pc = .ok (.areturn, 1)) : LX X V A fr lo c0 s0 (FM X V A inj) pc lv [.ref x] σ (some (.inl u, σ)) :=
  lx_end fun R H locs hid ls g1 g2 hf hq => W.aret hC.1 hC.2.1 hr hrt (Or.inr ⟨_, rfl⟩) (fun t ht _ => by have := hq t ht; rw [hi] at this; exact this) hf hdg (hlocks := hC.2.2.2.2.2.2.2)
theorem cell_lt {V : Vx} {hid : Nat → Nat} {σ : Mem} {H : Heap} {e : Nat × Nat × Nat × Nat} (he : e ∈ layL) (h : cellAt V hid σ H e) : V.2.2 e.1 < H.size ∧ ((e.1 = 6 ∨ e.1 = 7) → hid e.1 < H.size) := by
  have key : ∀ {q : Nat} {cl : Cell}, H[q]? = some cl → q < H.size := fun h => (Array.getElem?_eq_some_iff.mp h).1
  unfold cellAt at h
  rcases lay_sb e he with (q | q | q | q | q) | ⟨q, o⟩
  · simp only [q, if_true] at h
    obtain ⟨cell, h, -⟩ := h
    refine ⟨key h, fun z => ?_⟩
    have : ∀ e ∈ layL, (e.1 = 6 ∨ e.1 = 7) → e.2.1 = 6 := by decide +kernel
    have := this e he z
    omega
  all_goals
    first
      | (simp only [q, reduceIte, Nat.reduceEqDiff] at h
         refine ⟨key h, fun z => ?_⟩
         have : ∀ e ∈ layL, (e.1 = 6 ∨ e.1 = 7) → e.2.1 = 6 := by decide +kernel
         have := this e he z
         omega)
      | (simp only [q, reduceIte, Nat.reduceEqDiff] at h
         obtain ⟨z, a, ⟨cell, g1, -⟩, g2, -⟩ := h
         exact ⟨key g1, fun _ => key g2⟩)
theorem Rep.grow {V : Vx} {hid : Nat → Nat} {A : Nat → Prop} {σ σ' : Mem} {H H' : Heap} (h : Rep V hid A σ H) (hσ : (∀ c j, gI σ' c j = gI σ c j) ∧ (∀ c j, gJ σ' c j = gJ σ c j) ∧ (∀ c j, gD σ' c j = gD σ c j) ∧ ∀ c, gB σ' c = gB σ c) (hq : ∀ q : Nat, q < H.size → H'[q]? = H[q]?) : Rep V hid A σ' H' :=
  ⟨fun e he => cellAt_keep he (hσ.1 _) (hσ.2.1 _) (hσ.2.2.1 _) (hσ.2.2.2 _) (hq _ (cell_lt he (h.1 e he)).1) (fun o => hq _ ((cell_lt he (h.1 e he)).2 o)) (h.1 e he), h.2⟩
/-- 'throw new E("text")' -/
theorem lx_throw (hC : Cok X V A own cc nL) {adV : Nat → Nat} (hE : Env0 V adV A (xs X) (xs X).heap) (hl : (xl X).stackTraces = false) (ht : ∀ x ∈ (xc X).exceptionTable.toList, False) {cls text : String} {ik is ic i : Nat}
    (hcls : Bundle.fit cls = true) (hk : Cond.classLink own ik cls ∈ gw) (hini : Cond.initialized cls ∈ gw) (hs : strL[i]? = some (own, is, text)) (hgw : ∀ w ∈ (vx_atS own ic cls ["java/lang/RuntimeException", "java/lang/Exception"]).filter goodWord, w ∈ gw) (hng : ∀ w ∈ (vx_atS own ic cls ["java/lang/RuntimeException", "java/lang/Exception"]).filter (fun w => !goodWord w), w ∈ wdL)
    (hot : ∀ w ∈ Cond.classLink own ik cls :: Cond.initialized cls :: vx_atS own ic cls ["java/lang/RuntimeException", "java/lang/Exception"], vx_ot w = true)
    (d0 : decode cc pc = .ok (.new ik, 3)) (d3 : decode cc (pc + 3) = .ok (.dup, 1)) (d4 : decode cc (pc + 4) = .ok (.ldc is, 2)) (d6 : decode cc (pc + 6) = .ok (.invokespecial ic, 3)) (d9 : decode cc (pc + 9) = .ok (.athrow, 1))
    (hfr : 5 < fr) (hlo : wdt rest + 82 ≤ lo) : LX X V A fr lo c0 s0 (FM X V A inj) pc lv rest σ (some (.inr cls, pN σ 1 6)) := by
  intro out h1
  cases h1
  refine ⟨⟨Nat.le_add_right _ _, Nat.le_add_right _ _⟩, fun R h2 h3 h4 h5 H locs hid ls cells slots g1 g2 g3 g4 g5 => ?_⟩
  have e1 : cells + 1 = R.cells := by
    have h4' : nC σ + 1 = c0 + R.cells := h4
    omega
  have e2 : slots + 6 = R.slots := by
    have h5' : nS σ + 6 = s0 + R.slots := h5
    omega
  have hwd : ((rest.map (cv V.2.2)).map fun v => v.category).sum = wdt rest := wdt_cv V.2.2 rest
  refine vx_throwS hC.1 hC.2.1 hl hC.2.2.2.1 hcls (names := ["java/lang/RuntimeException", "java/lang/Exception"]) (by decide +kernel) (lx_words hC hk) (lx_words hC hini) (hE.2.2.1 i _ hs)
    (vx_hat (fun w hw => lx_words hC (hgw w hw)) hng (fun w hw => va_tabs (wdL_t w hw) rfl (hE.2.2.2.1 w hw))) hot hE.1 hE.2.1 g2 g3.1 d0 d3 d4 d6 d9 (fun x hx => (ht x hx).elim)
    (by rw [h2]; simpa using hfr) (by rw [hwd, h3]; simpa using hlo) (by omega) (by omega) hC.2.2.2.2.2.2.2 ?_ g2.2.2 (by omega) (by omega)
  intro t _ hz hq
  refine ⟨⟨rfl, hid, ?_⟩, Nat.le_trans g2.1 hz, fun q q1 q2 => by rw [hq q (Nat.lt_of_lt_of_le q1 g2.1)]; exact g2.2.1 q q1 q2⟩
  exact g1.grow ⟨fun _ _ => rfl, fun _ _ => rfl, fun _ _ => rfl, fun _ => rfl⟩ hq
/-- 'throw new E("text")', the text by a wide index -/
theorem lx_throwW (hC : Cok X V A own cc nL) {adV : Nat → Nat} (hE : Env0 V adV A (xs X) (xs X).heap) (hl : (xl X).stackTraces = false) (ht : ∀ x ∈ (xc X).exceptionTable.toList, False) {cls text : String} {ik is ic i : Nat}
    (hcls : Bundle.fit cls = true) (hk : Cond.classLink own ik cls ∈ gw) (hini : Cond.initialized cls ∈ gw) (hs : strL[i]? = some (own, is, text)) (hgw : ∀ w ∈ (vx_atS own ic cls ["java/lang/RuntimeException", "java/lang/Exception"]).filter goodWord, w ∈ gw) (hng : ∀ w ∈ (vx_atS own ic cls ["java/lang/RuntimeException", "java/lang/Exception"]).filter (fun w => !goodWord w), w ∈ wdL)
    (hot : ∀ w ∈ Cond.classLink own ik cls :: Cond.initialized cls :: vx_atS own ic cls ["java/lang/RuntimeException", "java/lang/Exception"], vx_ot w = true)
    (d0 : decode cc pc = .ok (.new ik, 3)) (d3 : decode cc (pc + 3) = .ok (.dup, 1)) (d4 : decode cc (pc + 4) = .ok (.ldc_w is, 3)) (d7 : decode cc (pc + 7) = .ok (.invokespecial ic, 3)) (d10 : decode cc (pc + 10) = .ok (.athrow, 1))
    (hfr : 5 < fr) (hlo : wdt rest + 82 ≤ lo) : LX X V A fr lo c0 s0 (FM X V A inj) pc lv rest σ (some (.inr cls, pN σ 1 6)) := by
  intro out h1
  cases h1
  refine ⟨⟨Nat.le_add_right _ _, Nat.le_add_right _ _⟩, fun R h2 h3 h4 h5 H locs hid ls cells slots g1 g2 g3 g4 g5 => ?_⟩
  have e1 : cells + 1 = R.cells := by
    have h4' : nC σ + 1 = c0 + R.cells := h4
    omega
  have e2 : slots + 6 = R.slots := by
    have h5' : nS σ + 6 = s0 + R.slots := h5
    omega
  have hwd : ((rest.map (cv V.2.2)).map fun v => v.category).sum = wdt rest := wdt_cv V.2.2 rest
  refine vx_throwSW hC.1 hC.2.1 hl hC.2.2.2.1 hcls (names := ["java/lang/RuntimeException", "java/lang/Exception"]) (by decide +kernel) (lx_words hC hk) (lx_words hC hini) (hE.2.2.1 i _ hs)
    (vx_hat (fun w hw => lx_words hC (hgw w hw)) hng (fun w hw => va_tabs (wdL_t w hw) rfl (hE.2.2.2.1 w hw))) hot hE.1 hE.2.1 g2 g3.1 d0 d3 d4 d7 d10 (fun x hx => (ht x hx).elim)
    (by rw [h2]; simpa using hfr) (by rw [hwd, h3]; simpa using hlo) (by omega) (by omega) hC.2.2.2.2.2.2.2 ?_ g2.2.2 (by omega) (by omega)
  intro t _ hz hq
  refine ⟨⟨rfl, hid, ?_⟩, Nat.le_trans g2.1 hz, fun q q1 q2 => by rw [hq q (Nat.lt_of_lt_of_le q1 g2.1)]; exact g2.2.1 q q1 q2⟩
  exact g1.grow ⟨fun _ _ => rfl, fun _ _ => rfl, fun _ _ => rfl, fun _ => rfl⟩ hq
/-- 'throw new NoSuchElementException("text")' -/
theorem lx_throwNW (hC : Cok X V A own cc nL) {adV : Nat → Nat} (hE : Env0 V adV A (xs X) (xs X).heap) (hl : (xl X).stackTraces = false) (ht : ∀ x ∈ (xc X).exceptionTable.toList, False) {cls text : String} {ik is ic i : Nat}
    (hcls : Bundle.fit cls = true) (hk : Cond.classLink own ik cls ∈ gw) (hini : Cond.initialized cls ∈ gw) (hs : strL[i]? = some (own, is, text)) (hgw : ∀ w ∈ (no_atS own ic cls 13 prog_36_method_4_code "java/lang/RuntimeException" ["java/lang/Exception"]).filter goodWord, w ∈ gw) (hng : ∀ w ∈ (no_atS own ic cls 13 prog_36_method_4_code "java/lang/RuntimeException" ["java/lang/Exception"]).filter (fun w => !goodWord w), w ∈ wdL)
    (hot : ∀ w ∈ Cond.classLink own ik cls :: Cond.initialized cls :: no_atS own ic cls 13 prog_36_method_4_code "java/lang/RuntimeException" ["java/lang/Exception"], vx_ot w = true)
    (d0 : decode cc pc = .ok (.new ik, 3)) (d3 : decode cc (pc + 3) = .ok (.dup, 1)) (d4 : decode cc (pc + 4) = .ok (.ldc_w is, 3)) (d7 : decode cc (pc + 7) = .ok (.invokespecial ic, 3)) (d10 : decode cc (pc + 10) = .ok (.athrow, 1))
    (hfr : 5 < fr) (hlo : wdt rest + 82 ≤ lo) : LX X V A fr lo c0 s0 (FM X V A inj) pc lv rest σ (some (.inr cls, pN σ 1 6)) := by
  intro out h1
  cases h1
  refine ⟨⟨Nat.le_add_right _ _, Nat.le_add_right _ _⟩, fun R h2 h3 h4 h5 H locs hid ls cells slots g1 g2 g3 g4 g5 => ?_⟩
  have e1 : cells + 1 = R.cells := by
    have h4' : nC σ + 1 = c0 + R.cells := h4
    omega
  have e2 : slots + 6 = R.slots := by
    have h5' : nS σ + 6 = s0 + R.slots := h5
    omega
  have hwd : ((rest.map (cv V.2.2)).map fun v => v.category).sum = wdt rest := wdt_cv V.2.2 rest
  refine no_throwSW hC.1 hC.2.1 hl hC.2.2.2.1 hcls (Y0 := "java/lang/RuntimeException") (names := ["java/lang/Exception"]) (ix := 13) (bytes := prog_36_method_4_code) (by decide +kernel) (by decide +kernel) (by decide +kernel) (by decide +kernel) (by decide +kernel) (by decide +kernel) (lx_words hC hk) (lx_words hC hini) (hE.2.2.1 i _ hs)
    (vx_hat (fun w hw => lx_words hC (hgw w hw)) hng (fun w hw => va_tabs (wdL_t w hw) rfl (hE.2.2.2.1 w hw))) hot hE.1 hE.2.1 g2 g3.1 d0 d3 d4 d7 d10 (fun x hx => (ht x hx).elim)
    (by rw [h2]; simpa using hfr) (by rw [hwd, h3]; simpa using hlo) (by omega) (by omega) hC.2.2.2.2.2.2.2 ?_ g2.2.2 (by omega) (by omega)
  intro t _ hz hq
  refine ⟨⟨rfl, hid, ?_⟩, Nat.le_trans g2.1 hz, fun q q1 q2 => by rw [hq q (Nat.lt_of_lt_of_le q1 g2.1)]; exact g2.2.1 q q1 q2⟩
  exact g1.grow ⟨fun _ _ => rfl, fun _ _ => rfl, fun _ _ => rfl, fun _ => rfl⟩ hq
/-- 'throw new NoSuchElementException("text")' -/
theorem lx_throwN (hC : Cok X V A own cc nL) {adV : Nat → Nat} (hE : Env0 V adV A (xs X) (xs X).heap) (hl : (xl X).stackTraces = false) (ht : ∀ x ∈ (xc X).exceptionTable.toList, False) {cls text : String} {ik is ic i : Nat}
    (hcls : Bundle.fit cls = true) (hk : Cond.classLink own ik cls ∈ gw) (hini : Cond.initialized cls ∈ gw) (hs : strL[i]? = some (own, is, text)) (hgw : ∀ w ∈ (no_atS own ic cls 13 prog_36_method_4_code "java/lang/RuntimeException" ["java/lang/Exception"]).filter goodWord, w ∈ gw) (hng : ∀ w ∈ (no_atS own ic cls 13 prog_36_method_4_code "java/lang/RuntimeException" ["java/lang/Exception"]).filter (fun w => !goodWord w), w ∈ wdL)
    (hot : ∀ w ∈ Cond.classLink own ik cls :: Cond.initialized cls :: no_atS own ic cls 13 prog_36_method_4_code "java/lang/RuntimeException" ["java/lang/Exception"], vx_ot w = true)
    (d0 : decode cc pc = .ok (.new ik, 3)) (d3 : decode cc (pc + 3) = .ok (.dup, 1)) (d4 : decode cc (pc + 4) = .ok (.ldc is, 2)) (d6 : decode cc (pc + 6) = .ok (.invokespecial ic, 3)) (d9 : decode cc (pc + 9) = .ok (.athrow, 1))
    (hfr : 5 < fr) (hlo : wdt rest + 82 ≤ lo) : LX X V A fr lo c0 s0 (FM X V A inj) pc lv rest σ (some (.inr cls, pN σ 1 6)) := by
  intro out h1
  cases h1
  refine ⟨⟨Nat.le_add_right _ _, Nat.le_add_right _ _⟩, fun R h2 h3 h4 h5 H locs hid ls cells slots g1 g2 g3 g4 g5 => ?_⟩
  have e1 : cells + 1 = R.cells := by
    have h4' : nC σ + 1 = c0 + R.cells := h4
    omega
  have e2 : slots + 6 = R.slots := by
    have h5' : nS σ + 6 = s0 + R.slots := h5
    omega
  have hwd : ((rest.map (cv V.2.2)).map fun v => v.category).sum = wdt rest := wdt_cv V.2.2 rest
  refine no_throwS hC.1 hC.2.1 hl hC.2.2.2.1 hcls (Y0 := "java/lang/RuntimeException") (names := ["java/lang/Exception"]) (ix := 13) (bytes := prog_36_method_4_code) (by decide +kernel) (by decide +kernel) (by decide +kernel) (by decide +kernel) (by decide +kernel) (by decide +kernel) (lx_words hC hk) (lx_words hC hini) (hE.2.2.1 i _ hs)
    (vx_hat (fun w hw => lx_words hC (hgw w hw)) hng (fun w hw => va_tabs (wdL_t w hw) rfl (hE.2.2.2.1 w hw))) hot hE.1 hE.2.1 g2 g3.1 d0 d3 d4 d6 d9 (fun x hx => (ht x hx).elim)
    (by rw [h2]; simpa using hfr) (by rw [hwd, h3]; simpa using hlo) (by omega) (by omega) hC.2.2.2.2.2.2.2 ?_ g2.2.2 (by omega) (by omega)
  intro t _ hz hq
  refine ⟨⟨rfl, hid, ?_⟩, Nat.le_trans g2.1 hz, fun q q1 q2 => by rw [hq q (Nat.lt_of_lt_of_le q1 g2.1)]; exact g2.2.1 q q1 q2⟩
  exact g1.grow ⟨fun _ _ => rfl, fun _ _ => rfl, fun _ _ => rfl, fun _ => rfl⟩ hq
end

/-! ===== calls ===== -/
def bindR {α β : Type} (x : Res β) (f : β → Mem → Res α) : Res α := match x with
  | none => none
  | some (.inl v, σ) => f v σ
  | some (.inr E, σ) => some (.inr E, σ)
theorem prc_blind {V : Vx} {hid adV : Nat → Nat} {sz : Nat} {σ : Mem} {as : List Value} : FrameBlind (Prc V hid adV sz σ as) := fun a U g mk q => by
  obtain ⟨q0, q1, q2, q3, q4⟩ := q
  exact ⟨q0, q1, q2, va_K.moved (u := U) (U := U.calling g mk a) (Vm.Alike.refl U.vm) q3, Env0.moved (u := U) (U := U.calling g mk a) (State.WarmedH.refl U) q4⟩
theorem prc_at {X : Cx} {V : Vx} {A : Nat → Prop} {own : String} {cc : ByteArray} {nL : Nat} (hC : Cok X V A own cc nL) {adV hid : Nat → Nat} (hE : Env0 V adV A (xs X) (xs X).heap) {H : Heap} {locs : List Loc} {σ : Mem} {as : List Value} (g1 : Rep V hid A σ H) (g2 : va_S A (xs X).heap H locs) :
    ∀ U : State, U.heap = H → (xs X).WarmedH U.vm → Prc V hid adV H.size σ as (as.map (cv V.2.2)).toArray U := by
  intro U hU hW
  have hA : ∀ q, H.size ≤ q → A q := fun q h => hC.2.2.2.2.2.2.1 q (Nat.le_trans g2.1 h)
  refine ⟨rfl, by rw [hU], by rw [hU]; exact g1.weaken (fun _ _ => trivial), va_K.moved hW.alike hC.2.2.2.2.2.1, ?_⟩
  have h1 := (hE.kept (H1 := H) (fun a q1 q2 => g2.2.1 a q1 q2)).moved hW
  rw [hU]
  exact h1.narrow (g1.free hA)
theorem callB_gw {X : Cx} {V : Vx} {A : Nat → Prop} {own : String} {cc : ByteArray} {nL : Nat} (hC : Cok X V A own cc nL) {R : Room} {index nLy fr' lo' mc ms n : Nat} {y : MethodName} {ccy : ByteArray} {ret : Option FieldType} (hw0 : Cond.code y ccy nLy ret ∈ gw) (hini : Cond.initialized y.cls ∈ gw) (hlink : Cond.methodLink own index y ∈ gw)
    (hd : y.cls ≠ "java/lang/invoke/MethodHandle" ∧ y.cls ≠ "java/lang/invoke/VarHandle" ∧ (parseMethodDescriptor y.desc).map (fun d => d.parameters.length) = some n) (hf : fr' + 1 ≤ R.frames) (hl : 8 + (nLy + 11) + lo' ≤ R.locals) :
    CallB R (xs X) (xa X) own index y ccy nLy ret (Cond.code y ccy nLy ret :: gw) { frames := fr', cells := mc, slots := ms, locals := lo' } mc ms n :=
  callB_of n hC.2.2.2.2.1 (fun w h => (List.mem_cons.mp h).elim (fun e => by rw [e]; exact gw_good _ hw0) (gw_good w)) rfl rfl rfl (lx_words hC hini) (lx_words hC hlink) hd ⟨hf, hl⟩
section
variable {X : Cx} {V : Vx} {A : Nat → Prop} {fr lo c0 s0 : Nat} {α β : Type} {inj : α → Option Value} {F : (α ⊕ String) × Mem → Room → State → Prop} {pc : Nat} {lv : List (Nat × Value)} {rest : List Value} {σ : Mem} {own : String} {cc : ByteArray} {nL : Nat}
/-- the run of a call, whichever it is -/
def RunOf (X : Cx) (V : Vx) (A : Nat → Prop) (fr lo : Nat) {β : Type} (y : MethodName) (w0 : Cond) (fr' lo' : Nat) (adV : Nat → Nat) (inb : β → Option Value) (as : List Value) (σ : Mem) (out0 : (β ⊕ String) × Mem) (pc : Nat) (lv : List (Nat × Value)) (st rest : List Value) : Prop :=
  ∀ (R : Room) (H : Heap) (locs : List Loc) (hid : Nat → Nat) (ls : Array Slot) (cells slots mc ms : Nat), R.frames = fr → R.locals = lo → Rep V hid A σ H → va_S A (xs X).heap H locs → lv_has ls (xc X).maxLocals (cvl V.2.2 lv) → cells + mc ≤ R.cells → slots + ms ≤ R.slots →
    vx_Met (xl X) y (w0 :: gw) { frames := fr', cells := mc, slots := ms, locals := lo' } (Prc V hid adV H.size σ as) (QC V (own1 V hid H.size) inb out0) (XC V (own1 V hid H.size) out0) mc ms (own1 V hid H.size) →
    vx_Run (xp X) (xl X) (xe X) R (xs X) (xm X) (xa X) (xb X) (xh X) (xc X) H locs cells slots mc ms (F0 (xm X) pc ls (st.map (cv V.2.2))) (rest.map (cv V.2.2)) (QC V (own1 V hid H.size) inb out0 (as.map (cv V.2.2)).toArray) (XC V (own1 V hid H.size) out0) (own1 V hid H.size)
theorem lx_callG {adV : Nat → Nat} (hC : Cok X V A own cc nL) {y : MethodName} {w0 : Cond} {fr' lo' : Nat} {inb : β → Option Value} {as st : List Value} {r0 : Res β} (hsat : Sat (xl X) y w0 fr' lo' inb as σ r0) (hrun : ∀ out0, RunOf X V A fr lo y w0 fr' lo' adV inb as σ out0 pc lv st rest) {f : β → Mem → Res α}
    (kx : ∀ E σ1, r0 = some (.inr E, σ1) → ∀ (R : Room) (H : Heap) (locs : List Loc) (hid : Nat → Nat) (ls : Array Slot) (q : Addr) (ce : Cell), R.frames = fr → R.locals = lo → nC σ1 = c0 + R.cells → nS σ1 = s0 + R.slots → Rep V hid A σ1 H → va_S A (xs X).heap H locs → lv_has ls (xc X).maxLocals (cvl V.2.2 lv) → H[q]? = some ce → ce.vm = .none → (xs X).vm.findClass E = some ce.cls →
      vx_W (xp X) (xl X) (xe X) R (xs X) (xm X) (xa X) (xb X) (xh X) (xc X) H locs R.cells R.slots (F (.inr E, σ1) R) (F0 (xm X) pc ls (rest.map (cv V.2.2))) q)
    (k : ∀ v σ1, r0 = some (.inl v, σ1) → LX X V A fr lo c0 s0 F (pc + 3) lv ((inb v).toList ++ rest) σ1 (f v σ1)) : LX X V A fr lo c0 s0 F pc lv st σ (bindR r0 f) := by
  intro out h1
  cases hr0 : r0 with
  | none => rw [hr0] at h1; cases h1
  | some out0 =>
    obtain ⟨o, σ1⟩ := out0
    obtain ⟨hm0, S⟩ := hsat _ hr0
    dsimp only at hm0 S
    obtain ⟨mc, emc⟩ : ∃ mc, nC σ1 = nC σ + mc := ⟨nC σ1 - nC σ, by omega⟩
    obtain ⟨ms, ems⟩ : ∃ ms, nS σ1 = nS σ + ms := ⟨nS σ1 - nS σ, by omega⟩
    cases o with
    | inl v =>
      have h1' : f v σ1 = some out := by rw [hr0] at h1; exact h1
      obtain ⟨hm, K⟩ := k v σ1 hr0 out h1'
      refine ⟨⟨Nat.le_trans hm0.1 hm.1, Nat.le_trans hm0.2 hm.2⟩, fun R h2 h3 h4 h5 H locs hid ls cells slots g1 g2 g3 g4 g5 => ?_⟩
      have hA : ∀ q, H.size ≤ q → A q := fun q h => hC.2.2.2.2.2.2.1 q (Nat.le_trans g2.1 h)
      have hr := hrun _ R H locs hid ls cells slots mc ms h2 h3 g1 g2 g3 (by omega) (by omega) (S V hid adV H.size mc ms emc ems)
      intro T hT Xs
      rcases hr T hT Xs with ⟨v', st₀, t, T', L, h0, X', hL, e1, e2, ⟨⟨v1, hv1, ho, hid1, hR1⟩, hF⟩, st⟩ | ⟨q, st₀, t, T', L, E, ce, h0, X', hL, e1, e2, ⟨⟨hx, -⟩, -⟩, -⟩
      · cases hv1
        cases ho
        obtain ⟨k1, k2, k3⟩ := vx_keep h0 e1 g2 (fun q _ z => g1.free hA q z) (g1.free hA) hL hF
        obtain ⟨t2, a1, b1⟩ := K R h2 h3 h4 h5 T'.heap (locs ++ L) hid1 ls (cells + mc) (slots + ms) (by rw [e1]; exact hR1.weaken (g1.free hA)) k3 g3 (by omega) (by omega) T' rfl X'
        refine ⟨t2, st t2 ?_, b1⟩
        have e9 : ((inb v).map (cv V.2.2)).toList ++ rest.map (cv V.2.2) = ((inb v).toList ++ rest).map (cv V.2.2) := by cases inb v <;> rfl
        show Steps _ _ _ (T'.setTop { F0 (xm X) pc ls _ with pc := pc + 3, stack := ((inb v).map (cv V.2.2)).toList ++ rest.map (cv V.2.2) }) t2
        rw [e9]
        exact a1
      · cases hx
    | inr E =>
      have h1' : out = (.inr E, σ1) := by rw [hr0] at h1; exact (Option.some.inj h1).symm
      subst h1'
      refine ⟨hm0, fun R h2 h3 h4 h5 H locs hid ls cells slots g1 g2 g3 g4 g5 => ?_⟩
      have hA : ∀ q, H.size ≤ q → A q := fun q h => hC.2.2.2.2.2.2.1 q (Nat.le_trans g2.1 h)
      dsimp only at h4 h5
      have hr := hrun _ R H locs hid ls cells slots mc ms h2 h3 g1 g2 g3 (by omega) (by omega) (S V hid adV H.size mc ms emc ems)
      intro T hT Xs
      rcases hr T hT Xs with ⟨v', st₀, t, T', L, h0, X', hL, e1, e2, ⟨⟨v1, hv1, ho, hid1, hR1⟩, hF⟩, st⟩ | ⟨q, st₀, t, T', L, E', ce, h0, X', hL, e1, e2, ⟨⟨hx, hid1, hR1⟩, hF⟩, hce, hcv, hcl, st⟩
      · cases hv1
      · cases hx
        obtain ⟨k1, k2, k3⟩ := vx_keep h0 e1 g2 (fun q _ z => g1.free hA q z) (g1.free hA) hL hF
        have ec : cells + mc = R.cells := by omega
        have es : slots + ms = R.slots := by omega
        rw [ec, es] at X'
        obtain ⟨t2, a1, b1⟩ := kx E σ1 hr0 R T'.heap (locs ++ L) hid1 ls q ce h2 h3 h4 h5 (by rw [e1]; exact hR1.weaken (g1.free hA)) k3 g3 (by rw [e1]; exact hce) hcv hcl T' rfl X'
        exact ⟨t2, st.trans a1, b1⟩
theorem lx_callX {adV : Nat → Nat} (hC : Cok X V A own cc nL) (ht : ∀ x ∈ (xc X).exceptionTable.toList, False) {y : MethodName} {w0 : Cond} {fr' lo' : Nat} {inb : β → Option Value} {as st : List Value} {r0 : Res β} (hsat : Sat (xl X) y w0 fr' lo' inb as σ r0) (hrun : ∀ out0, RunOf X V A fr lo y w0 fr' lo' adV inb as σ out0 pc lv st rest) {f : β → Mem → Res α}
    (k : ∀ v σ1, r0 = some (.inl v, σ1) → LX X V A fr lo c0 s0 (FM X V A inj) (pc + 3) lv ((inb v).toList ++ rest) σ1 (f v σ1)) : LX X V A fr lo c0 s0 (FM X V A inj) pc lv st σ (bindR r0 f) := by
  refine lx_callG hC hsat hrun (fun E σ1 _ R H locs hid ls q ce h2 h3 h4 h5 g1 g2 g3 hce hcv hcl => ?_) k
  exact vx_out (fun x hx => (ht x hx).elim) hC.2.2.2.2.2.2.2 hce hcv hcl (fun t ht _ => ⟨⟨rfl, hid, by rw [ht]; exact g1⟩, g2.F ht⟩) g2.2.2 (Nat.le_refl _) (Nat.le_refl _)
theorem run_S {adV : Nat → Nat} (hC : Cok X V A own cc nL) (hE : Env0 V adV A (xs X) (xs X).heap) {y : MethodName} {ccy : ByteArray} {nLy : Nat} {ret : Option FieldType} {fr' lo' index : Nat} {inb : β → Option Value} {as : List Value} (hw0 : Cond.code y ccy nLy ret ∈ gw) (hini : Cond.initialized y.cls ∈ gw) (hlink : Cond.methodLink own index y ∈ gw) (hst : Cond.static y ∈ gw)
    (hd : y.cls ≠ "java/lang/invoke/MethodHandle" ∧ y.cls ≠ "java/lang/invoke/VarHandle" ∧ (parseMethodDescriptor y.desc).map (fun d => d.parameters.length) = some as.length) (hf : fr' + 1 ≤ fr) (hl : 8 + (nLy + 11) + lo' ≤ lo) (hw : wdt rest ≤ 8) (hdg : decode cc pc = .ok (.invokestatic index, 3)) {st : List Value} (hstk : st = as.reverse ++ rest) :
    ∀ out0, RunOf X V A fr lo y (.code y ccy nLy ret) fr' lo' adV inb as σ out0 pc lv st rest := by
  subst hstk
  intro out0 R H locs hid ls cells slots mc ms h2 h3 g1 g2 g3 hc hs hM
  exact vx_runS ⟨hC.1, hC.2.1, hC.2.2.1, hC.2.2.2.1, hC.2.2.2.2.1⟩ hM ⟨callB_gw (R := R) hC hw0 hini hlink hd (by omega) (by omega), lx_words hC hst⟩ ⟨prc_blind, prc_at hC hE g1 g2⟩ rfl (by simp) (by show ls.size = nL; rw [← hC.2.2.1]; exact g3.1) (by show List.map _ _ = _; rw [List.map_append, List.map_reverse]) (by show 2 * 0 + _ ≤ 8; rw [show ((rest.map (cv V.2.2)).map fun v => v.category).sum = wdt rest from wdt_cv _ _]; omega) hdg ⟨hc, hs⟩
theorem run_V {adV : Nat → Nat} (hC : Cok X V A own cc nL) (hE : Env0 V adV A (xs X) (xs X).heap) {y : MethodName} {ccy : ByteArray} {nLy : Nat} {ret : Option FieldType} {fr' lo' index c x N : Nat} {C : String} {T : u_T} (he : (c, 1, x, N) ∈ layL) (hcl : clv[x]? = some (C, T, N)) {inb : β → Option Value} {as : List Value} (hw0 : Cond.code y ccy nLy ret ∈ gw) (hini : Cond.initialized y.cls ∈ gw) (hlink : Cond.methodLink own index y ∈ gw) (hin : Cond.instanceMethod y ∈ gw) (hse : Cond.selects C y y ∈ gw)
    (hd : y.cls ≠ "java/lang/invoke/MethodHandle" ∧ y.cls ≠ "java/lang/invoke/VarHandle" ∧ (parseMethodDescriptor y.desc).map (fun d => d.parameters.length) = some as.length) (hf : fr' + 1 ≤ fr) (hl : 8 + (nLy + 11) + lo' ≤ lo) (hw : wdt rest ≤ 8) (hdg : decode cc pc = .ok (.invokevirtual index, 3)) {st : List Value} (hstk : st = as.reverse ++ .ref c :: rest) :
    ∀ out0, RunOf X V A fr lo y (.code y ccy nLy ret) fr' lo' adV inb (.ref c :: as) σ out0 pc lv st rest := by
  subst hstk
  intro out0 R H locs hid ls cells slots mc ms h2 h3 g1 g2 g3 hc hs hM
  have hrc : ∃ cellB : Cell, H[V.2.2 c]? = some cellB ∧ cellB.vm.isStatics = false ∧ (xs X).vm.findClass C = some cellB.cls := by
    obtain ⟨cell, q1, q2, q3, -⟩ := g1.ob he
    exact ⟨cell, q1, by rw [q3]; rfl, by rw [q2]; exact (hC.2.2.2.2.2.1.1 x _ hcl).2.1⟩
  exact vx_runV (As := as.map (cv V.2.2)) (b := V.2.2 c) ⟨hC.1, hC.2.1, hC.2.2.1, hC.2.2.2.1, hC.2.2.2.2.1⟩ hM ⟨callB_gw (R := R) hC hw0 hini hlink hd (by omega) (by omega), lx_words hC hin, lx_words hC hse⟩ ⟨prc_blind, hrc, prc_at hC hE g1 g2⟩ rfl (by simp) (by show ls.size = nL; rw [← hC.2.2.1]; exact g3.1) (by show List.map _ _ = _; rw [List.map_append, List.map_reverse]; rfl) (by show 2 * 0 + _ ≤ 8; rw [show ((rest.map (cv V.2.2)).map fun v => v.category).sum = wdt rest from wdt_cv _ _]; omega) hdg ⟨hc, hs⟩
end
/-! ===== loops ===== -/
def lp {α β : Type} (body : (α → Res β) → α → Res β) : Nat → α → Res β
  | 0, _ => none
  | n + 1, a => body (lp body n) a
theorem lx_lp {X : Cx} {V : Vx} {A : Nat → Prop} {fr lo c0 s0 : Nat} {α β : Type} {F : (β ⊕ String) × Mem → Room → State → Prop} {pc : Nat} {lv : α → List (Nat × Value)} {st : α → List Value} {sg : α → Mem} {body : (α → Res β) → α → Res β}
    (h : ∀ kf : α → Res β, (∀ a, LX X V A fr lo c0 s0 F pc (lv a) (st a) (sg a) (kf a)) → ∀ a, LX X V A fr lo c0 s0 F pc (lv a) (st a) (sg a) (body kf a)) : ∀ n a, LX X V A fr lo c0 s0 F pc (lv a) (st a) (sg a) (lp body n a)
  | 0, _ => lx_none
  | n + 1, a => h (lp body n) (lx_lp h n) a
