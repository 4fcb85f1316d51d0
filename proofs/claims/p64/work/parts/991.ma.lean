/-! ===== two dimensions of ints: a table of five rows of twenty-four ===== -/
def mr_o (cA : ClassId) (q i : Nat) : Cell := arrV cA 5 (fun j => if j < i then .ref (q + 1 + j) else .null)
def mr_r (cI : ClassId) : Cell := arrV cI 24 (fun _ => .int 0)
def mr (T : State) (cA cI : ClassId) : Nat → State
  | 0 => T.pushCell (mr_o cA T.heap.size 0)
  | i + 1 => ((mr T cA cI i).pushCell (mr_r cI)).setCell T.heap.size (mr_o cA T.heap.size (i + 1))
theorem mr_set (cA : ClassId) (q i : Nat) : (mr_o cA q i).setSlot i (.ref (q + 1 + i)) = mr_o cA q (i + 1) := by
  unfold mr_o
  rw [arrV_store]
  congr 1
  funext j
  unfold updV
  by_cases h : j = i
  · subst h
    rw [if_pos rfl, if_pos (Nat.lt_succ_self _)]
  · rw [if_neg h]
    show (if j < i then Value.ref (q + 1 + j) else Value.null) = if j < i + 1 then Value.ref (q + 1 + j) else Value.null
    by_cases h2 : j < i
    · rw [if_pos h2, if_pos (by omega)]
    · rw [if_neg h2, if_neg (by omega)]
theorem mr_osz (cA : ClassId) (q i : Nat) : (mr_o cA q i).slots.size = 5 := arrV_size _ _ _
theorem mr_rsz (cI : ClassId) : (mr_r cI).slots.size = 24 := arrV_size _ _ _
theorem mr_facts (T : State) (cA cI : ClassId) : ∀ i, (mr T cA cI i).heap.size = T.heap.size + 1 + i ∧ (mr T cA cI i).heap[T.heap.size]? = some (mr_o cA T.heap.size i) ∧ (mr T cA cI i).vm = T.vm ∧ (mr T cA cI i).slotsUsed = T.slotsUsed + 5 + i * 24
  | 0 => ⟨by simp [mr], by simp [mr], rfl, by simp [mr, mr_osz]⟩
  | i + 1 => by
    obtain ⟨a, b, d, u⟩ := mr_facts T cA cI i
    have hlt : T.heap.size < (mr T cA cI i).heap.size := by omega
    have hb' : ((mr T cA cI i).pushCell (mr_r cI)).heap[T.heap.size]? = some (mr_o cA T.heap.size i) := by rw [State.heap_pushCell_of_lt (h := hlt)]; exact b
    refine ⟨?_, State.heap_setCell_self hb', by simp [mr, d], ?_⟩
    · simp [mr, State.setCell, a]; omega
    · simp [mr, u, mr_rsz]; omega
theorem mr_old (T : State) (cA cI : ClassId) {q : Nat} (hq : q < T.heap.size) : ∀ i, (mr T cA cI i).heap[q]? = T.heap[q]?
  | 0 => State.heap_pushCell_of_lt _ _ hq
  | i + 1 => by
    have f1 := (mr_facts T cA cI i).1
    have hlt : q < (mr T cA cI i).heap.size := by omega
    show (((mr T cA cI i).pushCell (mr_r cI)).setCell T.heap.size _).heap[q]? = _
    rw [State.heap_setCell_other (Nat.ne_of_gt hq), State.heap_pushCell_of_lt (h := hlt)]
    exact mr_old T cA cI hq i
theorem mr_rows (T : State) (cA cI : ClassId) : ∀ i j, j < i → (mr T cA cI i).heap[T.heap.size + 1 + j]? = some (mr_r cI)
  | 0, _, h => absurd h (Nat.not_lt_zero _)
  | i + 1, j, h => by
    have f1 := (mr_facts T cA cI i).1
    show (((mr T cA cI i).pushCell (mr_r cI)).setCell T.heap.size _).heap[T.heap.size + 1 + j]? = _
    rw [State.heap_setCell_other (show T.heap.size ≠ T.heap.size + 1 + j by omega)]
    by_cases hj : j < i
    · have hlt : T.heap.size + 1 + j < (mr T cA cI i).heap.size := by omega
      rw [State.heap_pushCell_of_lt (h := hlt)]
      exact mr_rows T cA cI i j hj
    · have e : j = i := by omega
      subst e
      rw [← f1]
      exact State.heap_pushCell_size _ _
theorem mr_top (T : State) (f : JFrame) (cA cI : ClassId) : ∀ i, mr (T.setTop f) cA cI i = (mr T cA cI i).setTop f
  | 0 => rfl
  | i + 1 => by simp only [mr, mr_top T f cA cI i, State.heap_setTop, State.pushCell_setTop, State.setCell_setTop]
section
variable {p : Program} {l : Launch} {e : Env} {R : Room} {s : State} {m : MethodId} {args : Array Value} {below : List Frame} {meth : Method} {c : Code} {H : Heap} {locs : List Loc} {cells slots : Nat} {Q : State → Prop}
theorem mr_stand {T : State} (X : Stand p l e R s m args below meth c T locs cells slots) (cA cI : ClassId) : ∀ i, Stand p l e R s m args below meth c (mr T cA cI i) (locs ++ (List.range i).map fun j => ⟨T.heap.size, j⟩) (cells + 1 + i) (slots + 5 + i * 24)
  | 0 => by
    have h := X.pushed (mr_o cA T.heap.size 0)
    rw [mr_osz] at h
    simpa [mr] using h
  | i + 1 => by
    have Xi := mr_stand X cA cI i
    obtain ⟨f1, f2, f3, f4⟩ := mr_facts T cA cI i
    have hlt0 : T.heap.size < (mr T cA cI i).heap.size := by omega
    have hcell : ((mr T cA cI i).pushCell (mr_r cI)).heap[T.heap.size]? = some (mr_o cA T.heap.size i) := by rw [State.heap_pushCell_of_lt (h := hlt0)]; exact f2
    have h := (Xi.pushed (mr_r cI)).stored hcell i (.ref (T.heap.size + 1 + i))
    rw [mr_set, mr_rsz] at h
    have e2 : (locs ++ (List.range (i + 1)).map fun j => (⟨T.heap.size, j⟩ : Loc)) = (locs ++ (List.range i).map fun j => (⟨T.heap.size, j⟩ : Loc)) ++ [⟨T.heap.size, i⟩] := by simp [List.range_succ, List.append_assoc]
    have e3 : slots + 5 + (i + 1) * 24 = slots + 5 + i * 24 + 24 := by omega
    rw [e2, e3]
    exact h
end
section
variable {E : CtlPost} {e : Env} {d : Bool} {acts : List Action} {s : State}
theorem mr_new {c comp : ClassId} {k : Class} {type : FieldType} {len : Nat} {init : Value} (hk : s.vm.classes[c]? = some k) (hkind : k.kind = .array comp type) (hlimit : ¬ len > e.platform.arrayLengthLimit) (hheap : ¬ len * componentBytes type > e.platform.maxHeapBytes) (hfit : fits type init = true) (hdef : init.isDefault = true) {Q : Addr → Pre} (h1 : s.heap.size < e.platform.maxCells) (h2 : s.slotsUsed + len ≤ e.platform.maxSlots)
    (hq : Q s.heap.size d acts (s.pushCell (arrV c len (fun _ => init)))) : wp (Jvm.newArray c len init) Q E e d acts s := by
  rw [← arrV_new] at hq
  have hfits : ∀ i v, (Array.replicate len init)[i]? = some v → s.fitsSlot c .none i v = true := by
    intro i v hv
    simp only [Array.getElem?_replicate] at hv
    split at hv
    · cases hv; simp [State.fitsSlot, State.slotType?, hk, hkind, hfit]
    · cases hv
  have hda : allocActs (Array.replicate len init) s.heap.size acts = acts := by
    have hall : ((Array.replicate len init).all (·.isDefault)) = true := by
      rw [Array.all_replicate]; split <;> simp [hdef]
    unfold allocActs; rw [if_pos hall]
  simp only [Jvm.newArray, Jvm.arrayFits, wp_bind', W.ask, W.ite, hlimit, if_false, wp_pure', W.theClass, hk, hkind, hheap, W.alloc, W.stop, Option.some.injEq, exists_eq_left', Array.size_replicate, hda]
  rw [if_neg (by omega)]
  exact ⟨h1, h2, hfits, hq⟩
theorem mr_wp1 {cI c0 : ClassId} {kI : Class} (hk : s.vm.classes[cI]? = some kI) (hkind : kI.kind = .array c0 .int) (hl : ¬ 24 > e.platform.arrayLengthLimit) (hh : ¬ 24 * 4 > e.platform.maxHeapBytes) (h1 : s.heap.size < e.platform.maxCells) (h2 : s.slotsUsed + 24 ≤ e.platform.maxSlots) {Q : Addr → Pre} (hq : Q s.heap.size d acts (s.pushCell (mr_r cI))) : wp (multianewarray.make cI [24]) Q E e d acts s := by
  rw [multianewarray.make]
  simp only [wp_bind', W.ite, show ¬ ((24 : Int32) < 0) from by decide, if_false, wp_pure', W.theClass, hk, hkind, Option.some.injEq, exists_eq_left']
  exact mr_new hk hkind hl hh rfl rfl h1 h2 hq
theorem mr_wp2 {cA cI c0 : ClassId} {kA kI : Class} (hkA : s.vm.classes[cA]? = some kA) (hkindA : kA.kind = .array cI (.array .int)) (hkI : s.vm.classes[cI]? = some kI) (hkindI : kI.kind = .array c0 .int) (hl : ¬ 24 > e.platform.arrayLengthLimit) (hh : ¬ 24 * 4 > e.platform.maxHeapBytes) (h1 : s.heap.size + 6 ≤ e.platform.maxCells) (h2 : s.slotsUsed + 125 ≤ e.platform.maxSlots) {Q : Addr → Pre} (hq : ∀ d' acts', Q s.heap.size d' acts' (mr s cA cI 5)) : wp (multianewarray.make cA [5, 24]) Q E e d acts s := by
  have hfind : (([24] : List Int32).find? (· < 0)) = none := by decide
  have h5 : (5 : Int32).toNatClampNeg = 5 := by decide
  rw [multianewarray.make]
  simp only [wp_bind', W.ite, show ¬ ((5 : Int32) < 0) from by decide, if_false, wp_pure', W.theClass, hkA, hkindA, Option.some.injEq, exists_eq_left', h5]
  refine mr_new hkA hkindA (by omega) (by show ¬ 5 * 4 > _; omega) rfl rfl (by omega) (by omega) ?_
  simp only [hfind]
  rw [ite_self, wp_bind', Std.Legacy.Range.forIn_eq_forIn_range']
  have hsz : ([:5] : Std.Legacy.Range).size = 5 := by simp [Std.Legacy.Range.size]
  rw [hsz]
  show wp (forIn (List.range' 0 5 1) PUnit.unit _) _ E e d acts _
  refine wp_forIn_inv (fun rest s' => ∃ i, i ≤ 5 ∧ rest = List.range' i (5 - i) ∧ s' = mr s cA cI i) _ _ ⟨0, Nat.zero_le _, rfl, rfl⟩ ?_ ?_
  · rintro x rest s' d' acts' Q' ⟨i, hi, hl2, rfl⟩ hnext
    have hlt : i < 5 := by
      rcases Nat.lt_or_ge i 5 with h | h
      · exact h
      · rw [show 5 - i = 0 from by omega] at hl2; simp at hl2
    obtain ⟨rfl, hrest⟩ : x = i ∧ rest = List.range' (i + 1) (5 - (i + 1)) := by
      rw [show 5 - i = (5 - (i + 1)) + 1 from by omega, List.range'_succ] at hl2
      exact ⟨(List.cons.inj hl2).1, (List.cons.inj hl2).2⟩
    obtain ⟨f1, f2, f3, f4⟩ := mr_facts s cA cI x
    simp only [wp_bind']
    refine mr_wp1 (by rw [f3]; exact hkI) hkindI hl hh (by rw [f1]; omega) (by rw [f4]; omega) ?_
    have hlt0 : s.heap.size < (mr s cA cI x).heap.size := by rw [f1]; omega
    simp only [wp_bind', W.writeLoc, wp_pure']
    refine ⟨mr_o cA s.heap.size x, by rw [State.heap_pushCell_of_lt (h := hlt0)]; exact f2, fun h => (by cases h), by rw [mr_osz]; exact hlt, ?_, hnext _ _ _ ⟨x + 1, hlt, hrest, ?_⟩⟩
    · show State.fitsSlot _ cA .none x (.ref _) = true
      simp [State.fitsSlot, State.slotType?, f3, hkA, hkindA, fits]
    · rw [f1, mr_set]; rfl
  · rintro s' d' acts' ⟨i, hi, hl2, rfl⟩
    have hiN : i = 5 := by
      rcases Nat.lt_or_ge i 5 with h | h
      · rw [show 5 - i = (5 - (i + 1)) + 1 from by omega, List.range'_succ] at hl2; cases hl2
      · omega
    subst hiN
    simp only [wp_pure']
    exact hq _ _
end
section
variable {p : Program} {l : Launch} {e : Env} {R : Room} {s : State} {m : MethodId} {args : Array Value} {below : List Frame} {meth : Method} {c : Code} {H : Heap} {locs : List Loc} {cells slots : Nat} {Q : State → Prop}
theorem mr_W {cc : ByteArray} (hexec : p.tables.exec = Jvm.exec) (hb : c.code = cc) {own : String} {index : Nat} (hown : s.vm.findClass own = some m.cls) (hclink : (Cond.classLink own index "[[I").before args s = true) {cA cI c0 : ClassId} {kA kI : Class} (hfA : s.vm.findClass "[[I" = some cA) (hkA : s.vm.classes[cA]? = some kA) (hkindA : kA.kind = .array cI (.array .int)) (hkI : s.vm.classes[cI]? = some kI) (hkindI : kI.kind = .array c0 .int)
    {g : JFrame} (hg : g.method = m) (hdg : decode cc g.pc = .ok (.multianewarray index 2, 4)) {rest : List Value} (hstack : g.stack = .int 24 :: .int 5 :: rest) (hcells : cells + 6 ≤ R.cells) (hslots : slots + 125 ≤ R.slots)
    (kk : ∀ H1 : Heap, H1.size = H.size + 6 → (∀ q, q < H.size → H1[q]? = H[q]?) → H1[H.size]? = some (mr_o cA H.size 5) → (∀ j, j < 5 → H1[H.size + 1 + j]? = some (mr_r cI)) → W p l e R s m args below meth c H1 (locs ++ (List.range 5).map fun j => ⟨H.size, j⟩) (cells + 6) (slots + 125) Q { g with pc := g.pc + 4, stack := .ref H.size :: rest }) : W p l e R s m args below meth c H locs cells slots Q g := by
  intro T hT X
  subst hT; subst hb; subst hg
  have hpl : e.platform.magicAccessors = ({} : Platform).magicAccessors := by rw [X.admits.platform]
  obtain ⟨c1, hfc, hcl⟩ := Cond.classLink_spec hown hclink e.platform hpl
  cases hfA.symm.trans hfc
  obtain ⟨hg₁, hwarm₁, hready₁⟩ := State.classEntry (e := e) X.warmed hcl
  generalize T.vm.noted g.method.cls index (.cls cA) = vm₁ at hg₁ hwarm₁ hready₁
  have hal : s.vm.Alike vm₁ := hwarm₁.alike
  obtain ⟨kA₁, hkA₁, heA⟩ := hal.2.2 _ _ hkA
  obtain ⟨kI₁, hkI₁, heI⟩ := hal.2.2 _ _ hkI
  have X₁ := X.noted hwarm₁
  have XF := mr_stand X₁ cA cI 5
  obtain ⟨hr1, hr2⟩ := X.roomAbove (a := 6) (b := 125) hcells hslots
  obtain ⟨f1, f2, f3, f4⟩ := mr_facts (T.setVm vm₁) cA cI 5
  obtain ⟨t, a1, b1⟩ := kk (mr (T.setVm vm₁) cA cI 5).heap f1 (fun q hq => mr_old (T.setVm vm₁) cA cI hq 5) f2 (fun j hj => mr_rows (T.setVm vm₁) cA cI 5 j hj) (mr (T.setVm vm₁) cA cI 5) rfl XF
  refine ⟨t, ?_, b1⟩
  have hl : ¬ 24 > e.platform.arrayLengthLimit := by rw [Launch.admits_arrayLengthLimit X.admits]; omega
  have hh : ¬ 24 * 4 > e.platform.maxHeapBytes := by rw [Launch.admits_maxHeapBytes X.admits]; omega
  jvm_step X.here [hexec, hdg]
  simp only [multianewarray.sem, wp_bind', W.resolveClassAt_links (State.method?_setTop g X.here.top) hg₁]
  rw [W.popN, if_neg (by decide)]
  refine ⟨g, State.topJava?_setTop' (s := T.setVm vm₁) g X.here.top, [.int 5, .int 24], rest, rfl, hstack, ?_⟩
  simp only [List.mapM_cons, List.mapM_nil, wp_bind', wp_pure']
  refine mr_wp2 (kA := kA₁) (kI := kI₁) (cI := cI) (c0 := c0) hkA₁ (by rw [heA]; exact hkindA) hkI₁ (by rw [heI]; exact hkindI) hl hh (by show T.heap.size + 6 ≤ _; omega) (by show T.slotsUsed + 125 ≤ _; omega) (fun d' acts' => ?_)
  have eS : ((T.setTop g).setVm vm₁).setTop { g with stack := rest } = (T.setVm vm₁).setTop { g with stack := rest } := by
    show ((T.setVm vm₁).setTop g).setTop _ = _
    rw [State.setTop_setTop]
  rw [eS, mr_top]
  simp only [wp_bind', W.mark, W.pushRef, State.topJava?_setTop' _ XF.here.top, Option.some.injEq, exists_eq_left', State.setTop_setTop, State.heap_setTop]
  intro acts
  simp [jvm, XF.here.top]
  exact a1
end
