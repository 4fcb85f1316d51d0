/-! ===== the law's wrappers: what they answer ===== -/
def wJ (L : List String) (r : Res Int32) : Res Int64 := bindC r (fun v s => some (.inl v.toInt64, s)) (cd L 1)
def wZ (L : List String) (r : Res Int32) : Res Int64 := bindC r (fun v s => if v = 0 then some (.inl 0, s) else some (.inl 1, s)) (cd L 1)
theorem mn_C {α β : Type} {σ : Mem} {x : Res β} {f : β → Mem → Res α} {g : String → Option α} (h1 : Mn σ x) (h2 : ∀ v σ1, Mn σ1 (f v σ1)) : Mn σ (bindC x f g) := by
  intro out h
  cases x with
  | none => cases h
  | some o =>
    obtain ⟨o, σ1⟩ := o
    have h3 := h1 _ rfl
    cases o with
    | inl v =>
      have h4 := h2 v σ1 out h
      exact ⟨Nat.le_trans h3.1 h4.1, Nat.le_trans h3.2 h4.2⟩
    | inr E =>
      have h : (g E).map (fun u => (Sum.inl u, σ1)) = some out := h
      cases hg : g E with
      | none => rw [hg] at h; cases h
      | some u => rw [hg] at h; cases h; exact h3
theorem mn_wJ {L : List String} {σ : Mem} {r : Res Int32} (h : Mn σ r) : Mn σ (wJ L r) := mn_C h fun v s => mn_some
theorem mn_wZ {L : List String} {σ : Mem} {r : Res Int32} (h : Mn σ r) : Mn σ (wZ L r) := mn_C h fun v s => mn_if mn_some mn_some
theorem nt_C {α β : Type} {x : Res β} {f : β → Mem → Res α} {g : String → Option α} (h2 : ∀ v σ1, nt (f v σ1)) : nt (bindC x f g) := by
  intro E σ2 h
  cases x with
  | none => cases h
  | some o =>
    obtain ⟨o, σ1⟩ := o
    cases o with
    | inl v => exact h2 v σ1 E σ2 h
    | inr E' =>
      have h : (g E').map (fun u => ((Sum.inl u : α ⊕ String), σ1)) = some (.inr E, σ2) := h
      cases hg : g E' with
      | none => rw [hg] at h; cases h
      | some u => rw [hg] at h; cases h
theorem nt_wJ {L : List String} {r : Res Int32} : nt (wJ L r) := nt_C fun v s E σ h => by cases h
theorem nt_wZ {L : List String} {r : Res Int32} : nt (wZ L r) := nt_C fun v s E σ h => by
  by_cases q : v = 0
  · rw [if_pos q] at h; cases h
  · rw [if_neg q] at h; cases h
theorem wk17 : Cond.constantLong RL 17 (-4000000000000000001) ∈ gw := gwt3 (List.mem_of_getElem? (i := 77) rfl) (by decide +kernel)
theorem wk21 : Cond.constantLong RL 21 (-4000000000000000002) ∈ gw := gwt3 (List.mem_of_getElem? (i := 78) rfl) (by decide +kernel)
theorem wk29 : Cond.constantLong RL 29 (-4000000000000000003) ∈ gw := gwt3 (List.mem_of_getElem? (i := 107) rfl) (by decide +kernel)
theorem wk249 : Cond.constantLong RL 249 (17) ∈ gw := gwt3 (List.mem_of_getElem? (i := 149) rfl) (by decide +kernel)
theorem wk251 : Cond.constantLong RL 251 (3) ∈ gw := gwt3 (List.mem_of_getElem? (i := 150) rfl) (by decide +kernel)
theorem wk253 : Cond.constantLong RL 253 (5) ∈ gw := gwt3 (List.mem_of_getElem? (i := 155) rfl) (by decide +kernel)
theorem wk255 : Cond.constantLong RL 255 (7) ∈ gw := gwt3 (List.mem_of_getElem? (i := 160) rfl) (by decide +kernel)
theorem wk257 : Cond.constantLong RL 257 (11) ∈ gw := gwt3 (List.mem_of_getElem? (i := 165) rfl) (by decide +kernel)
theorem wk262 : Cond.constantLong RL 262 (31) ∈ gw := gwt4 (List.mem_of_getElem? (i := 230) rfl) (by decide +kernel)
theorem wk274 : Cond.constantLong RL 274 (1000) ∈ gw := gwt5 (List.mem_of_getElem? (i := 67) rfl) (by decide +kernel)
theorem wlE13 : Cond.classLink RL 13 "java/lang/IllegalArgumentException" ∈ gw := gwt2 (List.mem_of_getElem? (i := 45) rfl) (by decide +kernel)
theorem wcE13 : Cond.castable "java/lang/IllegalArgumentException" "java/lang/IllegalArgumentException" ∈ wdL := by decide +kernel
theorem wlE19 : Cond.classLink RL 19 "java/lang/IllegalStateException" ∈ gw := gwt2 (List.mem_of_getElem? (i := 46) rfl) (by decide +kernel)
theorem wcE19 : Cond.castable "java/lang/IllegalStateException" "java/lang/IllegalStateException" ∈ wdL := by decide +kernel
theorem wlE27 : Cond.classLink RL 27 "java/lang/IndexOutOfBoundsException" ∈ gw := gwt3 (List.mem_of_getElem? (i := 82) rfl) (by decide +kernel)
theorem wcE27 : Cond.castable "java/lang/IndexOutOfBoundsException" "java/lang/IndexOutOfBoundsException" ∈ wdL := by decide +kernel
theorem wlE40 : Cond.classLink RL 40 "java/util/NoSuchElementException" ∈ gw := gwt5 (List.mem_of_getElem? (i := 23) rfl) (by decide +kernel)
theorem wcE40 : Cond.castable "java/util/NoSuchElementException" "java/util/NoSuchElementException" ∈ wdL := by decide +kernel
theorem ncsE : ∀ a b, (a = "java/util/NoSuchElementException" ∨ a = "java/lang/IndexOutOfBoundsException" ∨ a = "java/lang/IllegalArgumentException" ∨ a = "java/lang/IllegalStateException") → (b = "java/util/NoSuchElementException" ∨ b = "java/lang/IndexOutOfBoundsException" ∨ b = "java/lang/IllegalArgumentException" ∨ b = "java/lang/IllegalStateException") → a ≠ b → (a, b) ∈ ncsL := by
  intro a b ha hb
  rcases ha with rfl | rfl | rfl | rfl <;> rcases hb with rfl | rfl | rfl | rfl <;> first | (intro h; exact absurd rfl h) | (intro _; decide +kernel)
theorem cw_X7_addRow : Cond.code yX7_addRow cX7_addRow 2 (some .int) ∈ gw := gwt2 (List.mem_of_getElem? (i := 50) rfl) (by decide +kernel)
theorem ci_X7_addRow : Cond.initialized yX7_addRow.cls ∈ gw := gwt1 (List.mem_of_getElem? (i := 1) rfl) (by decide +kernel)
theorem cs_X7_addRow : Cond.instanceMethod yX7_addRow ∈ gw := gwt2 (List.mem_of_getElem? (i := 48) rfl) (by decide +kernel)
theorem ce_X7_addRow : Cond.selects RX7 yX7_addRow yX7_addRow ∈ gw := gwt2 (List.mem_of_getElem? (i := 49) rfl) (by decide +kernel)
theorem cd_X7_addRow : yX7_addRow.cls ≠ "java/lang/invoke/MethodHandle" ∧ yX7_addRow.cls ≠ "java/lang/invoke/VarHandle" ∧ (parseMethodDescriptor yX7_addRow.desc).map (fun d => d.parameters.length) = some 1 := ⟨by decide, by decide, by decide +kernel⟩
def m_L_addRow (p0 : Int32) (s : Mem) : Res Int64 := wJ ["java/lang/IllegalArgumentException", "java/lang/IllegalStateException"] (m_X7_addRow p0 s)
theorem n_L_addRow (p0 : Int32) (s : Mem) : Mn s (m_L_addRow p0 s) := mn_wJ (n_X7_addRow p0 s)
theorem wd307 : Cond.methodLink RL 7 yX7_addRow ∈ gw := gwt2 (List.mem_of_getElem? (i := 47) rfl) (by decide +kernel)
theorem cw_L_addRow : Cond.codeWith yL_addRow cL_addRow 3 (some .long) [(0, 6, 7, 13), (0, 6, 12, 19)] ∈ gw := gwt2 (List.mem_of_getElem? (i := 44) rfl) (by decide +kernel)
theorem cs_L_addRow : Cond.static yL_addRow ∈ gw := gwt2 (List.mem_of_getElem? (i := 43) rfl) (by decide +kernel)
theorem cd_L_addRow : yL_addRow.cls ≠ "java/lang/invoke/MethodHandle" ∧ yL_addRow.cls ≠ "java/lang/invoke/VarHandle" ∧ (parseMethodDescriptor yL_addRow.desc).map (fun d => d.parameters.length) = some 2 := ⟨by decide, by decide, by decide +kernel⟩
set_option maxRecDepth 100000 in
set_option maxHeartbeats 2000000 in
theorem sat_L_addRow (l : Launch) (hl : l.stackTraces = false) (p0 : Int32) (s : Mem) : SatW l yL_addRow (.codeWith yL_addRow cL_addRow 3 (some .long) [(0, 6, 7, 13), (0, 6, 12, 19)]) 37 660 (fun x => some (.long x)) [.ref 0, .int p0] s (m_L_addRow p0 s) := by
  refine satw_of (by decide) (Nat.le_of_ble_eq_true rfl) (fun X V A adV hxl hC hE ht hr => ?_) (n_L_addRow p0 s)
  subst hxl
  show LX X V A 37 660 (nC s) (nS s) _ 0 [(0, .ref 0), (1, .int p0)] [] s _
  unfold m_L_addRow wJ
  rw [show yL_addRow.cls = RL from rfl] at hC
  refine lx_aload_n hC dL_addRow_0 rfl 0 rfl ?_
  refine lx_iload_n hC dL_addRow_1 rfl 1 rfl ?_
  refine lx_callC hC (sat_X7_addRow (xl X) hl p0 s) (run_V (as := [.int p0]) (rest := []) hC hE ly0 rfl cw_X7_addRow ci_X7_addRow wd307 cs_X7_addRow ce_X7_addRow cd_X7_addRow (by decide) (by decide) (Nat.le_of_ble_eq_true rfl) dL_addRow_2 rfl) (fun E σ1 u hE0 hu R H locs hid ls q ce h2 h3 h4 h5 g1 g2 g3 hc hv hcl => ?_) (fun v s1 _ => ?_)
  · by_cases e0 : "java/lang/IllegalArgumentException" = E
    · subst e0
      rw [cd, if_pos rfl] at hu
      cases hu
      exact w_hand hC hr hE (pre := []) (suf := [(0, 6, 12, 19)]) (a := 0) (b := 6) (h := 7) (ct := 13) ht (v := tJ 1) (fun z hz => absurd hz List.not_mem_nil) ⟨by decide, by decide⟩ (by decide) wlE13 wcE13 (k := 2) (by decide) dL_addRow_7 dL_addRow_8 dL_addRow_11 wk17 g1 g2 g3 hc hv hcl
    rw [cd, if_neg e0] at hu
    by_cases e1 : "java/lang/IllegalStateException" = E
    · subst e1
      rw [cd, if_pos rfl] at hu
      cases hu
      exact w_hand hC hr hE (pre := [(0, 6, 7, 13)]) (suf := []) (a := 0) (b := 6) (h := 12) (ct := 19) ht (v := tJ 2) (List.forall_mem_cons.mpr ⟨⟨by decide, "java/lang/IllegalArgumentException", wlE13, ncsE _ _ (by simp) (by simp) (by decide)⟩, fun _ hz => absurd hz List.not_mem_nil⟩) ⟨by decide, by decide⟩ (by decide) wlE19 wcE19 (k := 2) (by decide) dL_addRow_12 dL_addRow_13 dL_addRow_16 wk21 g1 g2 g3 hc hv hcl
    rw [cd, if_neg e1] at hu
    cases hu
  · refine lx_i2l hC dL_addRow_5 ?_
    exact lx_lretN hC rfl hr dL_addRow_6
theorem cw_X7_addPhantoms : Cond.code yX7_addPhantoms cX7_addPhantoms 3 (some .int) ∈ gw := gwt3 (List.mem_of_getElem? (i := 106) rfl) (by decide +kernel)
theorem ci_X7_addPhantoms : Cond.initialized yX7_addPhantoms.cls ∈ gw := gwt1 (List.mem_of_getElem? (i := 1) rfl) (by decide +kernel)
theorem cs_X7_addPhantoms : Cond.instanceMethod yX7_addPhantoms ∈ gw := gwt3 (List.mem_of_getElem? (i := 104) rfl) (by decide +kernel)
theorem ce_X7_addPhantoms : Cond.selects RX7 yX7_addPhantoms yX7_addPhantoms ∈ gw := gwt3 (List.mem_of_getElem? (i := 105) rfl) (by decide +kernel)
theorem cd_X7_addPhantoms : yX7_addPhantoms.cls ≠ "java/lang/invoke/MethodHandle" ∧ yX7_addPhantoms.cls ≠ "java/lang/invoke/VarHandle" ∧ (parseMethodDescriptor yX7_addPhantoms.desc).map (fun d => d.parameters.length) = some 2 := ⟨by decide, by decide, by decide +kernel⟩
def m_L_addPhantoms (p0 p1 : Int32) (s : Mem) : Res Int64 := wJ ["java/lang/IndexOutOfBoundsException", "java/lang/IllegalArgumentException", "java/lang/IllegalStateException"] (m_X7_addPhantoms p0 p1 s)
theorem n_L_addPhantoms (p0 p1 : Int32) (s : Mem) : Mn s (m_L_addPhantoms p0 p1 s) := mn_wJ (n_X7_addPhantoms p0 p1 s)
theorem wd603 : Cond.methodLink RL 23 yX7_addPhantoms ∈ gw := gwt3 (List.mem_of_getElem? (i := 103) rfl) (by decide +kernel)
theorem cw_L_addPhantoms : Cond.codeWith yL_addPhantoms cL_addPhantoms 4 (some .long) [(0, 7, 8, 27), (0, 7, 13, 13), (0, 7, 18, 19)] ∈ gw := gwt3 (List.mem_of_getElem? (i := 81) rfl) (by decide +kernel)
theorem cs_L_addPhantoms : Cond.static yL_addPhantoms ∈ gw := gwt3 (List.mem_of_getElem? (i := 80) rfl) (by decide +kernel)
theorem cd_L_addPhantoms : yL_addPhantoms.cls ≠ "java/lang/invoke/MethodHandle" ∧ yL_addPhantoms.cls ≠ "java/lang/invoke/VarHandle" ∧ (parseMethodDescriptor yL_addPhantoms.desc).map (fun d => d.parameters.length) = some 3 := ⟨by decide, by decide, by decide +kernel⟩
set_option maxRecDepth 100000 in
set_option maxHeartbeats 2000000 in
theorem sat_L_addPhantoms (l : Launch) (hl : l.stackTraces = false) (p0 p1 : Int32) (s : Mem) : SatW l yL_addPhantoms (.codeWith yL_addPhantoms cL_addPhantoms 4 (some .long) [(0, 7, 8, 27), (0, 7, 13, 13), (0, 7, 18, 19)]) 37 661 (fun x => some (.long x)) [.ref 0, .int p0, .int p1] s (m_L_addPhantoms p0 p1 s) := by
  refine satw_of (by decide) (Nat.le_of_ble_eq_true rfl) (fun X V A adV hxl hC hE ht hr => ?_) (n_L_addPhantoms p0 p1 s)
  subst hxl
  show LX X V A 37 661 (nC s) (nS s) _ 0 [(0, .ref 0), (1, .int p0), (2, .int p1)] [] s _
  unfold m_L_addPhantoms wJ
  rw [show yL_addPhantoms.cls = RL from rfl] at hC
  refine lx_aload_n hC dL_addPhantoms_0 rfl 0 rfl ?_
  refine lx_iload_n hC dL_addPhantoms_1 rfl 1 rfl ?_
  refine lx_iload_n hC dL_addPhantoms_2 rfl 2 rfl ?_
  refine lx_callC hC (sat_X7_addPhantoms (xl X) hl p0 p1 s) (run_V (as := [.int p0, .int p1]) (rest := []) hC hE ly0 rfl cw_X7_addPhantoms ci_X7_addPhantoms wd603 cs_X7_addPhantoms ce_X7_addPhantoms cd_X7_addPhantoms (by decide) (by decide) (Nat.le_of_ble_eq_true rfl) dL_addPhantoms_3 rfl) (fun E σ1 u hE0 hu R H locs hid ls q ce h2 h3 h4 h5 g1 g2 g3 hc hv hcl => ?_) (fun v s1 _ => ?_)
  · by_cases e0 : "java/lang/IndexOutOfBoundsException" = E
    · subst e0
      rw [cd, if_pos rfl] at hu
      cases hu
      exact w_hand hC hr hE (pre := []) (suf := [(0, 7, 13, 13), (0, 7, 18, 19)]) (a := 0) (b := 7) (h := 8) (ct := 27) ht (v := tJ 1) (fun z hz => absurd hz List.not_mem_nil) ⟨by decide, by decide⟩ (by decide) wlE27 wcE27 (k := 3) (by decide) dL_addPhantoms_8 dL_addPhantoms_9 dL_addPhantoms_12 wk17 g1 g2 g3 hc hv hcl
    rw [cd, if_neg e0] at hu
    by_cases e1 : "java/lang/IllegalArgumentException" = E
    · subst e1
      rw [cd, if_pos rfl] at hu
      cases hu
      exact w_hand hC hr hE (pre := [(0, 7, 8, 27)]) (suf := [(0, 7, 18, 19)]) (a := 0) (b := 7) (h := 13) (ct := 13) ht (v := tJ 2) (List.forall_mem_cons.mpr ⟨⟨by decide, "java/lang/IndexOutOfBoundsException", wlE27, ncsE _ _ (by simp) (by simp) (by decide)⟩, fun _ hz => absurd hz List.not_mem_nil⟩) ⟨by decide, by decide⟩ (by decide) wlE13 wcE13 (k := 3) (by decide) dL_addPhantoms_13 dL_addPhantoms_14 dL_addPhantoms_17 wk21 g1 g2 g3 hc hv hcl
    rw [cd, if_neg e1] at hu
    by_cases e2 : "java/lang/IllegalStateException" = E
    · subst e2
      rw [cd, if_pos rfl] at hu
      cases hu
      exact w_hand hC hr hE (pre := [(0, 7, 8, 27), (0, 7, 13, 13)]) (suf := []) (a := 0) (b := 7) (h := 18) (ct := 19) ht (v := tJ 3) (List.forall_mem_cons.mpr ⟨⟨by decide, "java/lang/IndexOutOfBoundsException", wlE27, ncsE _ _ (by simp) (by simp) (by decide)⟩, List.forall_mem_cons.mpr ⟨⟨by decide, "java/lang/IllegalArgumentException", wlE13, ncsE _ _ (by simp) (by simp) (by decide)⟩, fun _ hz => absurd hz List.not_mem_nil⟩⟩) ⟨by decide, by decide⟩ (by decide) wlE19 wcE19 (k := 3) (by decide) dL_addPhantoms_18 dL_addPhantoms_19 dL_addPhantoms_22 wk29 g1 g2 g3 hc hv hcl
    rw [cd, if_neg e2] at hu
    cases hu
  · refine lx_i2l hC dL_addPhantoms_6 ?_
    exact lx_lretN hC rfl hr dL_addPhantoms_7
theorem cw_X7_removePhantoms : Cond.code yX7_removePhantoms cX7_removePhantoms 3 (some .int) ∈ gw := gwt5 (List.mem_of_getElem? (i := 78) rfl) (by decide +kernel)
theorem ci_X7_removePhantoms : Cond.initialized yX7_removePhantoms.cls ∈ gw := gwt1 (List.mem_of_getElem? (i := 1) rfl) (by decide +kernel)
theorem cs_X7_removePhantoms : Cond.instanceMethod yX7_removePhantoms ∈ gw := gwt5 (List.mem_of_getElem? (i := 76) rfl) (by decide +kernel)
theorem ce_X7_removePhantoms : Cond.selects RX7 yX7_removePhantoms yX7_removePhantoms ∈ gw := gwt5 (List.mem_of_getElem? (i := 77) rfl) (by decide +kernel)
theorem cd_X7_removePhantoms : yX7_removePhantoms.cls ≠ "java/lang/invoke/MethodHandle" ∧ yX7_removePhantoms.cls ≠ "java/lang/invoke/VarHandle" ∧ (parseMethodDescriptor yX7_removePhantoms.desc).map (fun d => d.parameters.length) = some 2 := ⟨by decide, by decide, by decide +kernel⟩
def m_L_removePhantoms (p0 p1 : Int32) (s : Mem) : Res Int64 := wJ ["java/lang/IndexOutOfBoundsException", "java/lang/IllegalArgumentException", "java/lang/IllegalStateException"] (m_X7_removePhantoms p0 p1 s)
theorem n_L_removePhantoms (p0 p1 : Int32) (s : Mem) : Mn s (m_L_removePhantoms p0 p1 s) := mn_wJ (n_X7_removePhantoms p0 p1 s)
theorem wd1055 : Cond.methodLink RL 31 yX7_removePhantoms ∈ gw := gwt5 (List.mem_of_getElem? (i := 75) rfl) (by decide +kernel)
theorem cw_L_removePhantoms : Cond.codeWith yL_removePhantoms cL_removePhantoms 4 (some .long) [(0, 7, 8, 27), (0, 7, 13, 13), (0, 7, 18, 19)] ∈ gw := gwt5 (List.mem_of_getElem? (i := 74) rfl) (by decide +kernel)
theorem cs_L_removePhantoms : Cond.static yL_removePhantoms ∈ gw := gwt5 (List.mem_of_getElem? (i := 73) rfl) (by decide +kernel)
theorem cd_L_removePhantoms : yL_removePhantoms.cls ≠ "java/lang/invoke/MethodHandle" ∧ yL_removePhantoms.cls ≠ "java/lang/invoke/VarHandle" ∧ (parseMethodDescriptor yL_removePhantoms.desc).map (fun d => d.parameters.length) = some 3 := ⟨by decide, by decide, by decide +kernel⟩
set_option maxRecDepth 100000 in
set_option maxHeartbeats 2000000 in
theorem sat_L_removePhantoms (l : Launch) (hl : l.stackTraces = false) (p0 p1 : Int32) (s : Mem) : SatW l yL_removePhantoms (.codeWith yL_removePhantoms cL_removePhantoms 4 (some .long) [(0, 7, 8, 27), (0, 7, 13, 13), (0, 7, 18, 19)]) 37 661 (fun x => some (.long x)) [.ref 0, .int p0, .int p1] s (m_L_removePhantoms p0 p1 s) := by
  refine satw_of (by decide) (Nat.le_of_ble_eq_true rfl) (fun X V A adV hxl hC hE ht hr => ?_) (n_L_removePhantoms p0 p1 s)
  subst hxl
  show LX X V A 37 661 (nC s) (nS s) _ 0 [(0, .ref 0), (1, .int p0), (2, .int p1)] [] s _
  unfold m_L_removePhantoms wJ
  rw [show yL_removePhantoms.cls = RL from rfl] at hC
  refine lx_aload_n hC dL_removePhantoms_0 rfl 0 rfl ?_
  refine lx_iload_n hC dL_removePhantoms_1 rfl 1 rfl ?_
  refine lx_iload_n hC dL_removePhantoms_2 rfl 2 rfl ?_
  refine lx_callC hC (sat_X7_removePhantoms (xl X) hl p0 p1 s) (run_V (as := [.int p0, .int p1]) (rest := []) hC hE ly0 rfl cw_X7_removePhantoms ci_X7_removePhantoms wd1055 cs_X7_removePhantoms ce_X7_removePhantoms cd_X7_removePhantoms (by decide) (by decide) (Nat.le_of_ble_eq_true rfl) dL_removePhantoms_3 rfl) (fun E σ1 u hE0 hu R H locs hid ls q ce h2 h3 h4 h5 g1 g2 g3 hc hv hcl => ?_) (fun v s1 _ => ?_)
  · by_cases e0 : "java/lang/IndexOutOfBoundsException" = E
    · subst e0
      rw [cd, if_pos rfl] at hu
      cases hu
      exact w_hand hC hr hE (pre := []) (suf := [(0, 7, 13, 13), (0, 7, 18, 19)]) (a := 0) (b := 7) (h := 8) (ct := 27) ht (v := tJ 1) (fun z hz => absurd hz List.not_mem_nil) ⟨by decide, by decide⟩ (by decide) wlE27 wcE27 (k := 3) (by decide) dL_removePhantoms_8 dL_removePhantoms_9 dL_removePhantoms_12 wk17 g1 g2 g3 hc hv hcl
    rw [cd, if_neg e0] at hu
    by_cases e1 : "java/lang/IllegalArgumentException" = E
    · subst e1
      rw [cd, if_pos rfl] at hu
      cases hu
      exact w_hand hC hr hE (pre := [(0, 7, 8, 27)]) (suf := [(0, 7, 18, 19)]) (a := 0) (b := 7) (h := 13) (ct := 13) ht (v := tJ 2) (List.forall_mem_cons.mpr ⟨⟨by decide, "java/lang/IndexOutOfBoundsException", wlE27, ncsE _ _ (by simp) (by simp) (by decide)⟩, fun _ hz => absurd hz List.not_mem_nil⟩) ⟨by decide, by decide⟩ (by decide) wlE13 wcE13 (k := 3) (by decide) dL_removePhantoms_13 dL_removePhantoms_14 dL_removePhantoms_17 wk21 g1 g2 g3 hc hv hcl
    rw [cd, if_neg e1] at hu
    by_cases e2 : "java/lang/IllegalStateException" = E
    · subst e2
      rw [cd, if_pos rfl] at hu
      cases hu
      exact w_hand hC hr hE (pre := [(0, 7, 8, 27), (0, 7, 13, 13)]) (suf := []) (a := 0) (b := 7) (h := 18) (ct := 19) ht (v := tJ 3) (List.forall_mem_cons.mpr ⟨⟨by decide, "java/lang/IndexOutOfBoundsException", wlE27, ncsE _ _ (by simp) (by simp) (by decide)⟩, List.forall_mem_cons.mpr ⟨⟨by decide, "java/lang/IllegalArgumentException", wlE13, ncsE _ _ (by simp) (by simp) (by decide)⟩, fun _ hz => absurd hz List.not_mem_nil⟩⟩) ⟨by decide, by decide⟩ (by decide) wlE19 wcE19 (k := 3) (by decide) dL_removePhantoms_18 dL_removePhantoms_19 dL_removePhantoms_22 wk29 g1 g2 g3 hc hv hcl
    rw [cd, if_neg e2] at hu
    cases hu
  · refine lx_i2l hC dL_removePhantoms_6 ?_
    exact lx_lretN hC rfl hr dL_removePhantoms_7
theorem cw_X7_add : Cond.code yX7_add cX7_add 3 (some .int) ∈ gw := gwt3 (List.mem_of_getElem? (i := 114) rfl) (by decide +kernel)
theorem ci_X7_add : Cond.initialized yX7_add.cls ∈ gw := gwt1 (List.mem_of_getElem? (i := 1) rfl) (by decide +kernel)
theorem cs_X7_add : Cond.instanceMethod yX7_add ∈ gw := gwt3 (List.mem_of_getElem? (i := 112) rfl) (by decide +kernel)
theorem ce_X7_add : Cond.selects RX7 yX7_add yX7_add ∈ gw := gwt3 (List.mem_of_getElem? (i := 113) rfl) (by decide +kernel)
theorem cd_X7_add : yX7_add.cls ≠ "java/lang/invoke/MethodHandle" ∧ yX7_add.cls ≠ "java/lang/invoke/VarHandle" ∧ (parseMethodDescriptor yX7_add.desc).map (fun d => d.parameters.length) = some 2 := ⟨by decide, by decide, by decide +kernel⟩
def m_L_add (p0 p1 : Int32) (s : Mem) : Res Int64 := wJ ["java/lang/IndexOutOfBoundsException", "java/lang/IllegalArgumentException", "java/lang/IllegalStateException"] (m_X7_add p0 p1 s)
theorem n_L_add (p0 p1 : Int32) (s : Mem) : Mn s (m_L_add p0 p1 s) := mn_wJ (n_X7_add p0 p1 s)
theorem wd611 : Cond.methodLink RL 34 yX7_add ∈ gw := gwt3 (List.mem_of_getElem? (i := 111) rfl) (by decide +kernel)
theorem cw_L_add : Cond.codeWith yL_add cL_add 4 (some .long) [(0, 7, 8, 27), (0, 7, 13, 13), (0, 7, 18, 19)] ∈ gw := gwt3 (List.mem_of_getElem? (i := 110) rfl) (by decide +kernel)
theorem cs_L_add : Cond.static yL_add ∈ gw := gwt3 (List.mem_of_getElem? (i := 109) rfl) (by decide +kernel)
theorem cd_L_add : yL_add.cls ≠ "java/lang/invoke/MethodHandle" ∧ yL_add.cls ≠ "java/lang/invoke/VarHandle" ∧ (parseMethodDescriptor yL_add.desc).map (fun d => d.parameters.length) = some 3 := ⟨by decide, by decide, by decide +kernel⟩
set_option maxRecDepth 100000 in
set_option maxHeartbeats 2000000 in
theorem sat_L_add (l : Launch) (hl : l.stackTraces = false) (p0 p1 : Int32) (s : Mem) : SatW l yL_add (.codeWith yL_add cL_add 4 (some .long) [(0, 7, 8, 27), (0, 7, 13, 13), (0, 7, 18, 19)]) 37 661 (fun x => some (.long x)) [.ref 0, .int p0, .int p1] s (m_L_add p0 p1 s) := by
  refine satw_of (by decide) (Nat.le_of_ble_eq_true rfl) (fun X V A adV hxl hC hE ht hr => ?_) (n_L_add p0 p1 s)
  subst hxl
  show LX X V A 37 661 (nC s) (nS s) _ 0 [(0, .ref 0), (1, .int p0), (2, .int p1)] [] s _
  unfold m_L_add wJ
  rw [show yL_add.cls = RL from rfl] at hC
  refine lx_aload_n hC dL_add_0 rfl 0 rfl ?_
  refine lx_iload_n hC dL_add_1 rfl 1 rfl ?_
  refine lx_iload_n hC dL_add_2 rfl 2 rfl ?_
  refine lx_callC hC (sat_X7_add (xl X) hl p0 p1 s) (run_V (as := [.int p0, .int p1]) (rest := []) hC hE ly0 rfl cw_X7_add ci_X7_add wd611 cs_X7_add ce_X7_add cd_X7_add (by decide) (by decide) (Nat.le_of_ble_eq_true rfl) dL_add_3 rfl) (fun E σ1 u hE0 hu R H locs hid ls q ce h2 h3 h4 h5 g1 g2 g3 hc hv hcl => ?_) (fun v s1 _ => ?_)
  · by_cases e0 : "java/lang/IndexOutOfBoundsException" = E
    · subst e0
      rw [cd, if_pos rfl] at hu
      cases hu
      exact w_hand hC hr hE (pre := []) (suf := [(0, 7, 13, 13), (0, 7, 18, 19)]) (a := 0) (b := 7) (h := 8) (ct := 27) ht (v := tJ 1) (fun z hz => absurd hz List.not_mem_nil) ⟨by decide, by decide⟩ (by decide) wlE27 wcE27 (k := 3) (by decide) dL_add_8 dL_add_9 dL_add_12 wk17 g1 g2 g3 hc hv hcl
    rw [cd, if_neg e0] at hu
    by_cases e1 : "java/lang/IllegalArgumentException" = E
    · subst e1
      rw [cd, if_pos rfl] at hu
      cases hu
      exact w_hand hC hr hE (pre := [(0, 7, 8, 27)]) (suf := [(0, 7, 18, 19)]) (a := 0) (b := 7) (h := 13) (ct := 13) ht (v := tJ 2) (List.forall_mem_cons.mpr ⟨⟨by decide, "java/lang/IndexOutOfBoundsException", wlE27, ncsE _ _ (by simp) (by simp) (by decide)⟩, fun _ hz => absurd hz List.not_mem_nil⟩) ⟨by decide, by decide⟩ (by decide) wlE13 wcE13 (k := 3) (by decide) dL_add_13 dL_add_14 dL_add_17 wk21 g1 g2 g3 hc hv hcl
    rw [cd, if_neg e1] at hu
    by_cases e2 : "java/lang/IllegalStateException" = E
    · subst e2
      rw [cd, if_pos rfl] at hu
      cases hu
      exact w_hand hC hr hE (pre := [(0, 7, 8, 27), (0, 7, 13, 13)]) (suf := []) (a := 0) (b := 7) (h := 18) (ct := 19) ht (v := tJ 3) (List.forall_mem_cons.mpr ⟨⟨by decide, "java/lang/IndexOutOfBoundsException", wlE27, ncsE _ _ (by simp) (by simp) (by decide)⟩, List.forall_mem_cons.mpr ⟨⟨by decide, "java/lang/IllegalArgumentException", wlE13, ncsE _ _ (by simp) (by simp) (by decide)⟩, fun _ hz => absurd hz List.not_mem_nil⟩⟩) ⟨by decide, by decide⟩ (by decide) wlE19 wcE19 (k := 3) (by decide) dL_add_18 dL_add_19 dL_add_22 wk29 g1 g2 g3 hc hv hcl
    rw [cd, if_neg e2] at hu
    cases hu
  · refine lx_i2l hC dL_add_6 ?_
    exact lx_lretN hC rfl hr dL_add_7
theorem cw_X7_move : Cond.code yX7_move cX7_move 3 (some .int) ∈ gw := gwt5 (List.mem_of_getElem? (i := 88) rfl) (by decide +kernel)
theorem ci_X7_move : Cond.initialized yX7_move.cls ∈ gw := gwt1 (List.mem_of_getElem? (i := 1) rfl) (by decide +kernel)
theorem cs_X7_move : Cond.instanceMethod yX7_move ∈ gw := gwt5 (List.mem_of_getElem? (i := 86) rfl) (by decide +kernel)
theorem ce_X7_move : Cond.selects RX7 yX7_move yX7_move ∈ gw := gwt5 (List.mem_of_getElem? (i := 87) rfl) (by decide +kernel)
theorem cd_X7_move : yX7_move.cls ≠ "java/lang/invoke/MethodHandle" ∧ yX7_move.cls ≠ "java/lang/invoke/VarHandle" ∧ (parseMethodDescriptor yX7_move.desc).map (fun d => d.parameters.length) = some 2 := ⟨by decide, by decide, by decide +kernel⟩
def m_L_move (p0 p1 : Int32) (s : Mem) : Res Int64 := wJ ["java/util/NoSuchElementException", "java/lang/IndexOutOfBoundsException", "java/lang/IllegalStateException"] (m_X7_move p0 p1 s)
theorem n_L_move (p0 p1 : Int32) (s : Mem) : Mn s (m_L_move p0 p1 s) := mn_wJ (n_X7_move p0 p1 s)
theorem wd1065 : Cond.methodLink RL 37 yX7_move ∈ gw := gwt5 (List.mem_of_getElem? (i := 85) rfl) (by decide +kernel)
theorem cw_L_move : Cond.codeWith yL_move cL_move 4 (some .long) [(0, 7, 8, 40), (0, 7, 13, 27), (0, 7, 18, 19)] ∈ gw := gwt5 (List.mem_of_getElem? (i := 84) rfl) (by decide +kernel)
theorem cs_L_move : Cond.static yL_move ∈ gw := gwt5 (List.mem_of_getElem? (i := 83) rfl) (by decide +kernel)
theorem cd_L_move : yL_move.cls ≠ "java/lang/invoke/MethodHandle" ∧ yL_move.cls ≠ "java/lang/invoke/VarHandle" ∧ (parseMethodDescriptor yL_move.desc).map (fun d => d.parameters.length) = some 3 := ⟨by decide, by decide, by decide +kernel⟩
set_option maxRecDepth 100000 in
set_option maxHeartbeats 2000000 in
theorem sat_L_move (l : Launch) (hl : l.stackTraces = false) (p0 p1 : Int32) (s : Mem) : SatW l yL_move (.codeWith yL_move cL_move 4 (some .long) [(0, 7, 8, 40), (0, 7, 13, 27), (0, 7, 18, 19)]) 37 661 (fun x => some (.long x)) [.ref 0, .int p0, .int p1] s (m_L_move p0 p1 s) := by
  refine satw_of (by decide) (Nat.le_of_ble_eq_true rfl) (fun X V A adV hxl hC hE ht hr => ?_) (n_L_move p0 p1 s)
  subst hxl
  show LX X V A 37 661 (nC s) (nS s) _ 0 [(0, .ref 0), (1, .int p0), (2, .int p1)] [] s _
  unfold m_L_move wJ
  rw [show yL_move.cls = RL from rfl] at hC
  refine lx_aload_n hC dL_move_0 rfl 0 rfl ?_
  refine lx_iload_n hC dL_move_1 rfl 1 rfl ?_
  refine lx_iload_n hC dL_move_2 rfl 2 rfl ?_
  refine lx_callC hC (sat_X7_move (xl X) hl p0 p1 s) (run_V (as := [.int p0, .int p1]) (rest := []) hC hE ly0 rfl cw_X7_move ci_X7_move wd1065 cs_X7_move ce_X7_move cd_X7_move (by decide) (by decide) (Nat.le_of_ble_eq_true rfl) dL_move_3 rfl) (fun E σ1 u hE0 hu R H locs hid ls q ce h2 h3 h4 h5 g1 g2 g3 hc hv hcl => ?_) (fun v s1 _ => ?_)
  · by_cases e0 : "java/util/NoSuchElementException" = E
    · subst e0
      rw [cd, if_pos rfl] at hu
      cases hu
      exact w_hand hC hr hE (pre := []) (suf := [(0, 7, 13, 27), (0, 7, 18, 19)]) (a := 0) (b := 7) (h := 8) (ct := 40) ht (v := tJ 1) (fun z hz => absurd hz List.not_mem_nil) ⟨by decide, by decide⟩ (by decide) wlE40 wcE40 (k := 3) (by decide) dL_move_8 dL_move_9 dL_move_12 wk17 g1 g2 g3 hc hv hcl
    rw [cd, if_neg e0] at hu
    by_cases e1 : "java/lang/IndexOutOfBoundsException" = E
    · subst e1
      rw [cd, if_pos rfl] at hu
      cases hu
      exact w_hand hC hr hE (pre := [(0, 7, 8, 40)]) (suf := [(0, 7, 18, 19)]) (a := 0) (b := 7) (h := 13) (ct := 27) ht (v := tJ 2) (List.forall_mem_cons.mpr ⟨⟨by decide, "java/util/NoSuchElementException", wlE40, ncsE _ _ (by simp) (by simp) (by decide)⟩, fun _ hz => absurd hz List.not_mem_nil⟩) ⟨by decide, by decide⟩ (by decide) wlE27 wcE27 (k := 3) (by decide) dL_move_13 dL_move_14 dL_move_17 wk21 g1 g2 g3 hc hv hcl
    rw [cd, if_neg e1] at hu
    by_cases e2 : "java/lang/IllegalStateException" = E
    · subst e2
      rw [cd, if_pos rfl] at hu
      cases hu
      exact w_hand hC hr hE (pre := [(0, 7, 8, 40), (0, 7, 13, 27)]) (suf := []) (a := 0) (b := 7) (h := 18) (ct := 19) ht (v := tJ 3) (List.forall_mem_cons.mpr ⟨⟨by decide, "java/util/NoSuchElementException", wlE40, ncsE _ _ (by simp) (by simp) (by decide)⟩, List.forall_mem_cons.mpr ⟨⟨by decide, "java/lang/IndexOutOfBoundsException", wlE27, ncsE _ _ (by simp) (by simp) (by decide)⟩, fun _ hz => absurd hz List.not_mem_nil⟩⟩) ⟨by decide, by decide⟩ (by decide) wlE19 wcE19 (k := 3) (by decide) dL_move_18 dL_move_19 dL_move_22 wk29 g1 g2 g3 hc hv hcl
    rw [cd, if_neg e2] at hu
    cases hu
  · refine lx_i2l hC dL_move_6 ?_
    exact lx_lretN hC rfl hr dL_move_7
theorem cw_X7_remove : Cond.code yX7_remove cX7_remove 2 (some .int) ∈ gw := gwt5 (List.mem_of_getElem? (i := 95) rfl) (by decide +kernel)
theorem ci_X7_remove : Cond.initialized yX7_remove.cls ∈ gw := gwt1 (List.mem_of_getElem? (i := 1) rfl) (by decide +kernel)
theorem cs_X7_remove : Cond.instanceMethod yX7_remove ∈ gw := gwt5 (List.mem_of_getElem? (i := 93) rfl) (by decide +kernel)
theorem ce_X7_remove : Cond.selects RX7 yX7_remove yX7_remove ∈ gw := gwt5 (List.mem_of_getElem? (i := 94) rfl) (by decide +kernel)
theorem cd_X7_remove : yX7_remove.cls ≠ "java/lang/invoke/MethodHandle" ∧ yX7_remove.cls ≠ "java/lang/invoke/VarHandle" ∧ (parseMethodDescriptor yX7_remove.desc).map (fun d => d.parameters.length) = some 1 := ⟨by decide, by decide, by decide +kernel⟩
def m_L_remove (p0 : Int32) (s : Mem) : Res Int64 := wJ ["java/util/NoSuchElementException", "java/lang/IllegalStateException"] (m_X7_remove p0 s)
theorem n_L_remove (p0 : Int32) (s : Mem) : Mn s (m_L_remove p0 s) := mn_wJ (n_X7_remove p0 s)
theorem wd1072 : Cond.methodLink RL 42 yX7_remove ∈ gw := gwt5 (List.mem_of_getElem? (i := 92) rfl) (by decide +kernel)
theorem cw_L_remove : Cond.codeWith yL_remove cL_remove 3 (some .long) [(0, 6, 7, 40), (0, 6, 12, 19)] ∈ gw := gwt5 (List.mem_of_getElem? (i := 91) rfl) (by decide +kernel)
theorem cs_L_remove : Cond.static yL_remove ∈ gw := gwt5 (List.mem_of_getElem? (i := 90) rfl) (by decide +kernel)
theorem cd_L_remove : yL_remove.cls ≠ "java/lang/invoke/MethodHandle" ∧ yL_remove.cls ≠ "java/lang/invoke/VarHandle" ∧ (parseMethodDescriptor yL_remove.desc).map (fun d => d.parameters.length) = some 2 := ⟨by decide, by decide, by decide +kernel⟩
set_option maxRecDepth 100000 in
set_option maxHeartbeats 2000000 in
theorem sat_L_remove (l : Launch) (hl : l.stackTraces = false) (p0 : Int32) (s : Mem) : SatW l yL_remove (.codeWith yL_remove cL_remove 3 (some .long) [(0, 6, 7, 40), (0, 6, 12, 19)]) 37 660 (fun x => some (.long x)) [.ref 0, .int p0] s (m_L_remove p0 s) := by
  refine satw_of (by decide) (Nat.le_of_ble_eq_true rfl) (fun X V A adV hxl hC hE ht hr => ?_) (n_L_remove p0 s)
  subst hxl
  show LX X V A 37 660 (nC s) (nS s) _ 0 [(0, .ref 0), (1, .int p0)] [] s _
  unfold m_L_remove wJ
  rw [show yL_remove.cls = RL from rfl] at hC
  refine lx_aload_n hC dL_remove_0 rfl 0 rfl ?_
  refine lx_iload_n hC dL_remove_1 rfl 1 rfl ?_
  refine lx_callC hC (sat_X7_remove (xl X) hl p0 s) (run_V (as := [.int p0]) (rest := []) hC hE ly0 rfl cw_X7_remove ci_X7_remove wd1072 cs_X7_remove ce_X7_remove cd_X7_remove (by decide) (by decide) (Nat.le_of_ble_eq_true rfl) dL_remove_2 rfl) (fun E σ1 u hE0 hu R H locs hid ls q ce h2 h3 h4 h5 g1 g2 g3 hc hv hcl => ?_) (fun v s1 _ => ?_)
  · by_cases e0 : "java/util/NoSuchElementException" = E
    · subst e0
      rw [cd, if_pos rfl] at hu
      cases hu
      exact w_hand hC hr hE (pre := []) (suf := [(0, 6, 12, 19)]) (a := 0) (b := 6) (h := 7) (ct := 40) ht (v := tJ 1) (fun z hz => absurd hz List.not_mem_nil) ⟨by decide, by decide⟩ (by decide) wlE40 wcE40 (k := 2) (by decide) dL_remove_7 dL_remove_8 dL_remove_11 wk17 g1 g2 g3 hc hv hcl
    rw [cd, if_neg e0] at hu
    by_cases e1 : "java/lang/IllegalStateException" = E
    · subst e1
      rw [cd, if_pos rfl] at hu
      cases hu
      exact w_hand hC hr hE (pre := [(0, 6, 7, 40)]) (suf := []) (a := 0) (b := 6) (h := 12) (ct := 19) ht (v := tJ 2) (List.forall_mem_cons.mpr ⟨⟨by decide, "java/util/NoSuchElementException", wlE40, ncsE _ _ (by simp) (by simp) (by decide)⟩, fun _ hz => absurd hz List.not_mem_nil⟩) ⟨by decide, by decide⟩ (by decide) wlE19 wcE19 (k := 2) (by decide) dL_remove_12 dL_remove_13 dL_remove_16 wk21 g1 g2 g3 hc hv hcl
    rw [cd, if_neg e1] at hu
    cases hu
  · refine lx_i2l hC dL_remove_5 ?_
    exact lx_lretN hC rfl hr dL_remove_6
theorem cw_X7_setHeir : Cond.code yX7_setHeir cX7_setHeir 3 (some .int) ∈ gw := gwt5 (List.mem_of_getElem? (i := 102) rfl) (by decide +kernel)
theorem ci_X7_setHeir : Cond.initialized yX7_setHeir.cls ∈ gw := gwt1 (List.mem_of_getElem? (i := 1) rfl) (by decide +kernel)
theorem cs_X7_setHeir : Cond.instanceMethod yX7_setHeir ∈ gw := gwt5 (List.mem_of_getElem? (i := 100) rfl) (by decide +kernel)
theorem ce_X7_setHeir : Cond.selects RX7 yX7_setHeir yX7_setHeir ∈ gw := gwt5 (List.mem_of_getElem? (i := 101) rfl) (by decide +kernel)
theorem cd_X7_setHeir : yX7_setHeir.cls ≠ "java/lang/invoke/MethodHandle" ∧ yX7_setHeir.cls ≠ "java/lang/invoke/VarHandle" ∧ (parseMethodDescriptor yX7_setHeir.desc).map (fun d => d.parameters.length) = some 2 := ⟨by decide, by decide, by decide +kernel⟩
def m_L_setHeir (p0 p1 : Int32) (s : Mem) : Res Int64 := wJ ["java/util/NoSuchElementException", "java/lang/IllegalArgumentException", "java/lang/IllegalStateException"] (m_X7_setHeir p0 p1 s)
theorem n_L_setHeir (p0 p1 : Int32) (s : Mem) : Mn s (m_L_setHeir p0 p1 s) := mn_wJ (n_X7_setHeir p0 p1 s)
theorem wd1079 : Cond.methodLink RL 45 yX7_setHeir ∈ gw := gwt5 (List.mem_of_getElem? (i := 99) rfl) (by decide +kernel)
theorem cw_L_setHeir : Cond.codeWith yL_setHeir cL_setHeir 4 (some .long) [(0, 7, 8, 40), (0, 7, 13, 13), (0, 7, 18, 19)] ∈ gw := gwt5 (List.mem_of_getElem? (i := 98) rfl) (by decide +kernel)
theorem cs_L_setHeir : Cond.static yL_setHeir ∈ gw := gwt5 (List.mem_of_getElem? (i := 97) rfl) (by decide +kernel)
theorem cd_L_setHeir : yL_setHeir.cls ≠ "java/lang/invoke/MethodHandle" ∧ yL_setHeir.cls ≠ "java/lang/invoke/VarHandle" ∧ (parseMethodDescriptor yL_setHeir.desc).map (fun d => d.parameters.length) = some 3 := ⟨by decide, by decide, by decide +kernel⟩
set_option maxRecDepth 100000 in
set_option maxHeartbeats 2000000 in
theorem sat_L_setHeir (l : Launch) (hl : l.stackTraces = false) (p0 p1 : Int32) (s : Mem) : SatW l yL_setHeir (.codeWith yL_setHeir cL_setHeir 4 (some .long) [(0, 7, 8, 40), (0, 7, 13, 13), (0, 7, 18, 19)]) 37 661 (fun x => some (.long x)) [.ref 0, .int p0, .int p1] s (m_L_setHeir p0 p1 s) := by
  refine satw_of (by decide) (Nat.le_of_ble_eq_true rfl) (fun X V A adV hxl hC hE ht hr => ?_) (n_L_setHeir p0 p1 s)
  subst hxl
  show LX X V A 37 661 (nC s) (nS s) _ 0 [(0, .ref 0), (1, .int p0), (2, .int p1)] [] s _
  unfold m_L_setHeir wJ
  rw [show yL_setHeir.cls = RL from rfl] at hC
  refine lx_aload_n hC dL_setHeir_0 rfl 0 rfl ?_
  refine lx_iload_n hC dL_setHeir_1 rfl 1 rfl ?_
  refine lx_iload_n hC dL_setHeir_2 rfl 2 rfl ?_
  refine lx_callC hC (sat_X7_setHeir (xl X) hl p0 p1 s) (run_V (as := [.int p0, .int p1]) (rest := []) hC hE ly0 rfl cw_X7_setHeir ci_X7_setHeir wd1079 cs_X7_setHeir ce_X7_setHeir cd_X7_setHeir (by decide) (by decide) (Nat.le_of_ble_eq_true rfl) dL_setHeir_3 rfl) (fun E σ1 u hE0 hu R H locs hid ls q ce h2 h3 h4 h5 g1 g2 g3 hc hv hcl => ?_) (fun v s1 _ => ?_)
  · by_cases e0 : "java/util/NoSuchElementException" = E
    · subst e0
      rw [cd, if_pos rfl] at hu
      cases hu
      exact w_hand hC hr hE (pre := []) (suf := [(0, 7, 13, 13), (0, 7, 18, 19)]) (a := 0) (b := 7) (h := 8) (ct := 40) ht (v := tJ 1) (fun z hz => absurd hz List.not_mem_nil) ⟨by decide, by decide⟩ (by decide) wlE40 wcE40 (k := 3) (by decide) dL_setHeir_8 dL_setHeir_9 dL_setHeir_12 wk17 g1 g2 g3 hc hv hcl
    rw [cd, if_neg e0] at hu
    by_cases e1 : "java/lang/IllegalArgumentException" = E
    · subst e1
      rw [cd, if_pos rfl] at hu
      cases hu
      exact w_hand hC hr hE (pre := [(0, 7, 8, 40)]) (suf := [(0, 7, 18, 19)]) (a := 0) (b := 7) (h := 13) (ct := 13) ht (v := tJ 2) (List.forall_mem_cons.mpr ⟨⟨by decide, "java/util/NoSuchElementException", wlE40, ncsE _ _ (by simp) (by simp) (by decide)⟩, fun _ hz => absurd hz List.not_mem_nil⟩) ⟨by decide, by decide⟩ (by decide) wlE13 wcE13 (k := 3) (by decide) dL_setHeir_13 dL_setHeir_14 dL_setHeir_17 wk21 g1 g2 g3 hc hv hcl
    rw [cd, if_neg e1] at hu
    by_cases e2 : "java/lang/IllegalStateException" = E
    · subst e2
      rw [cd, if_pos rfl] at hu
      cases hu
      exact w_hand hC hr hE (pre := [(0, 7, 8, 40), (0, 7, 13, 13)]) (suf := []) (a := 0) (b := 7) (h := 18) (ct := 19) ht (v := tJ 3) (List.forall_mem_cons.mpr ⟨⟨by decide, "java/util/NoSuchElementException", wlE40, ncsE _ _ (by simp) (by simp) (by decide)⟩, List.forall_mem_cons.mpr ⟨⟨by decide, "java/lang/IllegalArgumentException", wlE13, ncsE _ _ (by simp) (by simp) (by decide)⟩, fun _ hz => absurd hz List.not_mem_nil⟩⟩) ⟨by decide, by decide⟩ (by decide) wlE19 wcE19 (k := 3) (by decide) dL_setHeir_18 dL_setHeir_19 dL_setHeir_22 wk29 g1 g2 g3 hc hv hcl
    rw [cd, if_neg e2] at hu
    cases hu
  · refine lx_i2l hC dL_setHeir_6 ?_
    exact lx_lretN hC rfl hr dL_setHeir_7
theorem cw_X7_clearHeir : Cond.code yX7_clearHeir cX7_clearHeir 2 (some .int) ∈ gw := gwt5 (List.mem_of_getElem? (i := 109) rfl) (by decide +kernel)
theorem ci_X7_clearHeir : Cond.initialized yX7_clearHeir.cls ∈ gw := gwt1 (List.mem_of_getElem? (i := 1) rfl) (by decide +kernel)
theorem cs_X7_clearHeir : Cond.instanceMethod yX7_clearHeir ∈ gw := gwt5 (List.mem_of_getElem? (i := 107) rfl) (by decide +kernel)
theorem ce_X7_clearHeir : Cond.selects RX7 yX7_clearHeir yX7_clearHeir ∈ gw := gwt5 (List.mem_of_getElem? (i := 108) rfl) (by decide +kernel)
theorem cd_X7_clearHeir : yX7_clearHeir.cls ≠ "java/lang/invoke/MethodHandle" ∧ yX7_clearHeir.cls ≠ "java/lang/invoke/VarHandle" ∧ (parseMethodDescriptor yX7_clearHeir.desc).map (fun d => d.parameters.length) = some 1 := ⟨by decide, by decide, by decide +kernel⟩
def m_L_clearHeir (p0 : Int32) (s : Mem) : Res Int64 := wJ ["java/util/NoSuchElementException", "java/lang/IllegalStateException"] (m_X7_clearHeir p0 s)
theorem n_L_clearHeir (p0 : Int32) (s : Mem) : Mn s (m_L_clearHeir p0 s) := mn_wJ (n_X7_clearHeir p0 s)
theorem wd1086 : Cond.methodLink RL 48 yX7_clearHeir ∈ gw := gwt5 (List.mem_of_getElem? (i := 106) rfl) (by decide +kernel)
theorem cw_L_clearHeir : Cond.codeWith yL_clearHeir cL_clearHeir 3 (some .long) [(0, 6, 7, 40), (0, 6, 12, 19)] ∈ gw := gwt5 (List.mem_of_getElem? (i := 105) rfl) (by decide +kernel)
theorem cs_L_clearHeir : Cond.static yL_clearHeir ∈ gw := gwt5 (List.mem_of_getElem? (i := 104) rfl) (by decide +kernel)
theorem cd_L_clearHeir : yL_clearHeir.cls ≠ "java/lang/invoke/MethodHandle" ∧ yL_clearHeir.cls ≠ "java/lang/invoke/VarHandle" ∧ (parseMethodDescriptor yL_clearHeir.desc).map (fun d => d.parameters.length) = some 2 := ⟨by decide, by decide, by decide +kernel⟩
set_option maxRecDepth 100000 in
set_option maxHeartbeats 2000000 in
theorem sat_L_clearHeir (l : Launch) (hl : l.stackTraces = false) (p0 : Int32) (s : Mem) : SatW l yL_clearHeir (.codeWith yL_clearHeir cL_clearHeir 3 (some .long) [(0, 6, 7, 40), (0, 6, 12, 19)]) 37 660 (fun x => some (.long x)) [.ref 0, .int p0] s (m_L_clearHeir p0 s) := by
  refine satw_of (by decide) (Nat.le_of_ble_eq_true rfl) (fun X V A adV hxl hC hE ht hr => ?_) (n_L_clearHeir p0 s)
  subst hxl
  show LX X V A 37 660 (nC s) (nS s) _ 0 [(0, .ref 0), (1, .int p0)] [] s _
  unfold m_L_clearHeir wJ
  rw [show yL_clearHeir.cls = RL from rfl] at hC
  refine lx_aload_n hC dL_clearHeir_0 rfl 0 rfl ?_
  refine lx_iload_n hC dL_clearHeir_1 rfl 1 rfl ?_
  refine lx_callC hC (sat_X7_clearHeir (xl X) hl p0 s) (run_V (as := [.int p0]) (rest := []) hC hE ly0 rfl cw_X7_clearHeir ci_X7_clearHeir wd1086 cs_X7_clearHeir ce_X7_clearHeir cd_X7_clearHeir (by decide) (by decide) (Nat.le_of_ble_eq_true rfl) dL_clearHeir_2 rfl) (fun E σ1 u hE0 hu R H locs hid ls q ce h2 h3 h4 h5 g1 g2 g3 hc hv hcl => ?_) (fun v s1 _ => ?_)
  · by_cases e0 : "java/util/NoSuchElementException" = E
    · subst e0
      rw [cd, if_pos rfl] at hu
      cases hu
      exact w_hand hC hr hE (pre := []) (suf := [(0, 6, 12, 19)]) (a := 0) (b := 6) (h := 7) (ct := 40) ht (v := tJ 1) (fun z hz => absurd hz List.not_mem_nil) ⟨by decide, by decide⟩ (by decide) wlE40 wcE40 (k := 2) (by decide) dL_clearHeir_7 dL_clearHeir_8 dL_clearHeir_11 wk17 g1 g2 g3 hc hv hcl
    rw [cd, if_neg e0] at hu
    by_cases e1 : "java/lang/IllegalStateException" = E
    · subst e1
      rw [cd, if_pos rfl] at hu
      cases hu
      exact w_hand hC hr hE (pre := [(0, 6, 7, 40)]) (suf := []) (a := 0) (b := 6) (h := 12) (ct := 19) ht (v := tJ 2) (List.forall_mem_cons.mpr ⟨⟨by decide, "java/util/NoSuchElementException", wlE40, ncsE _ _ (by simp) (by simp) (by decide)⟩, fun _ hz => absurd hz List.not_mem_nil⟩) ⟨by decide, by decide⟩ (by decide) wlE19 wcE19 (k := 2) (by decide) dL_clearHeir_12 dL_clearHeir_13 dL_clearHeir_16 wk21 g1 g2 g3 hc hv hcl
    rw [cd, if_neg e1] at hu
    cases hu
  · refine lx_i2l hC dL_clearHeir_5 ?_
    exact lx_lretN hC rfl hr dL_clearHeir_6
theorem cw_X7_lock : Cond.code yX7_lock cX7_lock 2 (some .int) ∈ gw := gwt5 (List.mem_of_getElem? (i := 116) rfl) (by decide +kernel)
theorem ci_X7_lock : Cond.initialized yX7_lock.cls ∈ gw := gwt1 (List.mem_of_getElem? (i := 1) rfl) (by decide +kernel)
theorem cs_X7_lock : Cond.instanceMethod yX7_lock ∈ gw := gwt5 (List.mem_of_getElem? (i := 114) rfl) (by decide +kernel)
theorem ce_X7_lock : Cond.selects RX7 yX7_lock yX7_lock ∈ gw := gwt5 (List.mem_of_getElem? (i := 115) rfl) (by decide +kernel)
theorem cd_X7_lock : yX7_lock.cls ≠ "java/lang/invoke/MethodHandle" ∧ yX7_lock.cls ≠ "java/lang/invoke/VarHandle" ∧ (parseMethodDescriptor yX7_lock.desc).map (fun d => d.parameters.length) = some 1 := ⟨by decide, by decide, by decide +kernel⟩
def m_L_lock (p0 : Int32) (s : Mem) : Res Int64 := wJ ["java/lang/IndexOutOfBoundsException", "java/lang/IllegalStateException"] (m_X7_lock p0 s)
theorem n_L_lock (p0 : Int32) (s : Mem) : Mn s (m_L_lock p0 s) := mn_wJ (n_X7_lock p0 s)
theorem wd1093 : Cond.methodLink RL 51 yX7_lock ∈ gw := gwt5 (List.mem_of_getElem? (i := 113) rfl) (by decide +kernel)
theorem cw_L_lock : Cond.codeWith yL_lock cL_lock 3 (some .long) [(0, 6, 7, 27), (0, 6, 12, 19)] ∈ gw := gwt5 (List.mem_of_getElem? (i := 112) rfl) (by decide +kernel)
theorem cs_L_lock : Cond.static yL_lock ∈ gw := gwt5 (List.mem_of_getElem? (i := 111) rfl) (by decide +kernel)
theorem cd_L_lock : yL_lock.cls ≠ "java/lang/invoke/MethodHandle" ∧ yL_lock.cls ≠ "java/lang/invoke/VarHandle" ∧ (parseMethodDescriptor yL_lock.desc).map (fun d => d.parameters.length) = some 2 := ⟨by decide, by decide, by decide +kernel⟩
set_option maxRecDepth 100000 in
set_option maxHeartbeats 2000000 in
theorem sat_L_lock (l : Launch) (hl : l.stackTraces = false) (p0 : Int32) (s : Mem) : SatW l yL_lock (.codeWith yL_lock cL_lock 3 (some .long) [(0, 6, 7, 27), (0, 6, 12, 19)]) 37 660 (fun x => some (.long x)) [.ref 0, .int p0] s (m_L_lock p0 s) := by
  refine satw_of (by decide) (Nat.le_of_ble_eq_true rfl) (fun X V A adV hxl hC hE ht hr => ?_) (n_L_lock p0 s)
  subst hxl
  show LX X V A 37 660 (nC s) (nS s) _ 0 [(0, .ref 0), (1, .int p0)] [] s _
  unfold m_L_lock wJ
  rw [show yL_lock.cls = RL from rfl] at hC
  refine lx_aload_n hC dL_lock_0 rfl 0 rfl ?_
  refine lx_iload_n hC dL_lock_1 rfl 1 rfl ?_
  refine lx_callC hC (sat_X7_lock (xl X) hl p0 s) (run_V (as := [.int p0]) (rest := []) hC hE ly0 rfl cw_X7_lock ci_X7_lock wd1093 cs_X7_lock ce_X7_lock cd_X7_lock (by decide) (by decide) (Nat.le_of_ble_eq_true rfl) dL_lock_2 rfl) (fun E σ1 u hE0 hu R H locs hid ls q ce h2 h3 h4 h5 g1 g2 g3 hc hv hcl => ?_) (fun v s1 _ => ?_)
  · by_cases e0 : "java/lang/IndexOutOfBoundsException" = E
    · subst e0
      rw [cd, if_pos rfl] at hu
      cases hu
      exact w_hand hC hr hE (pre := []) (suf := [(0, 6, 12, 19)]) (a := 0) (b := 6) (h := 7) (ct := 27) ht (v := tJ 1) (fun z hz => absurd hz List.not_mem_nil) ⟨by decide, by decide⟩ (by decide) wlE27 wcE27 (k := 2) (by decide) dL_lock_7 dL_lock_8 dL_lock_11 wk17 g1 g2 g3 hc hv hcl
    rw [cd, if_neg e0] at hu
    by_cases e1 : "java/lang/IllegalStateException" = E
    · subst e1
      rw [cd, if_pos rfl] at hu
      cases hu
      exact w_hand hC hr hE (pre := [(0, 6, 7, 27)]) (suf := []) (a := 0) (b := 6) (h := 12) (ct := 19) ht (v := tJ 2) (List.forall_mem_cons.mpr ⟨⟨by decide, "java/lang/IndexOutOfBoundsException", wlE27, ncsE _ _ (by simp) (by simp) (by decide)⟩, fun _ hz => absurd hz List.not_mem_nil⟩) ⟨by decide, by decide⟩ (by decide) wlE19 wcE19 (k := 2) (by decide) dL_lock_12 dL_lock_13 dL_lock_16 wk21 g1 g2 g3 hc hv hcl
    rw [cd, if_neg e1] at hu
    cases hu
  · refine lx_i2l hC dL_lock_5 ?_
    exact lx_lretN hC rfl hr dL_lock_6
theorem cw_X7_unlock : Cond.code yX7_unlock cX7_unlock 2 (some .int) ∈ gw := gwt5 (List.mem_of_getElem? (i := 123) rfl) (by decide +kernel)
theorem ci_X7_unlock : Cond.initialized yX7_unlock.cls ∈ gw := gwt1 (List.mem_of_getElem? (i := 1) rfl) (by decide +kernel)
theorem cs_X7_unlock : Cond.instanceMethod yX7_unlock ∈ gw := gwt5 (List.mem_of_getElem? (i := 121) rfl) (by decide +kernel)
theorem ce_X7_unlock : Cond.selects RX7 yX7_unlock yX7_unlock ∈ gw := gwt5 (List.mem_of_getElem? (i := 122) rfl) (by decide +kernel)
theorem cd_X7_unlock : yX7_unlock.cls ≠ "java/lang/invoke/MethodHandle" ∧ yX7_unlock.cls ≠ "java/lang/invoke/VarHandle" ∧ (parseMethodDescriptor yX7_unlock.desc).map (fun d => d.parameters.length) = some 1 := ⟨by decide, by decide, by decide +kernel⟩
def m_L_unlock (p0 : Int32) (s : Mem) : Res Int64 := wJ ["java/lang/IndexOutOfBoundsException", "java/lang/IllegalStateException"] (m_X7_unlock p0 s)
theorem n_L_unlock (p0 : Int32) (s : Mem) : Mn s (m_L_unlock p0 s) := mn_wJ (n_X7_unlock p0 s)
theorem wd1100 : Cond.methodLink RL 54 yX7_unlock ∈ gw := gwt5 (List.mem_of_getElem? (i := 120) rfl) (by decide +kernel)
theorem cw_L_unlock : Cond.codeWith yL_unlock cL_unlock 3 (some .long) [(0, 6, 7, 27), (0, 6, 12, 19)] ∈ gw := gwt5 (List.mem_of_getElem? (i := 119) rfl) (by decide +kernel)
theorem cs_L_unlock : Cond.static yL_unlock ∈ gw := gwt5 (List.mem_of_getElem? (i := 118) rfl) (by decide +kernel)
theorem cd_L_unlock : yL_unlock.cls ≠ "java/lang/invoke/MethodHandle" ∧ yL_unlock.cls ≠ "java/lang/invoke/VarHandle" ∧ (parseMethodDescriptor yL_unlock.desc).map (fun d => d.parameters.length) = some 2 := ⟨by decide, by decide, by decide +kernel⟩
set_option maxRecDepth 100000 in
set_option maxHeartbeats 2000000 in
theorem sat_L_unlock (l : Launch) (hl : l.stackTraces = false) (p0 : Int32) (s : Mem) : SatW l yL_unlock (.codeWith yL_unlock cL_unlock 3 (some .long) [(0, 6, 7, 27), (0, 6, 12, 19)]) 37 660 (fun x => some (.long x)) [.ref 0, .int p0] s (m_L_unlock p0 s) := by
  refine satw_of (by decide) (Nat.le_of_ble_eq_true rfl) (fun X V A adV hxl hC hE ht hr => ?_) (n_L_unlock p0 s)
  subst hxl
  show LX X V A 37 660 (nC s) (nS s) _ 0 [(0, .ref 0), (1, .int p0)] [] s _
  unfold m_L_unlock wJ
  rw [show yL_unlock.cls = RL from rfl] at hC
  refine lx_aload_n hC dL_unlock_0 rfl 0 rfl ?_
  refine lx_iload_n hC dL_unlock_1 rfl 1 rfl ?_
  refine lx_callC hC (sat_X7_unlock (xl X) hl p0 s) (run_V (as := [.int p0]) (rest := []) hC hE ly0 rfl cw_X7_unlock ci_X7_unlock wd1100 cs_X7_unlock ce_X7_unlock cd_X7_unlock (by decide) (by decide) (Nat.le_of_ble_eq_true rfl) dL_unlock_2 rfl) (fun E σ1 u hE0 hu R H locs hid ls q ce h2 h3 h4 h5 g1 g2 g3 hc hv hcl => ?_) (fun v s1 _ => ?_)
  · by_cases e0 : "java/lang/IndexOutOfBoundsException" = E
    · subst e0
      rw [cd, if_pos rfl] at hu
      cases hu
      exact w_hand hC hr hE (pre := []) (suf := [(0, 6, 12, 19)]) (a := 0) (b := 6) (h := 7) (ct := 27) ht (v := tJ 1) (fun z hz => absurd hz List.not_mem_nil) ⟨by decide, by decide⟩ (by decide) wlE27 wcE27 (k := 2) (by decide) dL_unlock_7 dL_unlock_8 dL_unlock_11 wk17 g1 g2 g3 hc hv hcl
    rw [cd, if_neg e0] at hu
    by_cases e1 : "java/lang/IllegalStateException" = E
    · subst e1
      rw [cd, if_pos rfl] at hu
      cases hu
      exact w_hand hC hr hE (pre := [(0, 6, 7, 27)]) (suf := []) (a := 0) (b := 6) (h := 12) (ct := 19) ht (v := tJ 2) (List.forall_mem_cons.mpr ⟨⟨by decide, "java/lang/IndexOutOfBoundsException", wlE27, ncsE _ _ (by simp) (by simp) (by decide)⟩, fun _ hz => absurd hz List.not_mem_nil⟩) ⟨by decide, by decide⟩ (by decide) wlE19 wcE19 (k := 2) (by decide) dL_unlock_12 dL_unlock_13 dL_unlock_16 wk21 g1 g2 g3 hc hv hcl
    rw [cd, if_neg e1] at hu
    cases hu
  · refine lx_i2l hC dL_unlock_5 ?_
    exact lx_lretN hC rfl hr dL_unlock_6
theorem cw_X7_nameRow : Cond.code yX7_nameRow cX7_nameRow 3 (some .int) ∈ gw := gwt5 (List.mem_of_getElem? (i := 130) rfl) (by decide +kernel)
theorem ci_X7_nameRow : Cond.initialized yX7_nameRow.cls ∈ gw := gwt1 (List.mem_of_getElem? (i := 1) rfl) (by decide +kernel)
theorem cs_X7_nameRow : Cond.instanceMethod yX7_nameRow ∈ gw := gwt5 (List.mem_of_getElem? (i := 128) rfl) (by decide +kernel)
theorem ce_X7_nameRow : Cond.selects RX7 yX7_nameRow yX7_nameRow ∈ gw := gwt5 (List.mem_of_getElem? (i := 129) rfl) (by decide +kernel)
theorem cd_X7_nameRow : yX7_nameRow.cls ≠ "java/lang/invoke/MethodHandle" ∧ yX7_nameRow.cls ≠ "java/lang/invoke/VarHandle" ∧ (parseMethodDescriptor yX7_nameRow.desc).map (fun d => d.parameters.length) = some 2 := ⟨by decide, by decide, by decide +kernel⟩
def m_L_nameRow (p0 p1 : Int32) (s : Mem) : Res Int64 := wJ ["java/lang/IllegalArgumentException", "java/lang/IndexOutOfBoundsException"] (m_X7_nameRow p0 p1 s)
theorem n_L_nameRow (p0 p1 : Int32) (s : Mem) : Mn s (m_L_nameRow p0 p1 s) := mn_wJ (n_X7_nameRow p0 p1 s)
theorem wd1107 : Cond.methodLink RL 57 yX7_nameRow ∈ gw := gwt5 (List.mem_of_getElem? (i := 127) rfl) (by decide +kernel)
theorem cw_L_nameRow : Cond.codeWith yL_nameRow cL_nameRow 4 (some .long) [(0, 7, 8, 13), (0, 7, 13, 27)] ∈ gw := gwt5 (List.mem_of_getElem? (i := 126) rfl) (by decide +kernel)
theorem cs_L_nameRow : Cond.static yL_nameRow ∈ gw := gwt5 (List.mem_of_getElem? (i := 125) rfl) (by decide +kernel)
theorem cd_L_nameRow : yL_nameRow.cls ≠ "java/lang/invoke/MethodHandle" ∧ yL_nameRow.cls ≠ "java/lang/invoke/VarHandle" ∧ (parseMethodDescriptor yL_nameRow.desc).map (fun d => d.parameters.length) = some 3 := ⟨by decide, by decide, by decide +kernel⟩
set_option maxRecDepth 100000 in
set_option maxHeartbeats 2000000 in
theorem sat_L_nameRow (l : Launch) (hl : l.stackTraces = false) (p0 p1 : Int32) (s : Mem) : SatW l yL_nameRow (.codeWith yL_nameRow cL_nameRow 4 (some .long) [(0, 7, 8, 13), (0, 7, 13, 27)]) 37 661 (fun x => some (.long x)) [.ref 0, .int p0, .int p1] s (m_L_nameRow p0 p1 s) := by
  refine satw_of (by decide) (Nat.le_of_ble_eq_true rfl) (fun X V A adV hxl hC hE ht hr => ?_) (n_L_nameRow p0 p1 s)
  subst hxl
  show LX X V A 37 661 (nC s) (nS s) _ 0 [(0, .ref 0), (1, .int p0), (2, .int p1)] [] s _
  unfold m_L_nameRow wJ
  rw [show yL_nameRow.cls = RL from rfl] at hC
  refine lx_aload_n hC dL_nameRow_0 rfl 0 rfl ?_
  refine lx_iload_n hC dL_nameRow_1 rfl 1 rfl ?_
  refine lx_iload_n hC dL_nameRow_2 rfl 2 rfl ?_
  refine lx_callC hC (sat_X7_nameRow (xl X) hl p0 p1 s) (run_V (as := [.int p0, .int p1]) (rest := []) hC hE ly0 rfl cw_X7_nameRow ci_X7_nameRow wd1107 cs_X7_nameRow ce_X7_nameRow cd_X7_nameRow (by decide) (by decide) (Nat.le_of_ble_eq_true rfl) dL_nameRow_3 rfl) (fun E σ1 u hE0 hu R H locs hid ls q ce h2 h3 h4 h5 g1 g2 g3 hc hv hcl => ?_) (fun v s1 _ => ?_)
  · by_cases e0 : "java/lang/IllegalArgumentException" = E
    · subst e0
      rw [cd, if_pos rfl] at hu
      cases hu
      exact w_hand hC hr hE (pre := []) (suf := [(0, 7, 13, 27)]) (a := 0) (b := 7) (h := 8) (ct := 13) ht (v := tJ 1) (fun z hz => absurd hz List.not_mem_nil) ⟨by decide, by decide⟩ (by decide) wlE13 wcE13 (k := 3) (by decide) dL_nameRow_8 dL_nameRow_9 dL_nameRow_12 wk17 g1 g2 g3 hc hv hcl
    rw [cd, if_neg e0] at hu
    by_cases e1 : "java/lang/IndexOutOfBoundsException" = E
    · subst e1
      rw [cd, if_pos rfl] at hu
      cases hu
      exact w_hand hC hr hE (pre := [(0, 7, 8, 13)]) (suf := []) (a := 0) (b := 7) (h := 13) (ct := 27) ht (v := tJ 2) (List.forall_mem_cons.mpr ⟨⟨by decide, "java/lang/IllegalArgumentException", wlE13, ncsE _ _ (by simp) (by simp) (by decide)⟩, fun _ hz => absurd hz List.not_mem_nil⟩) ⟨by decide, by decide⟩ (by decide) wlE27 wcE27 (k := 3) (by decide) dL_nameRow_13 dL_nameRow_14 dL_nameRow_17 wk21 g1 g2 g3 hc hv hcl
    rw [cd, if_neg e1] at hu
    cases hu
  · refine lx_i2l hC dL_nameRow_6 ?_
    exact lx_lretN hC rfl hr dL_nameRow_7
theorem cw_X7_spread : Cond.code yX7_spread cX7_spread 2 (some .int) ∈ gw := gwt5 (List.mem_of_getElem? (i := 137) rfl) (by decide +kernel)
theorem ci_X7_spread : Cond.initialized yX7_spread.cls ∈ gw := gwt1 (List.mem_of_getElem? (i := 1) rfl) (by decide +kernel)
theorem cs_X7_spread : Cond.instanceMethod yX7_spread ∈ gw := gwt5 (List.mem_of_getElem? (i := 135) rfl) (by decide +kernel)
theorem ce_X7_spread : Cond.selects RX7 yX7_spread yX7_spread ∈ gw := gwt5 (List.mem_of_getElem? (i := 136) rfl) (by decide +kernel)
theorem cd_X7_spread : yX7_spread.cls ≠ "java/lang/invoke/MethodHandle" ∧ yX7_spread.cls ≠ "java/lang/invoke/VarHandle" ∧ (parseMethodDescriptor yX7_spread.desc).map (fun d => d.parameters.length) = some 1 := ⟨by decide, by decide, by decide +kernel⟩
def m_L_spread (p0 : Int32) (s : Mem) : Res Int64 := wJ ["java/lang/IndexOutOfBoundsException", "java/lang/IllegalStateException"] (m_X7_spread p0 s)
theorem n_L_spread (p0 : Int32) (s : Mem) : Mn s (m_L_spread p0 s) := mn_wJ (n_X7_spread p0 s)
theorem wd1114 : Cond.methodLink RL 61 yX7_spread ∈ gw := gwt5 (List.mem_of_getElem? (i := 134) rfl) (by decide +kernel)
theorem cw_L_spread : Cond.codeWith yL_spread cL_spread 3 (some .long) [(0, 6, 7, 27), (0, 6, 12, 19)] ∈ gw := gwt5 (List.mem_of_getElem? (i := 133) rfl) (by decide +kernel)
theorem cs_L_spread : Cond.static yL_spread ∈ gw := gwt5 (List.mem_of_getElem? (i := 132) rfl) (by decide +kernel)
theorem cd_L_spread : yL_spread.cls ≠ "java/lang/invoke/MethodHandle" ∧ yL_spread.cls ≠ "java/lang/invoke/VarHandle" ∧ (parseMethodDescriptor yL_spread.desc).map (fun d => d.parameters.length) = some 2 := ⟨by decide, by decide, by decide +kernel⟩
set_option maxRecDepth 100000 in
set_option maxHeartbeats 2000000 in
theorem sat_L_spread (l : Launch) (hl : l.stackTraces = false) (p0 : Int32) (s : Mem) : SatW l yL_spread (.codeWith yL_spread cL_spread 3 (some .long) [(0, 6, 7, 27), (0, 6, 12, 19)]) 37 660 (fun x => some (.long x)) [.ref 0, .int p0] s (m_L_spread p0 s) := by
  refine satw_of (by decide) (Nat.le_of_ble_eq_true rfl) (fun X V A adV hxl hC hE ht hr => ?_) (n_L_spread p0 s)
  subst hxl
  show LX X V A 37 660 (nC s) (nS s) _ 0 [(0, .ref 0), (1, .int p0)] [] s _
  unfold m_L_spread wJ
  rw [show yL_spread.cls = RL from rfl] at hC
  refine lx_aload_n hC dL_spread_0 rfl 0 rfl ?_
  refine lx_iload_n hC dL_spread_1 rfl 1 rfl ?_
  refine lx_callC hC (sat_X7_spread (xl X) hl p0 s) (run_V (as := [.int p0]) (rest := []) hC hE ly0 rfl cw_X7_spread ci_X7_spread wd1114 cs_X7_spread ce_X7_spread cd_X7_spread (by decide) (by decide) (Nat.le_of_ble_eq_true rfl) dL_spread_2 rfl) (fun E σ1 u hE0 hu R H locs hid ls q ce h2 h3 h4 h5 g1 g2 g3 hc hv hcl => ?_) (fun v s1 _ => ?_)
  · by_cases e0 : "java/lang/IndexOutOfBoundsException" = E
    · subst e0
      rw [cd, if_pos rfl] at hu
      cases hu
      exact w_hand hC hr hE (pre := []) (suf := [(0, 6, 12, 19)]) (a := 0) (b := 6) (h := 7) (ct := 27) ht (v := tJ 1) (fun z hz => absurd hz List.not_mem_nil) ⟨by decide, by decide⟩ (by decide) wlE27 wcE27 (k := 2) (by decide) dL_spread_7 dL_spread_8 dL_spread_11 wk17 g1 g2 g3 hc hv hcl
    rw [cd, if_neg e0] at hu
    by_cases e1 : "java/lang/IllegalStateException" = E
    · subst e1
      rw [cd, if_pos rfl] at hu
      cases hu
      exact w_hand hC hr hE (pre := [(0, 6, 7, 27)]) (suf := []) (a := 0) (b := 6) (h := 12) (ct := 19) ht (v := tJ 2) (List.forall_mem_cons.mpr ⟨⟨by decide, "java/lang/IndexOutOfBoundsException", wlE27, ncsE _ _ (by simp) (by simp) (by decide)⟩, fun _ hz => absurd hz List.not_mem_nil⟩) ⟨by decide, by decide⟩ (by decide) wlE19 wcE19 (k := 2) (by decide) dL_spread_12 dL_spread_13 dL_spread_16 wk21 g1 g2 g3 hc hv hcl
    rw [cd, if_neg e1] at hu
    cases hu
  · refine lx_i2l hC dL_spread_5 ?_
    exact lx_lretN hC rfl hr dL_spread_6
theorem cw_X7_capacity : Cond.code yX7_capacity cX7_capacity 2 (some .int) ∈ gw := gwt6 (List.mem_of_getElem? (i := 104) rfl) (by decide +kernel)
theorem ci_X7_capacity : Cond.initialized yX7_capacity.cls ∈ gw := gwt1 (List.mem_of_getElem? (i := 1) rfl) (by decide +kernel)
theorem cs_X7_capacity : Cond.instanceMethod yX7_capacity ∈ gw := gwt6 (List.mem_of_getElem? (i := 102) rfl) (by decide +kernel)
theorem ce_X7_capacity : Cond.selects RX7 yX7_capacity yX7_capacity ∈ gw := gwt6 (List.mem_of_getElem? (i := 103) rfl) (by decide +kernel)
theorem cd_X7_capacity : yX7_capacity.cls ≠ "java/lang/invoke/MethodHandle" ∧ yX7_capacity.cls ≠ "java/lang/invoke/VarHandle" ∧ (parseMethodDescriptor yX7_capacity.desc).map (fun d => d.parameters.length) = some 1 := ⟨by decide, by decide, by decide +kernel⟩
def m_L_capacity (p0 : Int32) (s : Mem) : Res Int64 := wJ ["java/lang/IndexOutOfBoundsException"] (m_X7_capacity p0 s)
theorem n_L_capacity (p0 : Int32) (s : Mem) : Mn s (m_L_capacity p0 s) := mn_wJ (n_X7_capacity p0 s)
theorem wd1321 : Cond.methodLink RL 68 yX7_capacity ∈ gw := gwt6 (List.mem_of_getElem? (i := 101) rfl) (by decide +kernel)
theorem cw_L_capacity : Cond.codeWith yL_capacity cL_capacity 3 (some .long) [(0, 6, 7, 27)] ∈ gw := gwt6 (List.mem_of_getElem? (i := 100) rfl) (by decide +kernel)
theorem cs_L_capacity : Cond.static yL_capacity ∈ gw := gwt6 (List.mem_of_getElem? (i := 99) rfl) (by decide +kernel)
theorem cd_L_capacity : yL_capacity.cls ≠ "java/lang/invoke/MethodHandle" ∧ yL_capacity.cls ≠ "java/lang/invoke/VarHandle" ∧ (parseMethodDescriptor yL_capacity.desc).map (fun d => d.parameters.length) = some 2 := ⟨by decide, by decide, by decide +kernel⟩
set_option maxRecDepth 100000 in
set_option maxHeartbeats 2000000 in
theorem sat_L_capacity (l : Launch) (hl : l.stackTraces = false) (p0 : Int32) (s : Mem) : SatW l yL_capacity (.codeWith yL_capacity cL_capacity 3 (some .long) [(0, 6, 7, 27)]) 33 564 (fun x => some (.long x)) [.ref 0, .int p0] s (m_L_capacity p0 s) := by
  refine satw_of (by decide) (Nat.le_of_ble_eq_true rfl) (fun X V A adV hxl hC hE ht hr => ?_) (n_L_capacity p0 s)
  subst hxl
  show LX X V A 33 564 (nC s) (nS s) _ 0 [(0, .ref 0), (1, .int p0)] [] s _
  unfold m_L_capacity wJ
  rw [show yL_capacity.cls = RL from rfl] at hC
  refine lx_aload_n hC dL_capacity_0 rfl 0 rfl ?_
  refine lx_iload_n hC dL_capacity_1 rfl 1 rfl ?_
  refine lx_callC hC (sat_X7_capacity (xl X) hl p0 s) (run_V (as := [.int p0]) (rest := []) hC hE ly0 rfl cw_X7_capacity ci_X7_capacity wd1321 cs_X7_capacity ce_X7_capacity cd_X7_capacity (by decide) (by decide) (Nat.le_of_ble_eq_true rfl) dL_capacity_2 rfl) (fun E σ1 u hE0 hu R H locs hid ls q ce h2 h3 h4 h5 g1 g2 g3 hc hv hcl => ?_) (fun v s1 _ => ?_)
  · by_cases e0 : "java/lang/IndexOutOfBoundsException" = E
    · subst e0
      rw [cd, if_pos rfl] at hu
      cases hu
      exact w_hand hC hr hE (pre := []) (suf := []) (a := 0) (b := 6) (h := 7) (ct := 27) ht (v := tJ 1) (fun z hz => absurd hz List.not_mem_nil) ⟨by decide, by decide⟩ (by decide) wlE27 wcE27 (k := 2) (by decide) dL_capacity_7 dL_capacity_8 dL_capacity_11 wk17 g1 g2 g3 hc hv hcl
    rw [cd, if_neg e0] at hu
    cases hu
  · refine lx_i2l hC dL_capacity_5 ?_
    exact lx_lretN hC rfl hr dL_capacity_6
theorem cw_X7_occupancy : Cond.code yX7_occupancy cX7_occupancy 2 (some .int) ∈ gw := gwt6 (List.mem_of_getElem? (i := 90) rfl) (by decide +kernel)
theorem ci_X7_occupancy : Cond.initialized yX7_occupancy.cls ∈ gw := gwt1 (List.mem_of_getElem? (i := 1) rfl) (by decide +kernel)
theorem cs_X7_occupancy : Cond.instanceMethod yX7_occupancy ∈ gw := gwt6 (List.mem_of_getElem? (i := 88) rfl) (by decide +kernel)
theorem ce_X7_occupancy : Cond.selects RX7 yX7_occupancy yX7_occupancy ∈ gw := gwt6 (List.mem_of_getElem? (i := 89) rfl) (by decide +kernel)
theorem cd_X7_occupancy : yX7_occupancy.cls ≠ "java/lang/invoke/MethodHandle" ∧ yX7_occupancy.cls ≠ "java/lang/invoke/VarHandle" ∧ (parseMethodDescriptor yX7_occupancy.desc).map (fun d => d.parameters.length) = some 1 := ⟨by decide, by decide, by decide +kernel⟩
def m_L_occupancy (p0 : Int32) (s : Mem) : Res Int64 := wJ ["java/lang/IndexOutOfBoundsException"] (m_X7_occupancy p0 s)
theorem n_L_occupancy (p0 : Int32) (s : Mem) : Mn s (m_L_occupancy p0 s) := mn_wJ (n_X7_occupancy p0 s)
theorem wd1307 : Cond.methodLink RL 74 yX7_occupancy ∈ gw := gwt6 (List.mem_of_getElem? (i := 87) rfl) (by decide +kernel)
theorem cw_L_occupancy : Cond.codeWith yL_occupancy cL_occupancy 3 (some .long) [(0, 6, 7, 27)] ∈ gw := gwt6 (List.mem_of_getElem? (i := 86) rfl) (by decide +kernel)
theorem cs_L_occupancy : Cond.static yL_occupancy ∈ gw := gwt6 (List.mem_of_getElem? (i := 85) rfl) (by decide +kernel)
theorem cd_L_occupancy : yL_occupancy.cls ≠ "java/lang/invoke/MethodHandle" ∧ yL_occupancy.cls ≠ "java/lang/invoke/VarHandle" ∧ (parseMethodDescriptor yL_occupancy.desc).map (fun d => d.parameters.length) = some 2 := ⟨by decide, by decide, by decide +kernel⟩
set_option maxRecDepth 100000 in
set_option maxHeartbeats 2000000 in
theorem sat_L_occupancy (l : Launch) (hl : l.stackTraces = false) (p0 : Int32) (s : Mem) : SatW l yL_occupancy (.codeWith yL_occupancy cL_occupancy 3 (some .long) [(0, 6, 7, 27)]) 33 564 (fun x => some (.long x)) [.ref 0, .int p0] s (m_L_occupancy p0 s) := by
  refine satw_of (by decide) (Nat.le_of_ble_eq_true rfl) (fun X V A adV hxl hC hE ht hr => ?_) (n_L_occupancy p0 s)
  subst hxl
  show LX X V A 33 564 (nC s) (nS s) _ 0 [(0, .ref 0), (1, .int p0)] [] s _
  unfold m_L_occupancy wJ
  rw [show yL_occupancy.cls = RL from rfl] at hC
  refine lx_aload_n hC dL_occupancy_0 rfl 0 rfl ?_
  refine lx_iload_n hC dL_occupancy_1 rfl 1 rfl ?_
  refine lx_callC hC (sat_X7_occupancy (xl X) hl p0 s) (run_V (as := [.int p0]) (rest := []) hC hE ly0 rfl cw_X7_occupancy ci_X7_occupancy wd1307 cs_X7_occupancy ce_X7_occupancy cd_X7_occupancy (by decide) (by decide) (Nat.le_of_ble_eq_true rfl) dL_occupancy_2 rfl) (fun E σ1 u hE0 hu R H locs hid ls q ce h2 h3 h4 h5 g1 g2 g3 hc hv hcl => ?_) (fun v s1 _ => ?_)
  · by_cases e0 : "java/lang/IndexOutOfBoundsException" = E
    · subst e0
      rw [cd, if_pos rfl] at hu
      cases hu
      exact w_hand hC hr hE (pre := []) (suf := []) (a := 0) (b := 6) (h := 7) (ct := 27) ht (v := tJ 1) (fun z hz => absurd hz List.not_mem_nil) ⟨by decide, by decide⟩ (by decide) wlE27 wcE27 (k := 2) (by decide) dL_occupancy_7 dL_occupancy_8 dL_occupancy_11 wk17 g1 g2 g3 hc hv hcl
    rw [cd, if_neg e0] at hu
    cases hu
  · refine lx_i2l hC dL_occupancy_5 ?_
    exact lx_lretN hC rfl hr dL_occupancy_6
theorem cw_X7_isLocked : Cond.code yX7_isLocked cX7_isLocked 2 (some .boolean) ∈ gw := gwt6 (List.mem_of_getElem? (i := 97) rfl) (by decide +kernel)
theorem ci_X7_isLocked : Cond.initialized yX7_isLocked.cls ∈ gw := gwt1 (List.mem_of_getElem? (i := 1) rfl) (by decide +kernel)
theorem cs_X7_isLocked : Cond.instanceMethod yX7_isLocked ∈ gw := gwt6 (List.mem_of_getElem? (i := 95) rfl) (by decide +kernel)
theorem ce_X7_isLocked : Cond.selects RX7 yX7_isLocked yX7_isLocked ∈ gw := gwt6 (List.mem_of_getElem? (i := 96) rfl) (by decide +kernel)
theorem cd_X7_isLocked : yX7_isLocked.cls ≠ "java/lang/invoke/MethodHandle" ∧ yX7_isLocked.cls ≠ "java/lang/invoke/VarHandle" ∧ (parseMethodDescriptor yX7_isLocked.desc).map (fun d => d.parameters.length) = some 1 := ⟨by decide, by decide, by decide +kernel⟩
def m_L_isLocked (p0 : Int32) (s : Mem) : Res Int64 := wZ ["java/lang/IndexOutOfBoundsException"] (m_X7_isLocked p0 s)
theorem n_L_isLocked (p0 : Int32) (s : Mem) : Mn s (m_L_isLocked p0 s) := mn_wZ (n_X7_isLocked p0 s)
theorem wd1314 : Cond.methodLink RL 83 yX7_isLocked ∈ gw := gwt6 (List.mem_of_getElem? (i := 94) rfl) (by decide +kernel)
theorem cw_L_isLocked : Cond.codeWith yL_isLocked cL_isLocked 3 (some .long) [(0, 13, 14, 27)] ∈ gw := gwt6 (List.mem_of_getElem? (i := 93) rfl) (by decide +kernel)
theorem cs_L_isLocked : Cond.static yL_isLocked ∈ gw := gwt6 (List.mem_of_getElem? (i := 92) rfl) (by decide +kernel)
theorem cd_L_isLocked : yL_isLocked.cls ≠ "java/lang/invoke/MethodHandle" ∧ yL_isLocked.cls ≠ "java/lang/invoke/VarHandle" ∧ (parseMethodDescriptor yL_isLocked.desc).map (fun d => d.parameters.length) = some 2 := ⟨by decide, by decide, by decide +kernel⟩
set_option maxRecDepth 100000 in
set_option maxHeartbeats 2000000 in
theorem sat_L_isLocked (l : Launch) (hl : l.stackTraces = false) (p0 : Int32) (s : Mem) : SatW l yL_isLocked (.codeWith yL_isLocked cL_isLocked 3 (some .long) [(0, 13, 14, 27)]) 33 564 (fun x => some (.long x)) [.ref 0, .int p0] s (m_L_isLocked p0 s) := by
  refine satw_of (by decide) (Nat.le_of_ble_eq_true rfl) (fun X V A adV hxl hC hE ht hr => ?_) (n_L_isLocked p0 s)
  subst hxl
  show LX X V A 33 564 (nC s) (nS s) _ 0 [(0, .ref 0), (1, .int p0)] [] s _
  unfold m_L_isLocked wZ
  rw [show yL_isLocked.cls = RL from rfl] at hC
  refine lx_aload_n hC dL_isLocked_0 rfl 0 rfl ?_
  refine lx_iload_n hC dL_isLocked_1 rfl 1 rfl ?_
  refine lx_callC hC (sat_X7_isLocked (xl X) hl p0 s) (run_V (as := [.int p0]) (rest := []) hC hE ly0 rfl cw_X7_isLocked ci_X7_isLocked wd1314 cs_X7_isLocked ce_X7_isLocked cd_X7_isLocked (by decide) (by decide) (Nat.le_of_ble_eq_true rfl) dL_isLocked_2 rfl) (fun E σ1 u hE0 hu R H locs hid ls q ce h2 h3 h4 h5 g1 g2 g3 hc hv hcl => ?_) (fun v s1 _ => ?_)
  · by_cases e0 : "java/lang/IndexOutOfBoundsException" = E
    · subst e0
      rw [cd, if_pos rfl] at hu
      cases hu
      exact w_hand hC hr hE (pre := []) (suf := []) (a := 0) (b := 13) (h := 14) (ct := 27) ht (v := tJ 1) (fun z hz => absurd hz List.not_mem_nil) ⟨by decide, by decide⟩ (by decide) wlE27 wcE27 (k := 2) (by decide) dL_isLocked_14 dL_isLocked_15 dL_isLocked_18 wk17 g1 g2 g3 hc hv hcl
    rw [cd, if_neg e0] at hu
    cases hu
  · refine lx_if_eq hC 12 dL_isLocked_5 (by decide) ?_ ?_
    · refine lx_lconst (v := 0) hC dL_isLocked_12 rfl ?_
      exact lx_lretN hC rfl hr dL_isLocked_13
    · refine lx_lconst (v := 1) hC dL_isLocked_8 rfl ?_
      refine lx_goto hC 13 dL_isLocked_9 (by decide) ?_
      exact lx_lretN hC rfl hr dL_isLocked_13
theorem cw_X7_isCrowded : Cond.code yX7_isCrowded cX7_isCrowded 2 (some .boolean) ∈ gw := gwt6 (List.mem_of_getElem? (i := 111) rfl) (by decide +kernel)
theorem ci_X7_isCrowded : Cond.initialized yX7_isCrowded.cls ∈ gw := gwt1 (List.mem_of_getElem? (i := 1) rfl) (by decide +kernel)
theorem cs_X7_isCrowded : Cond.instanceMethod yX7_isCrowded ∈ gw := gwt6 (List.mem_of_getElem? (i := 109) rfl) (by decide +kernel)
theorem ce_X7_isCrowded : Cond.selects RX7 yX7_isCrowded yX7_isCrowded ∈ gw := gwt6 (List.mem_of_getElem? (i := 110) rfl) (by decide +kernel)
theorem cd_X7_isCrowded : yX7_isCrowded.cls ≠ "java/lang/invoke/MethodHandle" ∧ yX7_isCrowded.cls ≠ "java/lang/invoke/VarHandle" ∧ (parseMethodDescriptor yX7_isCrowded.desc).map (fun d => d.parameters.length) = some 1 := ⟨by decide, by decide, by decide +kernel⟩
def m_L_isCrowded (p0 : Int32) (s : Mem) : Res Int64 := wZ ["java/lang/IndexOutOfBoundsException"] (m_X7_isCrowded p0 s)
theorem n_L_isCrowded (p0 : Int32) (s : Mem) : Mn s (m_L_isCrowded p0 s) := mn_wZ (n_X7_isCrowded p0 s)
theorem wd1328 : Cond.methodLink RL 87 yX7_isCrowded ∈ gw := gwt6 (List.mem_of_getElem? (i := 108) rfl) (by decide +kernel)
theorem cw_L_isCrowded : Cond.codeWith yL_isCrowded cL_isCrowded 3 (some .long) [(0, 13, 14, 27)] ∈ gw := gwt6 (List.mem_of_getElem? (i := 107) rfl) (by decide +kernel)
theorem cs_L_isCrowded : Cond.static yL_isCrowded ∈ gw := gwt6 (List.mem_of_getElem? (i := 106) rfl) (by decide +kernel)
theorem cd_L_isCrowded : yL_isCrowded.cls ≠ "java/lang/invoke/MethodHandle" ∧ yL_isCrowded.cls ≠ "java/lang/invoke/VarHandle" ∧ (parseMethodDescriptor yL_isCrowded.desc).map (fun d => d.parameters.length) = some 2 := ⟨by decide, by decide, by decide +kernel⟩
set_option maxRecDepth 100000 in
set_option maxHeartbeats 2000000 in
theorem sat_L_isCrowded (l : Launch) (hl : l.stackTraces = false) (p0 : Int32) (s : Mem) : SatW l yL_isCrowded (.codeWith yL_isCrowded cL_isCrowded 3 (some .long) [(0, 13, 14, 27)]) 33 565 (fun x => some (.long x)) [.ref 0, .int p0] s (m_L_isCrowded p0 s) := by
  refine satw_of (by decide) (Nat.le_of_ble_eq_true rfl) (fun X V A adV hxl hC hE ht hr => ?_) (n_L_isCrowded p0 s)
  subst hxl
  show LX X V A 33 565 (nC s) (nS s) _ 0 [(0, .ref 0), (1, .int p0)] [] s _
  unfold m_L_isCrowded wZ
  rw [show yL_isCrowded.cls = RL from rfl] at hC
  refine lx_aload_n hC dL_isCrowded_0 rfl 0 rfl ?_
  refine lx_iload_n hC dL_isCrowded_1 rfl 1 rfl ?_
  refine lx_callC hC (sat_X7_isCrowded (xl X) hl p0 s) (run_V (as := [.int p0]) (rest := []) hC hE ly0 rfl cw_X7_isCrowded ci_X7_isCrowded wd1328 cs_X7_isCrowded ce_X7_isCrowded cd_X7_isCrowded (by decide) (by decide) (Nat.le_of_ble_eq_true rfl) dL_isCrowded_2 rfl) (fun E σ1 u hE0 hu R H locs hid ls q ce h2 h3 h4 h5 g1 g2 g3 hc hv hcl => ?_) (fun v s1 _ => ?_)
  · by_cases e0 : "java/lang/IndexOutOfBoundsException" = E
    · subst e0
      rw [cd, if_pos rfl] at hu
      cases hu
      exact w_hand hC hr hE (pre := []) (suf := []) (a := 0) (b := 13) (h := 14) (ct := 27) ht (v := tJ 1) (fun z hz => absurd hz List.not_mem_nil) ⟨by decide, by decide⟩ (by decide) wlE27 wcE27 (k := 2) (by decide) dL_isCrowded_14 dL_isCrowded_15 dL_isCrowded_18 wk17 g1 g2 g3 hc hv hcl
    rw [cd, if_neg e0] at hu
    cases hu
  · refine lx_if_eq hC 12 dL_isCrowded_5 (by decide) ?_ ?_
    · refine lx_lconst (v := 0) hC dL_isCrowded_12 rfl ?_
      exact lx_lretN hC rfl hr dL_isCrowded_13
    · refine lx_lconst (v := 1) hC dL_isCrowded_8 rfl ?_
      refine lx_goto hC 13 dL_isCrowded_9 (by decide) ?_
      exact lx_lretN hC rfl hr dL_isCrowded_13
theorem cw_X7_idInRow : Cond.code yX7_idInRow cX7_idInRow 4 (some .int) ∈ gw := gwt6 (List.mem_of_getElem? (i := 157) rfl) (by decide +kernel)
theorem ci_X7_idInRow : Cond.initialized yX7_idInRow.cls ∈ gw := gwt1 (List.mem_of_getElem? (i := 1) rfl) (by decide +kernel)
theorem cs_X7_idInRow : Cond.instanceMethod yX7_idInRow ∈ gw := gwt6 (List.mem_of_getElem? (i := 155) rfl) (by decide +kernel)
theorem ce_X7_idInRow : Cond.selects RX7 yX7_idInRow yX7_idInRow ∈ gw := gwt6 (List.mem_of_getElem? (i := 156) rfl) (by decide +kernel)
theorem cd_X7_idInRow : yX7_idInRow.cls ≠ "java/lang/invoke/MethodHandle" ∧ yX7_idInRow.cls ≠ "java/lang/invoke/VarHandle" ∧ (parseMethodDescriptor yX7_idInRow.desc).map (fun d => d.parameters.length) = some 2 := ⟨by decide, by decide, by decide +kernel⟩
def m_L_idInRow (p0 p1 : Int32) (s : Mem) : Res Int64 := wJ ["java/lang/IndexOutOfBoundsException", "java/util/NoSuchElementException"] (m_X7_idInRow p0 p1 s)
theorem n_L_idInRow (p0 p1 : Int32) (s : Mem) : Mn s (m_L_idInRow p0 p1 s) := mn_wJ (n_X7_idInRow p0 p1 s)
theorem wd1374 : Cond.methodLink RL 90 yX7_idInRow ∈ gw := gwt6 (List.mem_of_getElem? (i := 154) rfl) (by decide +kernel)
theorem cw_L_idInRow : Cond.codeWith yL_idInRow cL_idInRow 4 (some .long) [(0, 7, 8, 27), (0, 7, 13, 40)] ∈ gw := gwt6 (List.mem_of_getElem? (i := 153) rfl) (by decide +kernel)
theorem cs_L_idInRow : Cond.static yL_idInRow ∈ gw := gwt6 (List.mem_of_getElem? (i := 152) rfl) (by decide +kernel)
theorem cd_L_idInRow : yL_idInRow.cls ≠ "java/lang/invoke/MethodHandle" ∧ yL_idInRow.cls ≠ "java/lang/invoke/VarHandle" ∧ (parseMethodDescriptor yL_idInRow.desc).map (fun d => d.parameters.length) = some 3 := ⟨by decide, by decide, by decide +kernel⟩
set_option maxRecDepth 100000 in
set_option maxHeartbeats 2000000 in
theorem sat_L_idInRow (l : Launch) (hl : l.stackTraces = false) (p0 p1 : Int32) (s : Mem) : SatW l yL_idInRow (.codeWith yL_idInRow cL_idInRow 4 (some .long) [(0, 7, 8, 27), (0, 7, 13, 40)]) 33 566 (fun x => some (.long x)) [.ref 0, .int p0, .int p1] s (m_L_idInRow p0 p1 s) := by
  refine satw_of (by decide) (Nat.le_of_ble_eq_true rfl) (fun X V A adV hxl hC hE ht hr => ?_) (n_L_idInRow p0 p1 s)
  subst hxl
  show LX X V A 33 566 (nC s) (nS s) _ 0 [(0, .ref 0), (1, .int p0), (2, .int p1)] [] s _
  unfold m_L_idInRow wJ
  rw [show yL_idInRow.cls = RL from rfl] at hC
  refine lx_aload_n hC dL_idInRow_0 rfl 0 rfl ?_
  refine lx_iload_n hC dL_idInRow_1 rfl 1 rfl ?_
  refine lx_iload_n hC dL_idInRow_2 rfl 2 rfl ?_
  refine lx_callC hC (sat_X7_idInRow (xl X) hl p0 p1 s) (run_V (as := [.int p0, .int p1]) (rest := []) hC hE ly0 rfl cw_X7_idInRow ci_X7_idInRow wd1374 cs_X7_idInRow ce_X7_idInRow cd_X7_idInRow (by decide) (by decide) (Nat.le_of_ble_eq_true rfl) dL_idInRow_3 rfl) (fun E σ1 u hE0 hu R H locs hid ls q ce h2 h3 h4 h5 g1 g2 g3 hc hv hcl => ?_) (fun v s1 _ => ?_)
  · by_cases e0 : "java/lang/IndexOutOfBoundsException" = E
    · subst e0
      rw [cd, if_pos rfl] at hu
      cases hu
      exact w_hand hC hr hE (pre := []) (suf := [(0, 7, 13, 40)]) (a := 0) (b := 7) (h := 8) (ct := 27) ht (v := tJ 1) (fun z hz => absurd hz List.not_mem_nil) ⟨by decide, by decide⟩ (by decide) wlE27 wcE27 (k := 3) (by decide) dL_idInRow_8 dL_idInRow_9 dL_idInRow_12 wk17 g1 g2 g3 hc hv hcl
    rw [cd, if_neg e0] at hu
    by_cases e1 : "java/util/NoSuchElementException" = E
    · subst e1
      rw [cd, if_pos rfl] at hu
      cases hu
      exact w_hand hC hr hE (pre := [(0, 7, 8, 27)]) (suf := []) (a := 0) (b := 7) (h := 13) (ct := 40) ht (v := tJ 2) (List.forall_mem_cons.mpr ⟨⟨by decide, "java/lang/IndexOutOfBoundsException", wlE27, ncsE _ _ (by simp) (by simp) (by decide)⟩, fun _ hz => absurd hz List.not_mem_nil⟩) ⟨by decide, by decide⟩ (by decide) wlE40 wcE40 (k := 3) (by decide) dL_idInRow_13 dL_idInRow_14 dL_idInRow_17 wk21 g1 g2 g3 hc hv hcl
    rw [cd, if_neg e1] at hu
    cases hu
  · refine lx_i2l hC dL_idInRow_6 ?_
    exact lx_lretN hC rfl hr dL_idInRow_7
theorem cw_X7_rowOf : Cond.code yX7_rowOf cX7_rowOf 2 (some .int) ∈ gw := gwt6 (List.mem_of_getElem? (i := 142) rfl) (by decide +kernel)
theorem ci_X7_rowOf : Cond.initialized yX7_rowOf.cls ∈ gw := gwt1 (List.mem_of_getElem? (i := 1) rfl) (by decide +kernel)
theorem cs_X7_rowOf : Cond.instanceMethod yX7_rowOf ∈ gw := gwt6 (List.mem_of_getElem? (i := 140) rfl) (by decide +kernel)
theorem ce_X7_rowOf : Cond.selects RX7 yX7_rowOf yX7_rowOf ∈ gw := gwt6 (List.mem_of_getElem? (i := 141) rfl) (by decide +kernel)
theorem cd_X7_rowOf : yX7_rowOf.cls ≠ "java/lang/invoke/MethodHandle" ∧ yX7_rowOf.cls ≠ "java/lang/invoke/VarHandle" ∧ (parseMethodDescriptor yX7_rowOf.desc).map (fun d => d.parameters.length) = some 1 := ⟨by decide, by decide, by decide +kernel⟩
def m_L_rowOf (p0 : Int32) (s : Mem) : Res Int64 := wJ ["java/util/NoSuchElementException"] (m_X7_rowOf p0 s)
theorem n_L_rowOf (p0 : Int32) (s : Mem) : Mn s (m_L_rowOf p0 s) := mn_wJ (n_X7_rowOf p0 s)
theorem wd1359 : Cond.methodLink RL 99 yX7_rowOf ∈ gw := gwt6 (List.mem_of_getElem? (i := 139) rfl) (by decide +kernel)
theorem cw_L_rowOf : Cond.codeWith yL_rowOf cL_rowOf 3 (some .long) [(0, 6, 7, 40)] ∈ gw := gwt6 (List.mem_of_getElem? (i := 138) rfl) (by decide +kernel)
theorem cs_L_rowOf : Cond.static yL_rowOf ∈ gw := gwt6 (List.mem_of_getElem? (i := 137) rfl) (by decide +kernel)
theorem cd_L_rowOf : yL_rowOf.cls ≠ "java/lang/invoke/MethodHandle" ∧ yL_rowOf.cls ≠ "java/lang/invoke/VarHandle" ∧ (parseMethodDescriptor yL_rowOf.desc).map (fun d => d.parameters.length) = some 2 := ⟨by decide, by decide, by decide +kernel⟩
set_option maxRecDepth 100000 in
set_option maxHeartbeats 2000000 in
theorem sat_L_rowOf (l : Launch) (hl : l.stackTraces = false) (p0 : Int32) (s : Mem) : SatW l yL_rowOf (.codeWith yL_rowOf cL_rowOf 3 (some .long) [(0, 6, 7, 40)]) 33 565 (fun x => some (.long x)) [.ref 0, .int p0] s (m_L_rowOf p0 s) := by
  refine satw_of (by decide) (Nat.le_of_ble_eq_true rfl) (fun X V A adV hxl hC hE ht hr => ?_) (n_L_rowOf p0 s)
  subst hxl
  show LX X V A 33 565 (nC s) (nS s) _ 0 [(0, .ref 0), (1, .int p0)] [] s _
  unfold m_L_rowOf wJ
  rw [show yL_rowOf.cls = RL from rfl] at hC
  refine lx_aload_n hC dL_rowOf_0 rfl 0 rfl ?_
  refine lx_iload_n hC dL_rowOf_1 rfl 1 rfl ?_
  refine lx_callC hC (sat_X7_rowOf (xl X) hl p0 s) (run_V (as := [.int p0]) (rest := []) hC hE ly0 rfl cw_X7_rowOf ci_X7_rowOf wd1359 cs_X7_rowOf ce_X7_rowOf cd_X7_rowOf (by decide) (by decide) (Nat.le_of_ble_eq_true rfl) dL_rowOf_2 rfl) (fun E σ1 u hE0 hu R H locs hid ls q ce h2 h3 h4 h5 g1 g2 g3 hc hv hcl => ?_) (fun v s1 _ => ?_)
  · by_cases e0 : "java/util/NoSuchElementException" = E
    · subst e0
      rw [cd, if_pos rfl] at hu
      cases hu
      exact w_hand hC hr hE (pre := []) (suf := []) (a := 0) (b := 6) (h := 7) (ct := 40) ht (v := tJ 1) (fun z hz => absurd hz List.not_mem_nil) ⟨by decide, by decide⟩ (by decide) wlE40 wcE40 (k := 2) (by decide) dL_rowOf_7 dL_rowOf_8 dL_rowOf_11 wk17 g1 g2 g3 hc hv hcl
    rw [cd, if_neg e0] at hu
    cases hu
  · refine lx_i2l hC dL_rowOf_5 ?_
    exact lx_lretN hC rfl hr dL_rowOf_6
theorem cw_X7_loudness : Cond.code yX7_loudness cX7_loudness 2 (some .int) ∈ gw := gwt6 (List.mem_of_getElem? (i := 168) rfl) (by decide +kernel)
theorem ci_X7_loudness : Cond.initialized yX7_loudness.cls ∈ gw := gwt1 (List.mem_of_getElem? (i := 1) rfl) (by decide +kernel)
theorem cs_X7_loudness : Cond.instanceMethod yX7_loudness ∈ gw := gwt6 (List.mem_of_getElem? (i := 166) rfl) (by decide +kernel)
theorem ce_X7_loudness : Cond.selects RX7 yX7_loudness yX7_loudness ∈ gw := gwt6 (List.mem_of_getElem? (i := 167) rfl) (by decide +kernel)
theorem cd_X7_loudness : yX7_loudness.cls ≠ "java/lang/invoke/MethodHandle" ∧ yX7_loudness.cls ≠ "java/lang/invoke/VarHandle" ∧ (parseMethodDescriptor yX7_loudness.desc).map (fun d => d.parameters.length) = some 1 := ⟨by decide, by decide, by decide +kernel⟩
def m_L_loudness (p0 : Int32) (s : Mem) : Res Int64 := wJ ["java/util/NoSuchElementException"] (m_X7_loudness p0 s)
theorem n_L_loudness (p0 : Int32) (s : Mem) : Mn s (m_L_loudness p0 s) := mn_wJ (n_X7_loudness p0 s)
theorem wd1385 : Cond.methodLink RL 102 yX7_loudness ∈ gw := gwt6 (List.mem_of_getElem? (i := 165) rfl) (by decide +kernel)
theorem cw_L_loudness : Cond.codeWith yL_loudness cL_loudness 3 (some .long) [(0, 6, 7, 40)] ∈ gw := gwt6 (List.mem_of_getElem? (i := 164) rfl) (by decide +kernel)
theorem cs_L_loudness : Cond.static yL_loudness ∈ gw := gwt6 (List.mem_of_getElem? (i := 163) rfl) (by decide +kernel)
theorem cd_L_loudness : yL_loudness.cls ≠ "java/lang/invoke/MethodHandle" ∧ yL_loudness.cls ≠ "java/lang/invoke/VarHandle" ∧ (parseMethodDescriptor yL_loudness.desc).map (fun d => d.parameters.length) = some 2 := ⟨by decide, by decide, by decide +kernel⟩
set_option maxRecDepth 100000 in
set_option maxHeartbeats 2000000 in
theorem sat_L_loudness (l : Launch) (hl : l.stackTraces = false) (p0 : Int32) (s : Mem) : SatW l yL_loudness (.codeWith yL_loudness cL_loudness 3 (some .long) [(0, 6, 7, 40)]) 33 565 (fun x => some (.long x)) [.ref 0, .int p0] s (m_L_loudness p0 s) := by
  refine satw_of (by decide) (Nat.le_of_ble_eq_true rfl) (fun X V A adV hxl hC hE ht hr => ?_) (n_L_loudness p0 s)
  subst hxl
  show LX X V A 33 565 (nC s) (nS s) _ 0 [(0, .ref 0), (1, .int p0)] [] s _
  unfold m_L_loudness wJ
  rw [show yL_loudness.cls = RL from rfl] at hC
  refine lx_aload_n hC dL_loudness_0 rfl 0 rfl ?_
  refine lx_iload_n hC dL_loudness_1 rfl 1 rfl ?_
  refine lx_callC hC (sat_X7_loudness (xl X) hl p0 s) (run_V (as := [.int p0]) (rest := []) hC hE ly0 rfl cw_X7_loudness ci_X7_loudness wd1385 cs_X7_loudness ce_X7_loudness cd_X7_loudness (by decide) (by decide) (Nat.le_of_ble_eq_true rfl) dL_loudness_2 rfl) (fun E σ1 u hE0 hu R H locs hid ls q ce h2 h3 h4 h5 g1 g2 g3 hc hv hcl => ?_) (fun v s1 _ => ?_)
  · by_cases e0 : "java/util/NoSuchElementException" = E
    · subst e0
      rw [cd, if_pos rfl] at hu
      cases hu
      exact w_hand hC hr hE (pre := []) (suf := []) (a := 0) (b := 6) (h := 7) (ct := 40) ht (v := tJ 1) (fun z hz => absurd hz List.not_mem_nil) ⟨by decide, by decide⟩ (by decide) wlE40 wcE40 (k := 2) (by decide) dL_loudness_7 dL_loudness_8 dL_loudness_11 wk17 g1 g2 g3 hc hv hcl
    rw [cd, if_neg e0] at hu
    cases hu
  · refine lx_i2l hC dL_loudness_5 ?_
    exact lx_lretN hC rfl hr dL_loudness_6
theorem cw_X7_positionInRow : Cond.code yX7_positionInRow cX7_positionInRow 2 (some .int) ∈ gw := gwt6 (List.mem_of_getElem? (i := 149) rfl) (by decide +kernel)
theorem ci_X7_positionInRow : Cond.initialized yX7_positionInRow.cls ∈ gw := gwt1 (List.mem_of_getElem? (i := 1) rfl) (by decide +kernel)
theorem cs_X7_positionInRow : Cond.instanceMethod yX7_positionInRow ∈ gw := gwt6 (List.mem_of_getElem? (i := 147) rfl) (by decide +kernel)
theorem ce_X7_positionInRow : Cond.selects RX7 yX7_positionInRow yX7_positionInRow ∈ gw := gwt6 (List.mem_of_getElem? (i := 148) rfl) (by decide +kernel)
theorem cd_X7_positionInRow : yX7_positionInRow.cls ≠ "java/lang/invoke/MethodHandle" ∧ yX7_positionInRow.cls ≠ "java/lang/invoke/VarHandle" ∧ (parseMethodDescriptor yX7_positionInRow.desc).map (fun d => d.parameters.length) = some 1 := ⟨by decide, by decide, by decide +kernel⟩
def m_L_positionInRow (p0 : Int32) (s : Mem) : Res Int64 := wJ ["java/util/NoSuchElementException"] (m_X7_positionInRow p0 s)
theorem n_L_positionInRow (p0 : Int32) (s : Mem) : Mn s (m_L_positionInRow p0 s) := mn_wJ (n_X7_positionInRow p0 s)
theorem wd1366 : Cond.methodLink RL 105 yX7_positionInRow ∈ gw := gwt6 (List.mem_of_getElem? (i := 146) rfl) (by decide +kernel)
theorem cw_L_positionInRow : Cond.codeWith yL_positionInRow cL_positionInRow 3 (some .long) [(0, 6, 7, 40)] ∈ gw := gwt6 (List.mem_of_getElem? (i := 145) rfl) (by decide +kernel)
theorem cs_L_positionInRow : Cond.static yL_positionInRow ∈ gw := gwt6 (List.mem_of_getElem? (i := 144) rfl) (by decide +kernel)
theorem cd_L_positionInRow : yL_positionInRow.cls ≠ "java/lang/invoke/MethodHandle" ∧ yL_positionInRow.cls ≠ "java/lang/invoke/VarHandle" ∧ (parseMethodDescriptor yL_positionInRow.desc).map (fun d => d.parameters.length) = some 2 := ⟨by decide, by decide, by decide +kernel⟩
set_option maxRecDepth 100000 in
set_option maxHeartbeats 2000000 in
theorem sat_L_positionInRow (l : Launch) (hl : l.stackTraces = false) (p0 : Int32) (s : Mem) : SatW l yL_positionInRow (.codeWith yL_positionInRow cL_positionInRow 3 (some .long) [(0, 6, 7, 40)]) 33 565 (fun x => some (.long x)) [.ref 0, .int p0] s (m_L_positionInRow p0 s) := by
  refine satw_of (by decide) (Nat.le_of_ble_eq_true rfl) (fun X V A adV hxl hC hE ht hr => ?_) (n_L_positionInRow p0 s)
  subst hxl
  show LX X V A 33 565 (nC s) (nS s) _ 0 [(0, .ref 0), (1, .int p0)] [] s _
  unfold m_L_positionInRow wJ
  rw [show yL_positionInRow.cls = RL from rfl] at hC
  refine lx_aload_n hC dL_positionInRow_0 rfl 0 rfl ?_
  refine lx_iload_n hC dL_positionInRow_1 rfl 1 rfl ?_
  refine lx_callC hC (sat_X7_positionInRow (xl X) hl p0 s) (run_V (as := [.int p0]) (rest := []) hC hE ly0 rfl cw_X7_positionInRow ci_X7_positionInRow wd1366 cs_X7_positionInRow ce_X7_positionInRow cd_X7_positionInRow (by decide) (by decide) (Nat.le_of_ble_eq_true rfl) dL_positionInRow_2 rfl) (fun E σ1 u hE0 hu R H locs hid ls q ce h2 h3 h4 h5 g1 g2 g3 hc hv hcl => ?_) (fun v s1 _ => ?_)
  · by_cases e0 : "java/util/NoSuchElementException" = E
    · subst e0
      rw [cd, if_pos rfl] at hu
      cases hu
      exact w_hand hC hr hE (pre := []) (suf := []) (a := 0) (b := 6) (h := 7) (ct := 40) ht (v := tJ 1) (fun z hz => absurd hz List.not_mem_nil) ⟨by decide, by decide⟩ (by decide) wlE40 wcE40 (k := 2) (by decide) dL_positionInRow_7 dL_positionInRow_8 dL_positionInRow_11 wk17 g1 g2 g3 hc hv hcl
    rw [cd, if_neg e0] at hu
    cases hu
  · refine lx_i2l hC dL_positionInRow_5 ?_
    exact lx_lretN hC rfl hr dL_positionInRow_6
theorem cw_X7_heir : Cond.code yX7_heir cX7_heir 3 (some .int) ∈ gw := gwt6 (List.mem_of_getElem? (i := 175) rfl) (by decide +kernel)
theorem ci_X7_heir : Cond.initialized yX7_heir.cls ∈ gw := gwt1 (List.mem_of_getElem? (i := 1) rfl) (by decide +kernel)
theorem cs_X7_heir : Cond.instanceMethod yX7_heir ∈ gw := gwt6 (List.mem_of_getElem? (i := 173) rfl) (by decide +kernel)
theorem ce_X7_heir : Cond.selects RX7 yX7_heir yX7_heir ∈ gw := gwt6 (List.mem_of_getElem? (i := 174) rfl) (by decide +kernel)
theorem cd_X7_heir : yX7_heir.cls ≠ "java/lang/invoke/MethodHandle" ∧ yX7_heir.cls ≠ "java/lang/invoke/VarHandle" ∧ (parseMethodDescriptor yX7_heir.desc).map (fun d => d.parameters.length) = some 1 := ⟨by decide, by decide, by decide +kernel⟩
def m_L_heir (p0 : Int32) (s : Mem) : Res Int64 := wJ ["java/util/NoSuchElementException", "java/lang/IllegalStateException"] (m_X7_heir p0 s)
theorem n_L_heir (p0 : Int32) (s : Mem) : Mn s (m_L_heir p0 s) := mn_wJ (n_X7_heir p0 s)
theorem wd1392 : Cond.methodLink RL 111 yX7_heir ∈ gw := gwt6 (List.mem_of_getElem? (i := 172) rfl) (by decide +kernel)
theorem cw_L_heir : Cond.codeWith yL_heir cL_heir 3 (some .long) [(0, 6, 7, 40), (0, 6, 12, 19)] ∈ gw := gwt6 (List.mem_of_getElem? (i := 171) rfl) (by decide +kernel)
theorem cs_L_heir : Cond.static yL_heir ∈ gw := gwt6 (List.mem_of_getElem? (i := 170) rfl) (by decide +kernel)
theorem cd_L_heir : yL_heir.cls ≠ "java/lang/invoke/MethodHandle" ∧ yL_heir.cls ≠ "java/lang/invoke/VarHandle" ∧ (parseMethodDescriptor yL_heir.desc).map (fun d => d.parameters.length) = some 2 := ⟨by decide, by decide, by decide +kernel⟩
set_option maxRecDepth 100000 in
set_option maxHeartbeats 2000000 in
theorem sat_L_heir (l : Launch) (hl : l.stackTraces = false) (p0 : Int32) (s : Mem) : SatW l yL_heir (.codeWith yL_heir cL_heir 3 (some .long) [(0, 6, 7, 40), (0, 6, 12, 19)]) 33 566 (fun x => some (.long x)) [.ref 0, .int p0] s (m_L_heir p0 s) := by
  refine satw_of (by decide) (Nat.le_of_ble_eq_true rfl) (fun X V A adV hxl hC hE ht hr => ?_) (n_L_heir p0 s)
  subst hxl
  show LX X V A 33 566 (nC s) (nS s) _ 0 [(0, .ref 0), (1, .int p0)] [] s _
  unfold m_L_heir wJ
  rw [show yL_heir.cls = RL from rfl] at hC
  refine lx_aload_n hC dL_heir_0 rfl 0 rfl ?_
  refine lx_iload_n hC dL_heir_1 rfl 1 rfl ?_
  refine lx_callC hC (sat_X7_heir (xl X) hl p0 s) (run_V (as := [.int p0]) (rest := []) hC hE ly0 rfl cw_X7_heir ci_X7_heir wd1392 cs_X7_heir ce_X7_heir cd_X7_heir (by decide) (by decide) (Nat.le_of_ble_eq_true rfl) dL_heir_2 rfl) (fun E σ1 u hE0 hu R H locs hid ls q ce h2 h3 h4 h5 g1 g2 g3 hc hv hcl => ?_) (fun v s1 _ => ?_)
  · by_cases e0 : "java/util/NoSuchElementException" = E
    · subst e0
      rw [cd, if_pos rfl] at hu
      cases hu
      exact w_hand hC hr hE (pre := []) (suf := [(0, 6, 12, 19)]) (a := 0) (b := 6) (h := 7) (ct := 40) ht (v := tJ 1) (fun z hz => absurd hz List.not_mem_nil) ⟨by decide, by decide⟩ (by decide) wlE40 wcE40 (k := 2) (by decide) dL_heir_7 dL_heir_8 dL_heir_11 wk17 g1 g2 g3 hc hv hcl
    rw [cd, if_neg e0] at hu
    by_cases e1 : "java/lang/IllegalStateException" = E
    · subst e1
      rw [cd, if_pos rfl] at hu
      cases hu
      exact w_hand hC hr hE (pre := [(0, 6, 7, 40)]) (suf := []) (a := 0) (b := 6) (h := 12) (ct := 19) ht (v := tJ 2) (List.forall_mem_cons.mpr ⟨⟨by decide, "java/util/NoSuchElementException", wlE40, ncsE _ _ (by simp) (by simp) (by decide)⟩, fun _ hz => absurd hz List.not_mem_nil⟩) ⟨by decide, by decide⟩ (by decide) wlE19 wcE19 (k := 2) (by decide) dL_heir_12 dL_heir_13 dL_heir_16 wk21 g1 g2 g3 hc hv hcl
    rw [cd, if_neg e1] at hu
    cases hu
  · refine lx_i2l hC dL_heir_5 ?_
    exact lx_lretN hC rfl hr dL_heir_6
theorem cw_X7_lastHeir : Cond.code yX7_lastHeir cX7_lastHeir 3 (some .int) ∈ gw := gwt6 (List.mem_of_getElem? (i := 205) rfl) (by decide +kernel)
theorem ci_X7_lastHeir : Cond.initialized yX7_lastHeir.cls ∈ gw := gwt1 (List.mem_of_getElem? (i := 1) rfl) (by decide +kernel)
theorem cs_X7_lastHeir : Cond.instanceMethod yX7_lastHeir ∈ gw := gwt6 (List.mem_of_getElem? (i := 203) rfl) (by decide +kernel)
theorem ce_X7_lastHeir : Cond.selects RX7 yX7_lastHeir yX7_lastHeir ∈ gw := gwt6 (List.mem_of_getElem? (i := 204) rfl) (by decide +kernel)
theorem cd_X7_lastHeir : yX7_lastHeir.cls ≠ "java/lang/invoke/MethodHandle" ∧ yX7_lastHeir.cls ≠ "java/lang/invoke/VarHandle" ∧ (parseMethodDescriptor yX7_lastHeir.desc).map (fun d => d.parameters.length) = some 1 := ⟨by decide, by decide, by decide +kernel⟩
def m_L_lastHeir (p0 : Int32) (s : Mem) : Res Int64 := wJ ["java/util/NoSuchElementException"] (m_X7_lastHeir p0 s)
theorem n_L_lastHeir (p0 : Int32) (s : Mem) : Mn s (m_L_lastHeir p0 s) := mn_wJ (n_X7_lastHeir p0 s)
theorem wd1422 : Cond.methodLink RL 114 yX7_lastHeir ∈ gw := gwt6 (List.mem_of_getElem? (i := 202) rfl) (by decide +kernel)
theorem cw_L_lastHeir : Cond.codeWith yL_lastHeir cL_lastHeir 3 (some .long) [(0, 6, 7, 40)] ∈ gw := gwt6 (List.mem_of_getElem? (i := 201) rfl) (by decide +kernel)
theorem cs_L_lastHeir : Cond.static yL_lastHeir ∈ gw := gwt6 (List.mem_of_getElem? (i := 200) rfl) (by decide +kernel)
theorem cd_L_lastHeir : yL_lastHeir.cls ≠ "java/lang/invoke/MethodHandle" ∧ yL_lastHeir.cls ≠ "java/lang/invoke/VarHandle" ∧ (parseMethodDescriptor yL_lastHeir.desc).map (fun d => d.parameters.length) = some 2 := ⟨by decide, by decide, by decide +kernel⟩
set_option maxRecDepth 100000 in
set_option maxHeartbeats 2000000 in
theorem sat_L_lastHeir (l : Launch) (hl : l.stackTraces = false) (p0 : Int32) (s : Mem) : SatW l yL_lastHeir (.codeWith yL_lastHeir cL_lastHeir 3 (some .long) [(0, 6, 7, 40)]) 34 589 (fun x => some (.long x)) [.ref 0, .int p0] s (m_L_lastHeir p0 s) := by
  refine satw_of (by decide) (Nat.le_of_ble_eq_true rfl) (fun X V A adV hxl hC hE ht hr => ?_) (n_L_lastHeir p0 s)
  subst hxl
  show LX X V A 34 589 (nC s) (nS s) _ 0 [(0, .ref 0), (1, .int p0)] [] s _
  unfold m_L_lastHeir wJ
  rw [show yL_lastHeir.cls = RL from rfl] at hC
  refine lx_aload_n hC dL_lastHeir_0 rfl 0 rfl ?_
  refine lx_iload_n hC dL_lastHeir_1 rfl 1 rfl ?_
  refine lx_callC hC (sat_X7_lastHeir (xl X) hl p0 s) (run_V (as := [.int p0]) (rest := []) hC hE ly0 rfl cw_X7_lastHeir ci_X7_lastHeir wd1422 cs_X7_lastHeir ce_X7_lastHeir cd_X7_lastHeir (by decide) (by decide) (Nat.le_of_ble_eq_true rfl) dL_lastHeir_2 rfl) (fun E σ1 u hE0 hu R H locs hid ls q ce h2 h3 h4 h5 g1 g2 g3 hc hv hcl => ?_) (fun v s1 _ => ?_)
  · by_cases e0 : "java/util/NoSuchElementException" = E
    · subst e0
      rw [cd, if_pos rfl] at hu
      cases hu
      exact w_hand hC hr hE (pre := []) (suf := []) (a := 0) (b := 6) (h := 7) (ct := 40) ht (v := tJ 1) (fun z hz => absurd hz List.not_mem_nil) ⟨by decide, by decide⟩ (by decide) wlE40 wcE40 (k := 2) (by decide) dL_lastHeir_7 dL_lastHeir_8 dL_lastHeir_11 wk17 g1 g2 g3 hc hv hcl
    rw [cd, if_neg e0] at hu
    cases hu
  · refine lx_i2l hC dL_lastHeir_5 ?_
    exact lx_lretN hC rfl hr dL_lastHeir_6
theorem cw_X7_lastHeirByDoubling : Cond.code yX7_lastHeirByDoubling cX7_lastHeirByDoubling 4 (some .int) ∈ gw := gwt6 (List.mem_of_getElem? (i := 212) rfl) (by decide +kernel)
theorem ci_X7_lastHeirByDoubling : Cond.initialized yX7_lastHeirByDoubling.cls ∈ gw := gwt1 (List.mem_of_getElem? (i := 1) rfl) (by decide +kernel)
theorem cs_X7_lastHeirByDoubling : Cond.instanceMethod yX7_lastHeirByDoubling ∈ gw := gwt6 (List.mem_of_getElem? (i := 210) rfl) (by decide +kernel)
theorem ce_X7_lastHeirByDoubling : Cond.selects RX7 yX7_lastHeirByDoubling yX7_lastHeirByDoubling ∈ gw := gwt6 (List.mem_of_getElem? (i := 211) rfl) (by decide +kernel)
theorem cd_X7_lastHeirByDoubling : yX7_lastHeirByDoubling.cls ≠ "java/lang/invoke/MethodHandle" ∧ yX7_lastHeirByDoubling.cls ≠ "java/lang/invoke/VarHandle" ∧ (parseMethodDescriptor yX7_lastHeirByDoubling.desc).map (fun d => d.parameters.length) = some 1 := ⟨by decide, by decide, by decide +kernel⟩
def m_L_lastHeirByDoubling (p0 : Int32) (s : Mem) : Res Int64 := wJ ["java/util/NoSuchElementException"] (m_X7_lastHeirByDoubling p0 s)
theorem n_L_lastHeirByDoubling (p0 : Int32) (s : Mem) : Mn s (m_L_lastHeirByDoubling p0 s) := mn_wJ (n_X7_lastHeirByDoubling p0 s)
theorem wd1429 : Cond.methodLink RL 117 yX7_lastHeirByDoubling ∈ gw := gwt6 (List.mem_of_getElem? (i := 209) rfl) (by decide +kernel)
theorem cw_L_lastHeirByDoubling : Cond.codeWith yL_lastHeirByDoubling cL_lastHeirByDoubling 3 (some .long) [(0, 6, 7, 40)] ∈ gw := gwt6 (List.mem_of_getElem? (i := 208) rfl) (by decide +kernel)
theorem cs_L_lastHeirByDoubling : Cond.static yL_lastHeirByDoubling ∈ gw := gwt6 (List.mem_of_getElem? (i := 207) rfl) (by decide +kernel)
theorem cd_L_lastHeirByDoubling : yL_lastHeirByDoubling.cls ≠ "java/lang/invoke/MethodHandle" ∧ yL_lastHeirByDoubling.cls ≠ "java/lang/invoke/VarHandle" ∧ (parseMethodDescriptor yL_lastHeirByDoubling.desc).map (fun d => d.parameters.length) = some 2 := ⟨by decide, by decide, by decide +kernel⟩
set_option maxRecDepth 100000 in
set_option maxHeartbeats 2000000 in
theorem sat_L_lastHeirByDoubling (l : Launch) (hl : l.stackTraces = false) (p0 : Int32) (s : Mem) : SatW l yL_lastHeirByDoubling (.codeWith yL_lastHeirByDoubling cL_lastHeirByDoubling 3 (some .long) [(0, 6, 7, 40)]) 34 590 (fun x => some (.long x)) [.ref 0, .int p0] s (m_L_lastHeirByDoubling p0 s) := by
  refine satw_of (by decide) (Nat.le_of_ble_eq_true rfl) (fun X V A adV hxl hC hE ht hr => ?_) (n_L_lastHeirByDoubling p0 s)
  subst hxl
  show LX X V A 34 590 (nC s) (nS s) _ 0 [(0, .ref 0), (1, .int p0)] [] s _
  unfold m_L_lastHeirByDoubling wJ
  rw [show yL_lastHeirByDoubling.cls = RL from rfl] at hC
  refine lx_aload_n hC dL_lastHeirByDoubling_0 rfl 0 rfl ?_
  refine lx_iload_n hC dL_lastHeirByDoubling_1 rfl 1 rfl ?_
  refine lx_callC hC (sat_X7_lastHeirByDoubling (xl X) hl p0 s) (run_V (as := [.int p0]) (rest := []) hC hE ly0 rfl cw_X7_lastHeirByDoubling ci_X7_lastHeirByDoubling wd1429 cs_X7_lastHeirByDoubling ce_X7_lastHeirByDoubling cd_X7_lastHeirByDoubling (by decide) (by decide) (Nat.le_of_ble_eq_true rfl) dL_lastHeirByDoubling_2 rfl) (fun E σ1 u hE0 hu R H locs hid ls q ce h2 h3 h4 h5 g1 g2 g3 hc hv hcl => ?_) (fun v s1 _ => ?_)
  · by_cases e0 : "java/util/NoSuchElementException" = E
    · subst e0
      rw [cd, if_pos rfl] at hu
      cases hu
      exact w_hand hC hr hE (pre := []) (suf := []) (a := 0) (b := 6) (h := 7) (ct := 40) ht (v := tJ 1) (fun z hz => absurd hz List.not_mem_nil) ⟨by decide, by decide⟩ (by decide) wlE40 wcE40 (k := 2) (by decide) dL_lastHeirByDoubling_7 dL_lastHeirByDoubling_8 dL_lastHeirByDoubling_11 wk17 g1 g2 g3 hc hv hcl
    rw [cd, if_neg e0] at hu
    cases hu
  · refine lx_i2l hC dL_lastHeirByDoubling_5 ?_
    exact lx_lretN hC rfl hr dL_lastHeirByDoubling_6
theorem cw_X7_stepsToLastHeir : Cond.code yX7_stepsToLastHeir cX7_stepsToLastHeir 2 (some .int) ∈ gw := gwt6 (List.mem_of_getElem? (i := 183) rfl) (by decide +kernel)
theorem ci_X7_stepsToLastHeir : Cond.initialized yX7_stepsToLastHeir.cls ∈ gw := gwt1 (List.mem_of_getElem? (i := 1) rfl) (by decide +kernel)
theorem cs_X7_stepsToLastHeir : Cond.instanceMethod yX7_stepsToLastHeir ∈ gw := gwt6 (List.mem_of_getElem? (i := 181) rfl) (by decide +kernel)
theorem ce_X7_stepsToLastHeir : Cond.selects RX7 yX7_stepsToLastHeir yX7_stepsToLastHeir ∈ gw := gwt6 (List.mem_of_getElem? (i := 182) rfl) (by decide +kernel)
theorem cd_X7_stepsToLastHeir : yX7_stepsToLastHeir.cls ≠ "java/lang/invoke/MethodHandle" ∧ yX7_stepsToLastHeir.cls ≠ "java/lang/invoke/VarHandle" ∧ (parseMethodDescriptor yX7_stepsToLastHeir.desc).map (fun d => d.parameters.length) = some 1 := ⟨by decide, by decide, by decide +kernel⟩
def m_L_stepsToLastHeir (p0 : Int32) (s : Mem) : Res Int64 := wJ ["java/util/NoSuchElementException"] (m_X7_stepsToLastHeir p0 s)
theorem n_L_stepsToLastHeir (p0 : Int32) (s : Mem) : Mn s (m_L_stepsToLastHeir p0 s) := mn_wJ (n_X7_stepsToLastHeir p0 s)
theorem wd1400 : Cond.methodLink RL 120 yX7_stepsToLastHeir ∈ gw := gwt6 (List.mem_of_getElem? (i := 180) rfl) (by decide +kernel)
theorem cw_L_stepsToLastHeir : Cond.codeWith yL_stepsToLastHeir cL_stepsToLastHeir 3 (some .long) [(0, 6, 7, 40)] ∈ gw := gwt6 (List.mem_of_getElem? (i := 179) rfl) (by decide +kernel)
theorem cs_L_stepsToLastHeir : Cond.static yL_stepsToLastHeir ∈ gw := gwt6 (List.mem_of_getElem? (i := 178) rfl) (by decide +kernel)
theorem cd_L_stepsToLastHeir : yL_stepsToLastHeir.cls ≠ "java/lang/invoke/MethodHandle" ∧ yL_stepsToLastHeir.cls ≠ "java/lang/invoke/VarHandle" ∧ (parseMethodDescriptor yL_stepsToLastHeir.desc).map (fun d => d.parameters.length) = some 2 := ⟨by decide, by decide, by decide +kernel⟩
set_option maxRecDepth 100000 in
set_option maxHeartbeats 2000000 in
theorem sat_L_stepsToLastHeir (l : Launch) (hl : l.stackTraces = false) (p0 : Int32) (s : Mem) : SatW l yL_stepsToLastHeir (.codeWith yL_stepsToLastHeir cL_stepsToLastHeir 3 (some .long) [(0, 6, 7, 40)]) 34 587 (fun x => some (.long x)) [.ref 0, .int p0] s (m_L_stepsToLastHeir p0 s) := by
  refine satw_of (by decide) (Nat.le_of_ble_eq_true rfl) (fun X V A adV hxl hC hE ht hr => ?_) (n_L_stepsToLastHeir p0 s)
  subst hxl
  show LX X V A 34 587 (nC s) (nS s) _ 0 [(0, .ref 0), (1, .int p0)] [] s _
  unfold m_L_stepsToLastHeir wJ
  rw [show yL_stepsToLastHeir.cls = RL from rfl] at hC
  refine lx_aload_n hC dL_stepsToLastHeir_0 rfl 0 rfl ?_
  refine lx_iload_n hC dL_stepsToLastHeir_1 rfl 1 rfl ?_
  refine lx_callC hC (sat_X7_stepsToLastHeir (xl X) hl p0 s) (run_V (as := [.int p0]) (rest := []) hC hE ly0 rfl cw_X7_stepsToLastHeir ci_X7_stepsToLastHeir wd1400 cs_X7_stepsToLastHeir ce_X7_stepsToLastHeir cd_X7_stepsToLastHeir (by decide) (by decide) (Nat.le_of_ble_eq_true rfl) dL_stepsToLastHeir_2 rfl) (fun E σ1 u hE0 hu R H locs hid ls q ce h2 h3 h4 h5 g1 g2 g3 hc hv hcl => ?_) (fun v s1 _ => ?_)
  · by_cases e0 : "java/util/NoSuchElementException" = E
    · subst e0
      rw [cd, if_pos rfl] at hu
      cases hu
      exact w_hand hC hr hE (pre := []) (suf := []) (a := 0) (b := 6) (h := 7) (ct := 40) ht (v := tJ 1) (fun z hz => absurd hz List.not_mem_nil) ⟨by decide, by decide⟩ (by decide) wlE40 wcE40 (k := 2) (by decide) dL_stepsToLastHeir_7 dL_stepsToLastHeir_8 dL_stepsToLastHeir_11 wk17 g1 g2 g3 hc hv hcl
    rw [cd, if_neg e0] at hu
    cases hu
  · refine lx_i2l hC dL_stepsToLastHeir_5 ?_
    exact lx_lretN hC rfl hr dL_stepsToLastHeir_6
theorem cw_X7_bequeathers : Cond.code yX7_bequeathers cX7_bequeathers 3 (some .int) ∈ gw := gwt6 (List.mem_of_getElem? (i := 194) rfl) (by decide +kernel)
theorem ci_X7_bequeathers : Cond.initialized yX7_bequeathers.cls ∈ gw := gwt1 (List.mem_of_getElem? (i := 1) rfl) (by decide +kernel)
theorem cs_X7_bequeathers : Cond.instanceMethod yX7_bequeathers ∈ gw := gwt6 (List.mem_of_getElem? (i := 192) rfl) (by decide +kernel)
theorem ce_X7_bequeathers : Cond.selects RX7 yX7_bequeathers yX7_bequeathers ∈ gw := gwt6 (List.mem_of_getElem? (i := 193) rfl) (by decide +kernel)
theorem cd_X7_bequeathers : yX7_bequeathers.cls ≠ "java/lang/invoke/MethodHandle" ∧ yX7_bequeathers.cls ≠ "java/lang/invoke/VarHandle" ∧ (parseMethodDescriptor yX7_bequeathers.desc).map (fun d => d.parameters.length) = some 1 := ⟨by decide, by decide, by decide +kernel⟩
def m_L_bequeathers (p0 : Int32) (s : Mem) : Res Int64 := wJ ["java/util/NoSuchElementException"] (m_X7_bequeathers p0 s)
theorem n_L_bequeathers (p0 : Int32) (s : Mem) : Mn s (m_L_bequeathers p0 s) := mn_wJ (n_X7_bequeathers p0 s)
theorem wd1411 : Cond.methodLink RL 123 yX7_bequeathers ∈ gw := gwt6 (List.mem_of_getElem? (i := 191) rfl) (by decide +kernel)
theorem cw_L_bequeathers : Cond.codeWith yL_bequeathers cL_bequeathers 3 (some .long) [(0, 6, 7, 40)] ∈ gw := gwt6 (List.mem_of_getElem? (i := 190) rfl) (by decide +kernel)
theorem cs_L_bequeathers : Cond.static yL_bequeathers ∈ gw := gwt6 (List.mem_of_getElem? (i := 189) rfl) (by decide +kernel)
theorem cd_L_bequeathers : yL_bequeathers.cls ≠ "java/lang/invoke/MethodHandle" ∧ yL_bequeathers.cls ≠ "java/lang/invoke/VarHandle" ∧ (parseMethodDescriptor yL_bequeathers.desc).map (fun d => d.parameters.length) = some 2 := ⟨by decide, by decide, by decide +kernel⟩
set_option maxRecDepth 100000 in
set_option maxHeartbeats 2000000 in
theorem sat_L_bequeathers (l : Launch) (hl : l.stackTraces = false) (p0 : Int32) (s : Mem) : SatW l yL_bequeathers (.codeWith yL_bequeathers cL_bequeathers 3 (some .long) [(0, 6, 7, 40)]) 33 566 (fun x => some (.long x)) [.ref 0, .int p0] s (m_L_bequeathers p0 s) := by
  refine satw_of (by decide) (Nat.le_of_ble_eq_true rfl) (fun X V A adV hxl hC hE ht hr => ?_) (n_L_bequeathers p0 s)
  subst hxl
  show LX X V A 33 566 (nC s) (nS s) _ 0 [(0, .ref 0), (1, .int p0)] [] s _
  unfold m_L_bequeathers wJ
  rw [show yL_bequeathers.cls = RL from rfl] at hC
  refine lx_aload_n hC dL_bequeathers_0 rfl 0 rfl ?_
  refine lx_iload_n hC dL_bequeathers_1 rfl 1 rfl ?_
  refine lx_callC hC (sat_X7_bequeathers (xl X) hl p0 s) (run_V (as := [.int p0]) (rest := []) hC hE ly0 rfl cw_X7_bequeathers ci_X7_bequeathers wd1411 cs_X7_bequeathers ce_X7_bequeathers cd_X7_bequeathers (by decide) (by decide) (Nat.le_of_ble_eq_true rfl) dL_bequeathers_2 rfl) (fun E σ1 u hE0 hu R H locs hid ls q ce h2 h3 h4 h5 g1 g2 g3 hc hv hcl => ?_) (fun v s1 _ => ?_)
  · by_cases e0 : "java/util/NoSuchElementException" = E
    · subst e0
      rw [cd, if_pos rfl] at hu
      cases hu
      exact w_hand hC hr hE (pre := []) (suf := []) (a := 0) (b := 6) (h := 7) (ct := 40) ht (v := tJ 1) (fun z hz => absurd hz List.not_mem_nil) ⟨by decide, by decide⟩ (by decide) wlE40 wcE40 (k := 2) (by decide) dL_bequeathers_7 dL_bequeathers_8 dL_bequeathers_11 wk17 g1 g2 g3 hc hv hcl
    rw [cd, if_neg e0] at hu
    cases hu
  · refine lx_i2l hC dL_bequeathers_5 ?_
    exact lx_lretN hC rfl hr dL_bequeathers_6
theorem cw_X7_countInRows : Cond.code yX7_countInRows cX7_countInRows 3 (some .int) ∈ gw := gwt6 (List.mem_of_getElem? (i := 227) rfl) (by decide +kernel)
theorem ci_X7_countInRows : Cond.initialized yX7_countInRows.cls ∈ gw := gwt1 (List.mem_of_getElem? (i := 1) rfl) (by decide +kernel)
theorem cs_X7_countInRows : Cond.instanceMethod yX7_countInRows ∈ gw := gwt6 (List.mem_of_getElem? (i := 225) rfl) (by decide +kernel)
theorem ce_X7_countInRows : Cond.selects RX7 yX7_countInRows yX7_countInRows ∈ gw := gwt6 (List.mem_of_getElem? (i := 226) rfl) (by decide +kernel)
theorem cd_X7_countInRows : yX7_countInRows.cls ≠ "java/lang/invoke/MethodHandle" ∧ yX7_countInRows.cls ≠ "java/lang/invoke/VarHandle" ∧ (parseMethodDescriptor yX7_countInRows.desc).map (fun d => d.parameters.length) = some 2 := ⟨by decide, by decide, by decide +kernel⟩
def m_L_countInRows (p0 p1 : Int32) (s : Mem) : Res Int64 := wJ ["java/lang/IndexOutOfBoundsException", "java/lang/IllegalArgumentException"] (m_X7_countInRows p0 p1 s)
theorem n_L_countInRows (p0 p1 : Int32) (s : Mem) : Mn s (m_L_countInRows p0 p1 s) := mn_wJ (n_X7_countInRows p0 p1 s)
theorem wd1444 : Cond.methodLink RL 126 yX7_countInRows ∈ gw := gwt6 (List.mem_of_getElem? (i := 224) rfl) (by decide +kernel)
theorem cw_L_countInRows : Cond.codeWith yL_countInRows cL_countInRows 4 (some .long) [(0, 7, 8, 27), (0, 7, 13, 13)] ∈ gw := gwt6 (List.mem_of_getElem? (i := 223) rfl) (by decide +kernel)
theorem cs_L_countInRows : Cond.static yL_countInRows ∈ gw := gwt6 (List.mem_of_getElem? (i := 222) rfl) (by decide +kernel)
theorem cd_L_countInRows : yL_countInRows.cls ≠ "java/lang/invoke/MethodHandle" ∧ yL_countInRows.cls ≠ "java/lang/invoke/VarHandle" ∧ (parseMethodDescriptor yL_countInRows.desc).map (fun d => d.parameters.length) = some 3 := ⟨by decide, by decide, by decide +kernel⟩
set_option maxRecDepth 100000 in
set_option maxHeartbeats 2000000 in
theorem sat_L_countInRows (l : Launch) (hl : l.stackTraces = false) (p0 p1 : Int32) (s : Mem) : SatW l yL_countInRows (.codeWith yL_countInRows cL_countInRows 4 (some .long) [(0, 7, 8, 27), (0, 7, 13, 13)]) 33 569 (fun x => some (.long x)) [.ref 0, .int p0, .int p1] s (m_L_countInRows p0 p1 s) := by
  refine satw_of (by decide) (Nat.le_of_ble_eq_true rfl) (fun X V A adV hxl hC hE ht hr => ?_) (n_L_countInRows p0 p1 s)
  subst hxl
  show LX X V A 33 569 (nC s) (nS s) _ 0 [(0, .ref 0), (1, .int p0), (2, .int p1)] [] s _
  unfold m_L_countInRows wJ
  rw [show yL_countInRows.cls = RL from rfl] at hC
  refine lx_aload_n hC dL_countInRows_0 rfl 0 rfl ?_
  refine lx_iload_n hC dL_countInRows_1 rfl 1 rfl ?_
  refine lx_iload_n hC dL_countInRows_2 rfl 2 rfl ?_
  refine lx_callC hC (sat_X7_countInRows (xl X) hl p0 p1 s) (run_V (as := [.int p0, .int p1]) (rest := []) hC hE ly0 rfl cw_X7_countInRows ci_X7_countInRows wd1444 cs_X7_countInRows ce_X7_countInRows cd_X7_countInRows (by decide) (by decide) (Nat.le_of_ble_eq_true rfl) dL_countInRows_3 rfl) (fun E σ1 u hE0 hu R H locs hid ls q ce h2 h3 h4 h5 g1 g2 g3 hc hv hcl => ?_) (fun v s1 _ => ?_)
  · by_cases e0 : "java/lang/IndexOutOfBoundsException" = E
    · subst e0
      rw [cd, if_pos rfl] at hu
      cases hu
      exact w_hand hC hr hE (pre := []) (suf := [(0, 7, 13, 13)]) (a := 0) (b := 7) (h := 8) (ct := 27) ht (v := tJ 1) (fun z hz => absurd hz List.not_mem_nil) ⟨by decide, by decide⟩ (by decide) wlE27 wcE27 (k := 3) (by decide) dL_countInRows_8 dL_countInRows_9 dL_countInRows_12 wk17 g1 g2 g3 hc hv hcl
    rw [cd, if_neg e0] at hu
    by_cases e1 : "java/lang/IllegalArgumentException" = E
    · subst e1
      rw [cd, if_pos rfl] at hu
      cases hu
      exact w_hand hC hr hE (pre := [(0, 7, 8, 27)]) (suf := []) (a := 0) (b := 7) (h := 13) (ct := 13) ht (v := tJ 2) (List.forall_mem_cons.mpr ⟨⟨by decide, "java/lang/IndexOutOfBoundsException", wlE27, ncsE _ _ (by simp) (by simp) (by decide)⟩, fun _ hz => absurd hz List.not_mem_nil⟩) ⟨by decide, by decide⟩ (by decide) wlE13 wcE13 (k := 3) (by decide) dL_countInRows_13 dL_countInRows_14 dL_countInRows_17 wk21 g1 g2 g3 hc hv hcl
    rw [cd, if_neg e1] at hu
    cases hu
  · refine lx_i2l hC dL_countInRows_6 ?_
    exact lx_lretN hC rfl hr dL_countInRows_7
theorem cw_X7_countInRowsByTree : Cond.code yX7_countInRowsByTree cX7_countInRowsByTree 3 (some .int) ∈ gw := gwt6 (List.mem_of_getElem? (i := 239) rfl) (by decide +kernel)
theorem ci_X7_countInRowsByTree : Cond.initialized yX7_countInRowsByTree.cls ∈ gw := gwt1 (List.mem_of_getElem? (i := 1) rfl) (by decide +kernel)
theorem cs_X7_countInRowsByTree : Cond.instanceMethod yX7_countInRowsByTree ∈ gw := gwt6 (List.mem_of_getElem? (i := 237) rfl) (by decide +kernel)
theorem ce_X7_countInRowsByTree : Cond.selects RX7 yX7_countInRowsByTree yX7_countInRowsByTree ∈ gw := gwt6 (List.mem_of_getElem? (i := 238) rfl) (by decide +kernel)
theorem cd_X7_countInRowsByTree : yX7_countInRowsByTree.cls ≠ "java/lang/invoke/MethodHandle" ∧ yX7_countInRowsByTree.cls ≠ "java/lang/invoke/VarHandle" ∧ (parseMethodDescriptor yX7_countInRowsByTree.desc).map (fun d => d.parameters.length) = some 2 := ⟨by decide, by decide, by decide +kernel⟩
def m_L_countInRowsByTree (p0 p1 : Int32) (s : Mem) : Res Int64 := wJ ["java/lang/IndexOutOfBoundsException", "java/lang/IllegalArgumentException"] (m_X7_countInRowsByTree p0 p1 s)
theorem n_L_countInRowsByTree (p0 p1 : Int32) (s : Mem) : Mn s (m_L_countInRowsByTree p0 p1 s) := mn_wJ (n_X7_countInRowsByTree p0 p1 s)
theorem wd1456 : Cond.methodLink RL 129 yX7_countInRowsByTree ∈ gw := gwt6 (List.mem_of_getElem? (i := 236) rfl) (by decide +kernel)
theorem cw_L_countInRowsByTree : Cond.codeWith yL_countInRowsByTree cL_countInRowsByTree 4 (some .long) [(0, 7, 8, 27), (0, 7, 13, 13)] ∈ gw := gwt6 (List.mem_of_getElem? (i := 235) rfl) (by decide +kernel)
theorem cs_L_countInRowsByTree : Cond.static yL_countInRowsByTree ∈ gw := gwt6 (List.mem_of_getElem? (i := 234) rfl) (by decide +kernel)
theorem cd_L_countInRowsByTree : yL_countInRowsByTree.cls ≠ "java/lang/invoke/MethodHandle" ∧ yL_countInRowsByTree.cls ≠ "java/lang/invoke/VarHandle" ∧ (parseMethodDescriptor yL_countInRowsByTree.desc).map (fun d => d.parameters.length) = some 3 := ⟨by decide, by decide, by decide +kernel⟩
set_option maxRecDepth 100000 in
set_option maxHeartbeats 2000000 in
theorem sat_L_countInRowsByTree (l : Launch) (hl : l.stackTraces = false) (p0 p1 : Int32) (s : Mem) : SatW l yL_countInRowsByTree (.codeWith yL_countInRowsByTree cL_countInRowsByTree 4 (some .long) [(0, 7, 8, 27), (0, 7, 13, 13)]) 33 567 (fun x => some (.long x)) [.ref 0, .int p0, .int p1] s (m_L_countInRowsByTree p0 p1 s) := by
  refine satw_of (by decide) (Nat.le_of_ble_eq_true rfl) (fun X V A adV hxl hC hE ht hr => ?_) (n_L_countInRowsByTree p0 p1 s)
  subst hxl
  show LX X V A 33 567 (nC s) (nS s) _ 0 [(0, .ref 0), (1, .int p0), (2, .int p1)] [] s _
  unfold m_L_countInRowsByTree wJ
  rw [show yL_countInRowsByTree.cls = RL from rfl] at hC
  refine lx_aload_n hC dL_countInRowsByTree_0 rfl 0 rfl ?_
  refine lx_iload_n hC dL_countInRowsByTree_1 rfl 1 rfl ?_
  refine lx_iload_n hC dL_countInRowsByTree_2 rfl 2 rfl ?_
  refine lx_callC hC (sat_X7_countInRowsByTree (xl X) hl p0 p1 s) (run_V (as := [.int p0, .int p1]) (rest := []) hC hE ly0 rfl cw_X7_countInRowsByTree ci_X7_countInRowsByTree wd1456 cs_X7_countInRowsByTree ce_X7_countInRowsByTree cd_X7_countInRowsByTree (by decide) (by decide) (Nat.le_of_ble_eq_true rfl) dL_countInRowsByTree_3 rfl) (fun E σ1 u hE0 hu R H locs hid ls q ce h2 h3 h4 h5 g1 g2 g3 hc hv hcl => ?_) (fun v s1 _ => ?_)
  · by_cases e0 : "java/lang/IndexOutOfBoundsException" = E
    · subst e0
      rw [cd, if_pos rfl] at hu
      cases hu
      exact w_hand hC hr hE (pre := []) (suf := [(0, 7, 13, 13)]) (a := 0) (b := 7) (h := 8) (ct := 27) ht (v := tJ 1) (fun z hz => absurd hz List.not_mem_nil) ⟨by decide, by decide⟩ (by decide) wlE27 wcE27 (k := 3) (by decide) dL_countInRowsByTree_8 dL_countInRowsByTree_9 dL_countInRowsByTree_12 wk17 g1 g2 g3 hc hv hcl
    rw [cd, if_neg e0] at hu
    by_cases e1 : "java/lang/IllegalArgumentException" = E
    · subst e1
      rw [cd, if_pos rfl] at hu
      cases hu
      exact w_hand hC hr hE (pre := [(0, 7, 8, 27)]) (suf := []) (a := 0) (b := 7) (h := 13) (ct := 13) ht (v := tJ 2) (List.forall_mem_cons.mpr ⟨⟨by decide, "java/lang/IndexOutOfBoundsException", wlE27, ncsE _ _ (by simp) (by simp) (by decide)⟩, fun _ hz => absurd hz List.not_mem_nil⟩) ⟨by decide, by decide⟩ (by decide) wlE13 wcE13 (k := 3) (by decide) dL_countInRowsByTree_13 dL_countInRowsByTree_14 dL_countInRowsByTree_17 wk21 g1 g2 g3 hc hv hcl
    rw [cd, if_neg e1] at hu
    cases hu
  · refine lx_i2l hC dL_countInRowsByTree_6 ?_
    exact lx_lretN hC rfl hr dL_countInRowsByTree_7
theorem cw_X7_idByRank : Cond.code yX7_idByRank cX7_idByRank 2 (some .int) ∈ gw := gwt5 (List.mem_of_getElem? (i := 27) rfl) (by decide +kernel)
theorem ci_X7_idByRank : Cond.initialized yX7_idByRank.cls ∈ gw := gwt1 (List.mem_of_getElem? (i := 1) rfl) (by decide +kernel)
theorem cs_X7_idByRank : Cond.instanceMethod yX7_idByRank ∈ gw := gwt5 (List.mem_of_getElem? (i := 25) rfl) (by decide +kernel)
theorem ce_X7_idByRank : Cond.selects RX7 yX7_idByRank yX7_idByRank ∈ gw := gwt5 (List.mem_of_getElem? (i := 26) rfl) (by decide +kernel)
theorem cd_X7_idByRank : yX7_idByRank.cls ≠ "java/lang/invoke/MethodHandle" ∧ yX7_idByRank.cls ≠ "java/lang/invoke/VarHandle" ∧ (parseMethodDescriptor yX7_idByRank.desc).map (fun d => d.parameters.length) = some 1 := ⟨by decide, by decide, by decide +kernel⟩
def m_L_idByRank (p0 : Int32) (s : Mem) : Res Int64 := wJ ["java/util/NoSuchElementException"] (m_X7_idByRank p0 s)
theorem n_L_idByRank (p0 : Int32) (s : Mem) : Mn s (m_L_idByRank p0 s) := mn_wJ (n_X7_idByRank p0 s)
theorem wd1004 : Cond.methodLink RL 132 yX7_idByRank ∈ gw := gwt5 (List.mem_of_getElem? (i := 24) rfl) (by decide +kernel)
theorem cw_L_idByRank : Cond.codeWith yL_idByRank cL_idByRank 3 (some .long) [(0, 6, 7, 40)] ∈ gw := gwt5 (List.mem_of_getElem? (i := 22) rfl) (by decide +kernel)
theorem cs_L_idByRank : Cond.static yL_idByRank ∈ gw := gwt5 (List.mem_of_getElem? (i := 21) rfl) (by decide +kernel)
theorem cd_L_idByRank : yL_idByRank.cls ≠ "java/lang/invoke/MethodHandle" ∧ yL_idByRank.cls ≠ "java/lang/invoke/VarHandle" ∧ (parseMethodDescriptor yL_idByRank.desc).map (fun d => d.parameters.length) = some 2 := ⟨by decide, by decide, by decide +kernel⟩
set_option maxRecDepth 100000 in
set_option maxHeartbeats 2000000 in
theorem sat_L_idByRank (l : Launch) (hl : l.stackTraces = false) (p0 : Int32) (s : Mem) : SatW l yL_idByRank (.codeWith yL_idByRank cL_idByRank 3 (some .long) [(0, 6, 7, 40)]) 33 569 (fun x => some (.long x)) [.ref 0, .int p0] s (m_L_idByRank p0 s) := by
  refine satw_of (by decide) (Nat.le_of_ble_eq_true rfl) (fun X V A adV hxl hC hE ht hr => ?_) (n_L_idByRank p0 s)
  subst hxl
  show LX X V A 33 569 (nC s) (nS s) _ 0 [(0, .ref 0), (1, .int p0)] [] s _
  unfold m_L_idByRank wJ
  rw [show yL_idByRank.cls = RL from rfl] at hC
  refine lx_aload_n hC dL_idByRank_0 rfl 0 rfl ?_
  refine lx_iload_n hC dL_idByRank_1 rfl 1 rfl ?_
  refine lx_callC hC (sat_X7_idByRank (xl X) hl p0 s) (run_V (as := [.int p0]) (rest := []) hC hE ly0 rfl cw_X7_idByRank ci_X7_idByRank wd1004 cs_X7_idByRank ce_X7_idByRank cd_X7_idByRank (by decide) (by decide) (Nat.le_of_ble_eq_true rfl) dL_idByRank_2 rfl) (fun E σ1 u hE0 hu R H locs hid ls q ce h2 h3 h4 h5 g1 g2 g3 hc hv hcl => ?_) (fun v s1 _ => ?_)
  · by_cases e0 : "java/util/NoSuchElementException" = E
    · subst e0
      rw [cd, if_pos rfl] at hu
      cases hu
      exact w_hand hC hr hE (pre := []) (suf := []) (a := 0) (b := 6) (h := 7) (ct := 40) ht (v := tJ 1) (fun z hz => absurd hz List.not_mem_nil) ⟨by decide, by decide⟩ (by decide) wlE40 wcE40 (k := 2) (by decide) dL_idByRank_7 dL_idByRank_8 dL_idByRank_11 wk17 g1 g2 g3 hc hv hcl
    rw [cd, if_neg e0] at hu
    cases hu
  · refine lx_i2l hC dL_idByRank_5 ?_
    exact lx_lretN hC rfl hr dL_idByRank_6
theorem cw_X7_idByRankByTree : Cond.code yX7_idByRankByTree cX7_idByRankByTree 3 (some .int) ∈ gw := gwt6 (List.mem_of_getElem? (i := 119) rfl) (by decide +kernel)
theorem ci_X7_idByRankByTree : Cond.initialized yX7_idByRankByTree.cls ∈ gw := gwt1 (List.mem_of_getElem? (i := 1) rfl) (by decide +kernel)
theorem cs_X7_idByRankByTree : Cond.instanceMethod yX7_idByRankByTree ∈ gw := gwt6 (List.mem_of_getElem? (i := 117) rfl) (by decide +kernel)
theorem ce_X7_idByRankByTree : Cond.selects RX7 yX7_idByRankByTree yX7_idByRankByTree ∈ gw := gwt6 (List.mem_of_getElem? (i := 118) rfl) (by decide +kernel)
theorem cd_X7_idByRankByTree : yX7_idByRankByTree.cls ≠ "java/lang/invoke/MethodHandle" ∧ yX7_idByRankByTree.cls ≠ "java/lang/invoke/VarHandle" ∧ (parseMethodDescriptor yX7_idByRankByTree.desc).map (fun d => d.parameters.length) = some 1 := ⟨by decide, by decide, by decide +kernel⟩
def m_L_idByRankByTree (p0 : Int32) (s : Mem) : Res Int64 := wJ ["java/util/NoSuchElementException"] (m_X7_idByRankByTree p0 s)
theorem n_L_idByRankByTree (p0 : Int32) (s : Mem) : Mn s (m_L_idByRankByTree p0 s) := mn_wJ (n_X7_idByRankByTree p0 s)
theorem wd1336 : Cond.methodLink RL 135 yX7_idByRankByTree ∈ gw := gwt6 (List.mem_of_getElem? (i := 116) rfl) (by decide +kernel)
theorem cw_L_idByRankByTree : Cond.codeWith yL_idByRankByTree cL_idByRankByTree 3 (some .long) [(0, 6, 7, 40)] ∈ gw := gwt6 (List.mem_of_getElem? (i := 115) rfl) (by decide +kernel)
theorem cs_L_idByRankByTree : Cond.static yL_idByRankByTree ∈ gw := gwt6 (List.mem_of_getElem? (i := 114) rfl) (by decide +kernel)
theorem cd_L_idByRankByTree : yL_idByRankByTree.cls ≠ "java/lang/invoke/MethodHandle" ∧ yL_idByRankByTree.cls ≠ "java/lang/invoke/VarHandle" ∧ (parseMethodDescriptor yL_idByRankByTree.desc).map (fun d => d.parameters.length) = some 2 := ⟨by decide, by decide, by decide +kernel⟩
set_option maxRecDepth 100000 in
set_option maxHeartbeats 2000000 in
theorem sat_L_idByRankByTree (l : Launch) (hl : l.stackTraces = false) (p0 : Int32) (s : Mem) : SatW l yL_idByRankByTree (.codeWith yL_idByRankByTree cL_idByRankByTree 3 (some .long) [(0, 6, 7, 40)]) 33 570 (fun x => some (.long x)) [.ref 0, .int p0] s (m_L_idByRankByTree p0 s) := by
  refine satw_of (by decide) (Nat.le_of_ble_eq_true rfl) (fun X V A adV hxl hC hE ht hr => ?_) (n_L_idByRankByTree p0 s)
  subst hxl
  show LX X V A 33 570 (nC s) (nS s) _ 0 [(0, .ref 0), (1, .int p0)] [] s _
  unfold m_L_idByRankByTree wJ
  rw [show yL_idByRankByTree.cls = RL from rfl] at hC
  refine lx_aload_n hC dL_idByRankByTree_0 rfl 0 rfl ?_
  refine lx_iload_n hC dL_idByRankByTree_1 rfl 1 rfl ?_
  refine lx_callC hC (sat_X7_idByRankByTree (xl X) hl p0 s) (run_V (as := [.int p0]) (rest := []) hC hE ly0 rfl cw_X7_idByRankByTree ci_X7_idByRankByTree wd1336 cs_X7_idByRankByTree ce_X7_idByRankByTree cd_X7_idByRankByTree (by decide) (by decide) (Nat.le_of_ble_eq_true rfl) dL_idByRankByTree_2 rfl) (fun E σ1 u hE0 hu R H locs hid ls q ce h2 h3 h4 h5 g1 g2 g3 hc hv hcl => ?_) (fun v s1 _ => ?_)
  · by_cases e0 : "java/util/NoSuchElementException" = E
    · subst e0
      rw [cd, if_pos rfl] at hu
      cases hu
      exact w_hand hC hr hE (pre := []) (suf := []) (a := 0) (b := 6) (h := 7) (ct := 40) ht (v := tJ 1) (fun z hz => absurd hz List.not_mem_nil) ⟨by decide, by decide⟩ (by decide) wlE40 wcE40 (k := 2) (by decide) dL_idByRankByTree_7 dL_idByRankByTree_8 dL_idByRankByTree_11 wk17 g1 g2 g3 hc hv hcl
    rw [cd, if_neg e0] at hu
    cases hu
  · refine lx_i2l hC dL_idByRankByTree_5 ?_
    exact lx_lretN hC rfl hr dL_idByRankByTree_6
theorem cw_X7_rank : Cond.code yX7_rank cX7_rank 2 (some .int) ∈ gw := gwt6 (List.mem_of_getElem? (i := 126) rfl) (by decide +kernel)
theorem ci_X7_rank : Cond.initialized yX7_rank.cls ∈ gw := gwt1 (List.mem_of_getElem? (i := 1) rfl) (by decide +kernel)
theorem cs_X7_rank : Cond.instanceMethod yX7_rank ∈ gw := gwt6 (List.mem_of_getElem? (i := 124) rfl) (by decide +kernel)
theorem ce_X7_rank : Cond.selects RX7 yX7_rank yX7_rank ∈ gw := gwt6 (List.mem_of_getElem? (i := 125) rfl) (by decide +kernel)
theorem cd_X7_rank : yX7_rank.cls ≠ "java/lang/invoke/MethodHandle" ∧ yX7_rank.cls ≠ "java/lang/invoke/VarHandle" ∧ (parseMethodDescriptor yX7_rank.desc).map (fun d => d.parameters.length) = some 1 := ⟨by decide, by decide, by decide +kernel⟩
def m_L_rank (p0 : Int32) (s : Mem) : Res Int64 := wJ ["java/util/NoSuchElementException"] (m_X7_rank p0 s)
theorem n_L_rank (p0 : Int32) (s : Mem) : Mn s (m_L_rank p0 s) := mn_wJ (n_X7_rank p0 s)
theorem wd1343 : Cond.methodLink RL 138 yX7_rank ∈ gw := gwt6 (List.mem_of_getElem? (i := 123) rfl) (by decide +kernel)
theorem cw_L_rank : Cond.codeWith yL_rank cL_rank 3 (some .long) [(0, 6, 7, 40)] ∈ gw := gwt6 (List.mem_of_getElem? (i := 122) rfl) (by decide +kernel)
theorem cs_L_rank : Cond.static yL_rank ∈ gw := gwt6 (List.mem_of_getElem? (i := 121) rfl) (by decide +kernel)
theorem cd_L_rank : yL_rank.cls ≠ "java/lang/invoke/MethodHandle" ∧ yL_rank.cls ≠ "java/lang/invoke/VarHandle" ∧ (parseMethodDescriptor yL_rank.desc).map (fun d => d.parameters.length) = some 2 := ⟨by decide, by decide, by decide +kernel⟩
set_option maxRecDepth 100000 in
set_option maxHeartbeats 2000000 in
theorem sat_L_rank (l : Launch) (hl : l.stackTraces = false) (p0 : Int32) (s : Mem) : SatW l yL_rank (.codeWith yL_rank cL_rank 3 (some .long) [(0, 6, 7, 40)]) 34 589 (fun x => some (.long x)) [.ref 0, .int p0] s (m_L_rank p0 s) := by
  refine satw_of (by decide) (Nat.le_of_ble_eq_true rfl) (fun X V A adV hxl hC hE ht hr => ?_) (n_L_rank p0 s)
  subst hxl
  show LX X V A 34 589 (nC s) (nS s) _ 0 [(0, .ref 0), (1, .int p0)] [] s _
  unfold m_L_rank wJ
  rw [show yL_rank.cls = RL from rfl] at hC
  refine lx_aload_n hC dL_rank_0 rfl 0 rfl ?_
  refine lx_iload_n hC dL_rank_1 rfl 1 rfl ?_
  refine lx_callC hC (sat_X7_rank (xl X) hl p0 s) (run_V (as := [.int p0]) (rest := []) hC hE ly0 rfl cw_X7_rank ci_X7_rank wd1343 cs_X7_rank ce_X7_rank cd_X7_rank (by decide) (by decide) (Nat.le_of_ble_eq_true rfl) dL_rank_2 rfl) (fun E σ1 u hE0 hu R H locs hid ls q ce h2 h3 h4 h5 g1 g2 g3 hc hv hcl => ?_) (fun v s1 _ => ?_)
  · by_cases e0 : "java/util/NoSuchElementException" = E
    · subst e0
      rw [cd, if_pos rfl] at hu
      cases hu
      exact w_hand hC hr hE (pre := []) (suf := []) (a := 0) (b := 6) (h := 7) (ct := 40) ht (v := tJ 1) (fun z hz => absurd hz List.not_mem_nil) ⟨by decide, by decide⟩ (by decide) wlE40 wcE40 (k := 2) (by decide) dL_rank_7 dL_rank_8 dL_rank_11 wk17 g1 g2 g3 hc hv hcl
    rw [cd, if_neg e0] at hu
    cases hu
  · refine lx_i2l hC dL_rank_5 ?_
    exact lx_lretN hC rfl hr dL_rank_6
theorem cw_X7_loudest : Cond.code yX7_loudest cX7_loudest 3 (some .int) ∈ gw := gwt7 (List.mem_of_getElem? (i := 6) rfl) (by decide +kernel)
theorem ci_X7_loudest : Cond.initialized yX7_loudest.cls ∈ gw := gwt1 (List.mem_of_getElem? (i := 1) rfl) (by decide +kernel)
theorem cs_X7_loudest : Cond.instanceMethod yX7_loudest ∈ gw := gwt7 (List.mem_of_getElem? (i := 4) rfl) (by decide +kernel)
theorem ce_X7_loudest : Cond.selects RX7 yX7_loudest yX7_loudest ∈ gw := gwt7 (List.mem_of_getElem? (i := 5) rfl) (by decide +kernel)
theorem cd_X7_loudest : yX7_loudest.cls ≠ "java/lang/invoke/MethodHandle" ∧ yX7_loudest.cls ≠ "java/lang/invoke/VarHandle" ∧ (parseMethodDescriptor yX7_loudest.desc).map (fun d => d.parameters.length) = some 0 := ⟨by decide, by decide, by decide +kernel⟩
def m_L_loudest (s : Mem) : Res Int64 := wJ ["java/util/NoSuchElementException"] (m_X7_loudest s)
theorem n_L_loudest (s : Mem) : Mn s (m_L_loudest s) := mn_wJ (n_X7_loudest s)
theorem wd1463 : Cond.methodLink RL 141 yX7_loudest ∈ gw := gwt7 (List.mem_of_getElem? (i := 3) rfl) (by decide +kernel)
theorem cw_L_loudest : Cond.codeWith yL_loudest cL_loudest 2 (some .long) [(0, 5, 6, 40)] ∈ gw := gwt7 (List.mem_of_getElem? (i := 2) rfl) (by decide +kernel)
theorem cs_L_loudest : Cond.static yL_loudest ∈ gw := gwt7 (List.mem_of_getElem? (i := 1) rfl) (by decide +kernel)
theorem cd_L_loudest : yL_loudest.cls ≠ "java/lang/invoke/MethodHandle" ∧ yL_loudest.cls ≠ "java/lang/invoke/VarHandle" ∧ (parseMethodDescriptor yL_loudest.desc).map (fun d => d.parameters.length) = some 1 := ⟨by decide, by decide, by decide +kernel⟩
set_option maxRecDepth 100000 in
set_option maxHeartbeats 2000000 in
theorem sat_L_loudest (l : Launch) (hl : l.stackTraces = false) (s : Mem) : SatW l yL_loudest (.codeWith yL_loudest cL_loudest 2 (some .long) [(0, 5, 6, 40)]) 32 548 (fun x => some (.long x)) [.ref 0] s (m_L_loudest s) := by
  refine satw_of (by decide) (Nat.le_of_ble_eq_true rfl) (fun X V A adV hxl hC hE ht hr => ?_) (n_L_loudest s)
  subst hxl
  show LX X V A 32 548 (nC s) (nS s) _ 0 [(0, .ref 0)] [] s _
  unfold m_L_loudest wJ
  rw [show yL_loudest.cls = RL from rfl] at hC
  refine lx_aload_n hC dL_loudest_0 rfl 0 rfl ?_
  refine lx_callC hC (sat_X7_loudest (xl X) hl s) (run_V (as := []) (rest := []) hC hE ly0 rfl cw_X7_loudest ci_X7_loudest wd1463 cs_X7_loudest ce_X7_loudest cd_X7_loudest (by decide) (by decide) (Nat.le_of_ble_eq_true rfl) dL_loudest_1 rfl) (fun E σ1 u hE0 hu R H locs hid ls q ce h2 h3 h4 h5 g1 g2 g3 hc hv hcl => ?_) (fun v s1 _ => ?_)
  · by_cases e0 : "java/util/NoSuchElementException" = E
    · subst e0
      rw [cd, if_pos rfl] at hu
      cases hu
      exact w_hand hC hr hE (pre := []) (suf := []) (a := 0) (b := 5) (h := 6) (ct := 40) ht (v := tJ 1) (fun z hz => absurd hz List.not_mem_nil) ⟨by decide, by decide⟩ (by decide) wlE40 wcE40 (k := 1) (by decide) dL_loudest_6 dL_loudest_7 dL_loudest_10 wk17 g1 g2 g3 hc hv hcl
    rw [cd, if_neg e0] at hu
    cases hu
  · refine lx_i2l hC dL_loudest_4 ?_
    exact lx_lretN hC rfl hr dL_loudest_5
theorem cw_X7_namedRow : Cond.code yX7_namedRow cX7_namedRow 3 (some .int) ∈ gw := gwt5 (List.mem_of_getElem? (i := 59) rfl) (by decide +kernel)
theorem ci_X7_namedRow : Cond.initialized yX7_namedRow.cls ∈ gw := gwt1 (List.mem_of_getElem? (i := 1) rfl) (by decide +kernel)
theorem cs_X7_namedRow : Cond.instanceMethod yX7_namedRow ∈ gw := gwt5 (List.mem_of_getElem? (i := 57) rfl) (by decide +kernel)
theorem ce_X7_namedRow : Cond.selects RX7 yX7_namedRow yX7_namedRow ∈ gw := gwt5 (List.mem_of_getElem? (i := 58) rfl) (by decide +kernel)
theorem cd_X7_namedRow : yX7_namedRow.cls ≠ "java/lang/invoke/MethodHandle" ∧ yX7_namedRow.cls ≠ "java/lang/invoke/VarHandle" ∧ (parseMethodDescriptor yX7_namedRow.desc).map (fun d => d.parameters.length) = some 1 := ⟨by decide, by decide, by decide +kernel⟩
def m_L_namedRow (p0 : Int32) (s : Mem) : Res Int64 := wJ ["java/lang/IllegalArgumentException", "java/util/NoSuchElementException"] (m_X7_namedRow p0 s)
theorem n_L_namedRow (p0 : Int32) (s : Mem) : Mn s (m_L_namedRow p0 s) := mn_wJ (n_X7_namedRow p0 s)
theorem wd1036 : Cond.methodLink RL 151 yX7_namedRow ∈ gw := gwt5 (List.mem_of_getElem? (i := 56) rfl) (by decide +kernel)
theorem cw_L_namedRow : Cond.codeWith yL_namedRow cL_namedRow 3 (some .long) [(0, 6, 7, 13), (0, 6, 12, 40)] ∈ gw := gwt5 (List.mem_of_getElem? (i := 55) rfl) (by decide +kernel)
theorem cs_L_namedRow : Cond.static yL_namedRow ∈ gw := gwt5 (List.mem_of_getElem? (i := 54) rfl) (by decide +kernel)
theorem cd_L_namedRow : yL_namedRow.cls ≠ "java/lang/invoke/MethodHandle" ∧ yL_namedRow.cls ≠ "java/lang/invoke/VarHandle" ∧ (parseMethodDescriptor yL_namedRow.desc).map (fun d => d.parameters.length) = some 2 := ⟨by decide, by decide, by decide +kernel⟩
set_option maxRecDepth 100000 in
set_option maxHeartbeats 2000000 in
theorem sat_L_namedRow (l : Launch) (hl : l.stackTraces = false) (p0 : Int32) (s : Mem) : SatW l yL_namedRow (.codeWith yL_namedRow cL_namedRow 3 (some .long) [(0, 6, 7, 13), (0, 6, 12, 40)]) 33 563 (fun x => some (.long x)) [.ref 0, .int p0] s (m_L_namedRow p0 s) := by
  refine satw_of (by decide) (Nat.le_of_ble_eq_true rfl) (fun X V A adV hxl hC hE ht hr => ?_) (n_L_namedRow p0 s)
  subst hxl
  show LX X V A 33 563 (nC s) (nS s) _ 0 [(0, .ref 0), (1, .int p0)] [] s _
  unfold m_L_namedRow wJ
  rw [show yL_namedRow.cls = RL from rfl] at hC
  refine lx_aload_n hC dL_namedRow_0 rfl 0 rfl ?_
  refine lx_iload_n hC dL_namedRow_1 rfl 1 rfl ?_
  refine lx_callC hC (sat_X7_namedRow (xl X) hl p0 s) (run_V (as := [.int p0]) (rest := []) hC hE ly0 rfl cw_X7_namedRow ci_X7_namedRow wd1036 cs_X7_namedRow ce_X7_namedRow cd_X7_namedRow (by decide) (by decide) (Nat.le_of_ble_eq_true rfl) dL_namedRow_2 rfl) (fun E σ1 u hE0 hu R H locs hid ls q ce h2 h3 h4 h5 g1 g2 g3 hc hv hcl => ?_) (fun v s1 _ => ?_)
  · by_cases e0 : "java/lang/IllegalArgumentException" = E
    · subst e0
      rw [cd, if_pos rfl] at hu
      cases hu
      exact w_hand hC hr hE (pre := []) (suf := [(0, 6, 12, 40)]) (a := 0) (b := 6) (h := 7) (ct := 13) ht (v := tJ 1) (fun z hz => absurd hz List.not_mem_nil) ⟨by decide, by decide⟩ (by decide) wlE13 wcE13 (k := 2) (by decide) dL_namedRow_7 dL_namedRow_8 dL_namedRow_11 wk17 g1 g2 g3 hc hv hcl
    rw [cd, if_neg e0] at hu
    by_cases e1 : "java/util/NoSuchElementException" = E
    · subst e1
      rw [cd, if_pos rfl] at hu
      cases hu
      exact w_hand hC hr hE (pre := [(0, 6, 7, 13)]) (suf := []) (a := 0) (b := 6) (h := 12) (ct := 40) ht (v := tJ 2) (List.forall_mem_cons.mpr ⟨⟨by decide, "java/lang/IllegalArgumentException", wlE13, ncsE _ _ (by simp) (by simp) (by decide)⟩, fun _ hz => absurd hz List.not_mem_nil⟩) ⟨by decide, by decide⟩ (by decide) wlE40 wcE40 (k := 2) (by decide) dL_namedRow_12 dL_namedRow_13 dL_namedRow_16 wk21 g1 g2 g3 hc hv hcl
    rw [cd, if_neg e1] at hu
    cases hu
  · refine lx_i2l hC dL_namedRow_5 ?_
    exact lx_lretN hC rfl hr dL_namedRow_6
theorem cw_X7_boxCount : Cond.code yX7_boxCount cX7_boxCount 2 (some .int) ∈ gw := gwt5 (List.mem_of_getElem? (i := 15) rfl) (by decide +kernel)
theorem ci_X7_boxCount : Cond.initialized yX7_boxCount.cls ∈ gw := gwt1 (List.mem_of_getElem? (i := 1) rfl) (by decide +kernel)
theorem cs_X7_boxCount : Cond.instanceMethod yX7_boxCount ∈ gw := gwt5 (List.mem_of_getElem? (i := 13) rfl) (by decide +kernel)
theorem ce_X7_boxCount : Cond.selects RX7 yX7_boxCount yX7_boxCount ∈ gw := gwt5 (List.mem_of_getElem? (i := 14) rfl) (by decide +kernel)
theorem cd_X7_boxCount : yX7_boxCount.cls ≠ "java/lang/invoke/MethodHandle" ∧ yX7_boxCount.cls ≠ "java/lang/invoke/VarHandle" ∧ (parseMethodDescriptor yX7_boxCount.desc).map (fun d => d.parameters.length) = some 1 := ⟨by decide, by decide, by decide +kernel⟩
def m_L_boxCount (p0 : Int32) (s : Mem) : Res Int64 := wJ ["java/lang/IndexOutOfBoundsException"] (m_X7_boxCount p0 s)
theorem n_L_boxCount (p0 : Int32) (s : Mem) : Mn s (m_L_boxCount p0 s) := mn_wJ (n_X7_boxCount p0 s)
theorem wd992 : Cond.methodLink RL 155 yX7_boxCount ∈ gw := gwt5 (List.mem_of_getElem? (i := 12) rfl) (by decide +kernel)
theorem cw_L_boxCount : Cond.codeWith yL_boxCount cL_boxCount 3 (some .long) [(0, 6, 7, 27)] ∈ gw := gwt5 (List.mem_of_getElem? (i := 11) rfl) (by decide +kernel)
theorem cs_L_boxCount : Cond.static yL_boxCount ∈ gw := gwt5 (List.mem_of_getElem? (i := 10) rfl) (by decide +kernel)
theorem cd_L_boxCount : yL_boxCount.cls ≠ "java/lang/invoke/MethodHandle" ∧ yL_boxCount.cls ≠ "java/lang/invoke/VarHandle" ∧ (parseMethodDescriptor yL_boxCount.desc).map (fun d => d.parameters.length) = some 2 := ⟨by decide, by decide, by decide +kernel⟩
set_option maxRecDepth 100000 in
set_option maxHeartbeats 2000000 in
theorem sat_L_boxCount (l : Launch) (hl : l.stackTraces = false) (p0 : Int32) (s : Mem) : SatW l yL_boxCount (.codeWith yL_boxCount cL_boxCount 3 (some .long) [(0, 6, 7, 27)]) 33 564 (fun x => some (.long x)) [.ref 0, .int p0] s (m_L_boxCount p0 s) := by
  refine satw_of (by decide) (Nat.le_of_ble_eq_true rfl) (fun X V A adV hxl hC hE ht hr => ?_) (n_L_boxCount p0 s)
  subst hxl
  show LX X V A 33 564 (nC s) (nS s) _ 0 [(0, .ref 0), (1, .int p0)] [] s _
  unfold m_L_boxCount wJ
  rw [show yL_boxCount.cls = RL from rfl] at hC
  refine lx_aload_n hC dL_boxCount_0 rfl 0 rfl ?_
  refine lx_iload_n hC dL_boxCount_1 rfl 1 rfl ?_
  refine lx_callC hC (sat_X7_boxCount (xl X) hl p0 s) (run_V (as := [.int p0]) (rest := []) hC hE ly0 rfl cw_X7_boxCount ci_X7_boxCount wd992 cs_X7_boxCount ce_X7_boxCount cd_X7_boxCount (by decide) (by decide) (Nat.le_of_ble_eq_true rfl) dL_boxCount_2 rfl) (fun E σ1 u hE0 hu R H locs hid ls q ce h2 h3 h4 h5 g1 g2 g3 hc hv hcl => ?_) (fun v s1 _ => ?_)
  · by_cases e0 : "java/lang/IndexOutOfBoundsException" = E
    · subst e0
      rw [cd, if_pos rfl] at hu
      cases hu
      exact w_hand hC hr hE (pre := []) (suf := []) (a := 0) (b := 6) (h := 7) (ct := 27) ht (v := tJ 1) (fun z hz => absurd hz List.not_mem_nil) ⟨by decide, by decide⟩ (by decide) wlE27 wcE27 (k := 2) (by decide) dL_boxCount_7 dL_boxCount_8 dL_boxCount_11 wk17 g1 g2 g3 hc hv hcl
    rw [cd, if_neg e0] at hu
    cases hu
  · refine lx_i2l hC dL_boxCount_5 ?_
    exact lx_lretN hC rfl hr dL_boxCount_6
theorem cw_X7_formatRow : Cond.code yX7_formatRow cX7_formatRow 3 (some .int) ∈ gw := gwt3 (List.mem_of_getElem? (i := 180) rfl) (by decide +kernel)
theorem ci_X7_formatRow : Cond.initialized yX7_formatRow.cls ∈ gw := gwt1 (List.mem_of_getElem? (i := 1) rfl) (by decide +kernel)
theorem cs_X7_formatRow : Cond.instanceMethod yX7_formatRow ∈ gw := gwt3 (List.mem_of_getElem? (i := 178) rfl) (by decide +kernel)
theorem ce_X7_formatRow : Cond.selects RX7 yX7_formatRow yX7_formatRow ∈ gw := gwt3 (List.mem_of_getElem? (i := 179) rfl) (by decide +kernel)
theorem cd_X7_formatRow : yX7_formatRow.cls ≠ "java/lang/invoke/MethodHandle" ∧ yX7_formatRow.cls ≠ "java/lang/invoke/VarHandle" ∧ (parseMethodDescriptor yX7_formatRow.desc).map (fun d => d.parameters.length) = some 1 := ⟨by decide, by decide, by decide +kernel⟩
def m_L_formatRow (p0 : Int32) (s : Mem) : Res Int64 := wJ ["java/lang/IndexOutOfBoundsException"] (m_X7_formatRow p0 s)
theorem n_L_formatRow (p0 : Int32) (s : Mem) : Mn s (m_L_formatRow p0 s) := mn_wJ (n_X7_formatRow p0 s)
theorem wd677 : Cond.methodLink RL 200 yX7_formatRow ∈ gw := gwt3 (List.mem_of_getElem? (i := 177) rfl) (by decide +kernel)
theorem cw_L_formatRow : Cond.codeWith yL_formatRow cL_formatRow 3 (some .long) [(0, 6, 7, 27)] ∈ gw := gwt3 (List.mem_of_getElem? (i := 176) rfl) (by decide +kernel)
theorem cs_L_formatRow : Cond.static yL_formatRow ∈ gw := gwt3 (List.mem_of_getElem? (i := 175) rfl) (by decide +kernel)
theorem cd_L_formatRow : yL_formatRow.cls ≠ "java/lang/invoke/MethodHandle" ∧ yL_formatRow.cls ≠ "java/lang/invoke/VarHandle" ∧ (parseMethodDescriptor yL_formatRow.desc).map (fun d => d.parameters.length) = some 2 := ⟨by decide, by decide, by decide +kernel⟩
set_option maxRecDepth 100000 in
set_option maxHeartbeats 2000000 in
theorem sat_L_formatRow (l : Launch) (hl : l.stackTraces = false) (p0 : Int32) (s : Mem) : SatW l yL_formatRow (.codeWith yL_formatRow cL_formatRow 3 (some .long) [(0, 6, 7, 27)]) 33 565 (fun x => some (.long x)) [.ref 0, .int p0] s (m_L_formatRow p0 s) := by
  refine satw_of (by decide) (Nat.le_of_ble_eq_true rfl) (fun X V A adV hxl hC hE ht hr => ?_) (n_L_formatRow p0 s)
  subst hxl
  show LX X V A 33 565 (nC s) (nS s) _ 0 [(0, .ref 0), (1, .int p0)] [] s _
  unfold m_L_formatRow wJ
  rw [show yL_formatRow.cls = RL from rfl] at hC
  refine lx_aload_n hC dL_formatRow_0 rfl 0 rfl ?_
  refine lx_iload_n hC dL_formatRow_1 rfl 1 rfl ?_
  refine lx_callC hC (sat_X7_formatRow (xl X) hl p0 s) (run_V (as := [.int p0]) (rest := []) hC hE ly0 rfl cw_X7_formatRow ci_X7_formatRow wd677 cs_X7_formatRow ce_X7_formatRow cd_X7_formatRow (by decide) (by decide) (Nat.le_of_ble_eq_true rfl) dL_formatRow_2 rfl) (fun E σ1 u hE0 hu R H locs hid ls q ce h2 h3 h4 h5 g1 g2 g3 hc hv hcl => ?_) (fun v s1 _ => ?_)
  · by_cases e0 : "java/lang/IndexOutOfBoundsException" = E
    · subst e0
      rw [cd, if_pos rfl] at hu
      cases hu
      exact w_hand hC hr hE (pre := []) (suf := []) (a := 0) (b := 6) (h := 7) (ct := 27) ht (v := tJ 1) (fun z hz => absurd hz List.not_mem_nil) ⟨by decide, by decide⟩ (by decide) wlE27 wcE27 (k := 2) (by decide) dL_formatRow_7 dL_formatRow_8 dL_formatRow_11 wk17 g1 g2 g3 hc hv hcl
    rw [cd, if_neg e0] at hu
    cases hu
  · refine lx_i2l hC dL_formatRow_5 ?_
    exact lx_lretN hC rfl hr dL_formatRow_6
theorem cw_X7_formatEcho : Cond.code yX7_formatEcho cX7_formatEcho 4 (some .int) ∈ gw := gwt5 (List.mem_of_getElem? (i := 47) rfl) (by decide +kernel)
theorem ci_X7_formatEcho : Cond.initialized yX7_formatEcho.cls ∈ gw := gwt1 (List.mem_of_getElem? (i := 1) rfl) (by decide +kernel)
theorem cs_X7_formatEcho : Cond.instanceMethod yX7_formatEcho ∈ gw := gwt5 (List.mem_of_getElem? (i := 45) rfl) (by decide +kernel)
theorem ce_X7_formatEcho : Cond.selects RX7 yX7_formatEcho yX7_formatEcho ∈ gw := gwt5 (List.mem_of_getElem? (i := 46) rfl) (by decide +kernel)
theorem cd_X7_formatEcho : yX7_formatEcho.cls ≠ "java/lang/invoke/MethodHandle" ∧ yX7_formatEcho.cls ≠ "java/lang/invoke/VarHandle" ∧ (parseMethodDescriptor yX7_formatEcho.desc).map (fun d => d.parameters.length) = some 1 := ⟨by decide, by decide, by decide +kernel⟩
def m_L_formatEcho (p0 : Int32) (s : Mem) : Res Int64 := wJ ["java/util/NoSuchElementException"] (m_X7_formatEcho p0 s)
theorem n_L_formatEcho (p0 : Int32) (s : Mem) : Mn s (m_L_formatEcho p0 s) := mn_wJ (n_X7_formatEcho p0 s)
theorem wd1024 : Cond.methodLink RL 203 yX7_formatEcho ∈ gw := gwt5 (List.mem_of_getElem? (i := 44) rfl) (by decide +kernel)
theorem cw_L_formatEcho : Cond.codeWith yL_formatEcho cL_formatEcho 3 (some .long) [(0, 6, 7, 40)] ∈ gw := gwt5 (List.mem_of_getElem? (i := 43) rfl) (by decide +kernel)
theorem cs_L_formatEcho : Cond.static yL_formatEcho ∈ gw := gwt5 (List.mem_of_getElem? (i := 42) rfl) (by decide +kernel)
theorem cd_L_formatEcho : yL_formatEcho.cls ≠ "java/lang/invoke/MethodHandle" ∧ yL_formatEcho.cls ≠ "java/lang/invoke/VarHandle" ∧ (parseMethodDescriptor yL_formatEcho.desc).map (fun d => d.parameters.length) = some 2 := ⟨by decide, by decide, by decide +kernel⟩
set_option maxRecDepth 100000 in
set_option maxHeartbeats 2000000 in
theorem sat_L_formatEcho (l : Launch) (hl : l.stackTraces = false) (p0 : Int32) (s : Mem) : SatW l yL_formatEcho (.codeWith yL_formatEcho cL_formatEcho 3 (some .long) [(0, 6, 7, 40)]) 33 567 (fun x => some (.long x)) [.ref 0, .int p0] s (m_L_formatEcho p0 s) := by
  refine satw_of (by decide) (Nat.le_of_ble_eq_true rfl) (fun X V A adV hxl hC hE ht hr => ?_) (n_L_formatEcho p0 s)
  subst hxl
  show LX X V A 33 567 (nC s) (nS s) _ 0 [(0, .ref 0), (1, .int p0)] [] s _
  unfold m_L_formatEcho wJ
  rw [show yL_formatEcho.cls = RL from rfl] at hC
  refine lx_aload_n hC dL_formatEcho_0 rfl 0 rfl ?_
  refine lx_iload_n hC dL_formatEcho_1 rfl 1 rfl ?_
  refine lx_callC hC (sat_X7_formatEcho (xl X) hl p0 s) (run_V (as := [.int p0]) (rest := []) hC hE ly0 rfl cw_X7_formatEcho ci_X7_formatEcho wd1024 cs_X7_formatEcho ce_X7_formatEcho cd_X7_formatEcho (by decide) (by decide) (Nat.le_of_ble_eq_true rfl) dL_formatEcho_2 rfl) (fun E σ1 u hE0 hu R H locs hid ls q ce h2 h3 h4 h5 g1 g2 g3 hc hv hcl => ?_) (fun v s1 _ => ?_)
  · by_cases e0 : "java/util/NoSuchElementException" = E
    · subst e0
      rw [cd, if_pos rfl] at hu
      cases hu
      exact w_hand hC hr hE (pre := []) (suf := []) (a := 0) (b := 6) (h := 7) (ct := 40) ht (v := tJ 1) (fun z hz => absurd hz List.not_mem_nil) ⟨by decide, by decide⟩ (by decide) wlE40 wcE40 (k := 2) (by decide) dL_formatEcho_7 dL_formatEcho_8 dL_formatEcho_11 wk17 g1 g2 g3 hc hv hcl
    rw [cd, if_neg e0] at hu
    cases hu
  · refine lx_i2l hC dL_formatEcho_5 ?_
    exact lx_lretN hC rfl hr dL_formatEcho_6
theorem cw_X7_lineChar : Cond.code yX7_lineChar cX7_lineChar 2 (some .char) ∈ gw := gwt4 (List.mem_of_getElem? (i := 237) rfl) (by decide +kernel)
theorem ci_X7_lineChar : Cond.initialized yX7_lineChar.cls ∈ gw := gwt1 (List.mem_of_getElem? (i := 1) rfl) (by decide +kernel)
theorem cs_X7_lineChar : Cond.instanceMethod yX7_lineChar ∈ gw := gwt4 (List.mem_of_getElem? (i := 235) rfl) (by decide +kernel)
theorem ce_X7_lineChar : Cond.selects RX7 yX7_lineChar yX7_lineChar ∈ gw := gwt4 (List.mem_of_getElem? (i := 236) rfl) (by decide +kernel)
theorem cd_X7_lineChar : yX7_lineChar.cls ≠ "java/lang/invoke/MethodHandle" ∧ yX7_lineChar.cls ≠ "java/lang/invoke/VarHandle" ∧ (parseMethodDescriptor yX7_lineChar.desc).map (fun d => d.parameters.length) = some 1 := ⟨by decide, by decide, by decide +kernel⟩
def m_L_lineChar (p0 : Int32) (s : Mem) : Res Int64 := wJ ["java/lang/IndexOutOfBoundsException"] (m_X7_lineChar p0 s)
theorem n_L_lineChar (p0 : Int32) (s : Mem) : Mn s (m_L_lineChar p0 s) := mn_wJ (n_X7_lineChar p0 s)
theorem wd974 : Cond.methodLink RL 206 yX7_lineChar ∈ gw := gwt4 (List.mem_of_getElem? (i := 234) rfl) (by decide +kernel)
theorem cw_L_lineChar : Cond.codeWith yL_lineChar cL_lineChar 3 (some .long) [(0, 6, 7, 27)] ∈ gw := gwt4 (List.mem_of_getElem? (i := 233) rfl) (by decide +kernel)
theorem cs_L_lineChar : Cond.static yL_lineChar ∈ gw := gwt4 (List.mem_of_getElem? (i := 232) rfl) (by decide +kernel)
theorem cd_L_lineChar : yL_lineChar.cls ≠ "java/lang/invoke/MethodHandle" ∧ yL_lineChar.cls ≠ "java/lang/invoke/VarHandle" ∧ (parseMethodDescriptor yL_lineChar.desc).map (fun d => d.parameters.length) = some 2 := ⟨by decide, by decide, by decide +kernel⟩
set_option maxRecDepth 100000 in
set_option maxHeartbeats 2000000 in
theorem sat_L_lineChar (l : Launch) (hl : l.stackTraces = false) (p0 : Int32) (s : Mem) : SatW l yL_lineChar (.codeWith yL_lineChar cL_lineChar 3 (some .long) [(0, 6, 7, 27)]) 31 521 (fun x => some (.long x)) [.ref 0, .int p0] s (m_L_lineChar p0 s) := by
  refine satw_of (by decide) (Nat.le_of_ble_eq_true rfl) (fun X V A adV hxl hC hE ht hr => ?_) (n_L_lineChar p0 s)
  subst hxl
  show LX X V A 31 521 (nC s) (nS s) _ 0 [(0, .ref 0), (1, .int p0)] [] s _
  unfold m_L_lineChar wJ
  rw [show yL_lineChar.cls = RL from rfl] at hC
  refine lx_aload_n hC dL_lineChar_0 rfl 0 rfl ?_
  refine lx_iload_n hC dL_lineChar_1 rfl 1 rfl ?_
  refine lx_callC hC (sat_X7_lineChar (xl X) hl p0 s) (run_V (as := [.int p0]) (rest := []) hC hE ly0 rfl cw_X7_lineChar ci_X7_lineChar wd974 cs_X7_lineChar ce_X7_lineChar cd_X7_lineChar (by decide) (by decide) (Nat.le_of_ble_eq_true rfl) dL_lineChar_2 rfl) (fun E σ1 u hE0 hu R H locs hid ls q ce h2 h3 h4 h5 g1 g2 g3 hc hv hcl => ?_) (fun v s1 _ => ?_)
  · by_cases e0 : "java/lang/IndexOutOfBoundsException" = E
    · subst e0
      rw [cd, if_pos rfl] at hu
      cases hu
      exact w_hand hC hr hE (pre := []) (suf := []) (a := 0) (b := 6) (h := 7) (ct := 27) ht (v := tJ 1) (fun z hz => absurd hz List.not_mem_nil) ⟨by decide, by decide⟩ (by decide) wlE27 wcE27 (k := 2) (by decide) dL_lineChar_7 dL_lineChar_8 dL_lineChar_11 wk17 g1 g2 g3 hc hv hcl
    rw [cd, if_neg e0] at hu
    cases hu
  · refine lx_i2l hC dL_lineChar_5 ?_
    exact lx_lretN hC rfl hr dL_lineChar_6
theorem cw_X7_append : Cond.code yX7_append cX7_append 2 (some .int) ∈ gw := gwt5 (List.mem_of_getElem? (i := 165) rfl) (by decide +kernel)
theorem ci_X7_append : Cond.initialized yX7_append.cls ∈ gw := gwt1 (List.mem_of_getElem? (i := 1) rfl) (by decide +kernel)
theorem cs_X7_append : Cond.instanceMethod yX7_append ∈ gw := gwt5 (List.mem_of_getElem? (i := 163) rfl) (by decide +kernel)
theorem ce_X7_append : Cond.selects RX7 yX7_append yX7_append ∈ gw := gwt5 (List.mem_of_getElem? (i := 164) rfl) (by decide +kernel)
theorem cd_X7_append : yX7_append.cls ≠ "java/lang/invoke/MethodHandle" ∧ yX7_append.cls ≠ "java/lang/invoke/VarHandle" ∧ (parseMethodDescriptor yX7_append.desc).map (fun d => d.parameters.length) = some 1 := ⟨by decide, by decide, by decide +kernel⟩
def m_L_append (p0 : Int32) (s : Mem) : Res Int64 := wJ ["java/lang/IllegalArgumentException", "java/lang/IllegalStateException"] (m_X7_append p0 s)
theorem n_L_append (p0 : Int32) (s : Mem) : Mn s (m_L_append p0 s) := mn_wJ (n_X7_append p0 s)
theorem wd1142 : Cond.methodLink RL 210 yX7_append ∈ gw := gwt5 (List.mem_of_getElem? (i := 162) rfl) (by decide +kernel)
theorem cw_L_append : Cond.codeWith yL_append cL_append 3 (some .long) [(0, 6, 7, 13), (0, 6, 12, 19)] ∈ gw := gwt5 (List.mem_of_getElem? (i := 161) rfl) (by decide +kernel)
theorem cs_L_append : Cond.static yL_append ∈ gw := gwt5 (List.mem_of_getElem? (i := 160) rfl) (by decide +kernel)
theorem cd_L_append : yL_append.cls ≠ "java/lang/invoke/MethodHandle" ∧ yL_append.cls ≠ "java/lang/invoke/VarHandle" ∧ (parseMethodDescriptor yL_append.desc).map (fun d => d.parameters.length) = some 2 := ⟨by decide, by decide, by decide +kernel⟩
set_option maxRecDepth 100000 in
set_option maxHeartbeats 2000000 in
theorem sat_L_append (l : Launch) (hl : l.stackTraces = false) (p0 : Int32) (s : Mem) : SatW l yL_append (.codeWith yL_append cL_append 3 (some .long) [(0, 6, 7, 13), (0, 6, 12, 19)]) 31 521 (fun x => some (.long x)) [.ref 0, .int p0] s (m_L_append p0 s) := by
  refine satw_of (by decide) (Nat.le_of_ble_eq_true rfl) (fun X V A adV hxl hC hE ht hr => ?_) (n_L_append p0 s)
  subst hxl
  show LX X V A 31 521 (nC s) (nS s) _ 0 [(0, .ref 0), (1, .int p0)] [] s _
  unfold m_L_append wJ
  rw [show yL_append.cls = RL from rfl] at hC
  refine lx_aload_n hC dL_append_0 rfl 0 rfl ?_
  refine lx_iload_n hC dL_append_1 rfl 1 rfl ?_
  refine lx_callC hC (sat_X7_append (xl X) hl p0 s) (run_V (as := [.int p0]) (rest := []) hC hE ly0 rfl cw_X7_append ci_X7_append wd1142 cs_X7_append ce_X7_append cd_X7_append (by decide) (by decide) (Nat.le_of_ble_eq_true rfl) dL_append_2 rfl) (fun E σ1 u hE0 hu R H locs hid ls q ce h2 h3 h4 h5 g1 g2 g3 hc hv hcl => ?_) (fun v s1 _ => ?_)
  · by_cases e0 : "java/lang/IllegalArgumentException" = E
    · subst e0
      rw [cd, if_pos rfl] at hu
      cases hu
      exact w_hand hC hr hE (pre := []) (suf := [(0, 6, 12, 19)]) (a := 0) (b := 6) (h := 7) (ct := 13) ht (v := tJ 1) (fun z hz => absurd hz List.not_mem_nil) ⟨by decide, by decide⟩ (by decide) wlE13 wcE13 (k := 2) (by decide) dL_append_7 dL_append_8 dL_append_11 wk17 g1 g2 g3 hc hv hcl
    rw [cd, if_neg e0] at hu
    by_cases e1 : "java/lang/IllegalStateException" = E
    · subst e1
      rw [cd, if_pos rfl] at hu
      cases hu
      exact w_hand hC hr hE (pre := [(0, 6, 7, 13)]) (suf := []) (a := 0) (b := 6) (h := 12) (ct := 19) ht (v := tJ 2) (List.forall_mem_cons.mpr ⟨⟨by decide, "java/lang/IllegalArgumentException", wlE13, ncsE _ _ (by simp) (by simp) (by decide)⟩, fun _ hz => absurd hz List.not_mem_nil⟩) ⟨by decide, by decide⟩ (by decide) wlE19 wcE19 (k := 2) (by decide) dL_append_12 dL_append_13 dL_append_16 wk21 g1 g2 g3 hc hv hcl
    rw [cd, if_neg e1] at hu
    cases hu
  · refine lx_i2l hC dL_append_5 ?_
    exact lx_lretN hC rfl hr dL_append_6
theorem cw_X7_run : Cond.code yX7_run cX7_run 3 (some .int) ∈ gw := gwt5 (List.mem_of_getElem? (i := 174) rfl) (by decide +kernel)
theorem ci_X7_run : Cond.initialized yX7_run.cls ∈ gw := gwt1 (List.mem_of_getElem? (i := 1) rfl) (by decide +kernel)
theorem cs_X7_run : Cond.instanceMethod yX7_run ∈ gw := gwt5 (List.mem_of_getElem? (i := 172) rfl) (by decide +kernel)
theorem ce_X7_run : Cond.selects RX7 yX7_run yX7_run ∈ gw := gwt5 (List.mem_of_getElem? (i := 173) rfl) (by decide +kernel)
theorem cd_X7_run : yX7_run.cls ≠ "java/lang/invoke/MethodHandle" ∧ yX7_run.cls ≠ "java/lang/invoke/VarHandle" ∧ (parseMethodDescriptor yX7_run.desc).map (fun d => d.parameters.length) = some 0 := ⟨by decide, by decide, by decide +kernel⟩
def m_L_run (s : Mem) : Res Int64 := wJ ["java/lang/IllegalArgumentException", "java/lang/IllegalStateException"] (m_X7_run s)
theorem n_L_run (s : Mem) : Mn s (m_L_run s) := mn_wJ (n_X7_run s)
theorem wd1151 : Cond.methodLink RL 213 yX7_run ∈ gw := gwt5 (List.mem_of_getElem? (i := 171) rfl) (by decide +kernel)
theorem cw_L_run : Cond.codeWith yL_run cL_run 2 (some .long) [(0, 5, 6, 13), (0, 5, 11, 19)] ∈ gw := gwt5 (List.mem_of_getElem? (i := 170) rfl) (by decide +kernel)
theorem cs_L_run : Cond.static yL_run ∈ gw := gwt5 (List.mem_of_getElem? (i := 169) rfl) (by decide +kernel)
theorem cd_L_run : yL_run.cls ≠ "java/lang/invoke/MethodHandle" ∧ yL_run.cls ≠ "java/lang/invoke/VarHandle" ∧ (parseMethodDescriptor yL_run.desc).map (fun d => d.parameters.length) = some 1 := ⟨by decide, by decide, by decide +kernel⟩
set_option maxRecDepth 100000 in
set_option maxHeartbeats 2000000 in
theorem sat_L_run (l : Launch) (hl : l.stackTraces = false) (s : Mem) : SatW l yL_run (.codeWith yL_run cL_run 2 (some .long) [(0, 5, 6, 13), (0, 5, 11, 19)]) 37 661 (fun x => some (.long x)) [.ref 0] s (m_L_run s) := by
  refine satw_of (by decide) (Nat.le_of_ble_eq_true rfl) (fun X V A adV hxl hC hE ht hr => ?_) (n_L_run s)
  subst hxl
  show LX X V A 37 661 (nC s) (nS s) _ 0 [(0, .ref 0)] [] s _
  unfold m_L_run wJ
  rw [show yL_run.cls = RL from rfl] at hC
  refine lx_aload_n hC dL_run_0 rfl 0 rfl ?_
  refine lx_callC hC (sat_X7_run (xl X) hl s) (run_V (as := []) (rest := []) hC hE ly0 rfl cw_X7_run ci_X7_run wd1151 cs_X7_run ce_X7_run cd_X7_run (by decide) (by decide) (Nat.le_of_ble_eq_true rfl) dL_run_1 rfl) (fun E σ1 u hE0 hu R H locs hid ls q ce h2 h3 h4 h5 g1 g2 g3 hc hv hcl => ?_) (fun v s1 _ => ?_)
  · by_cases e0 : "java/lang/IllegalArgumentException" = E
    · subst e0
      rw [cd, if_pos rfl] at hu
      cases hu
      exact w_hand hC hr hE (pre := []) (suf := [(0, 5, 11, 19)]) (a := 0) (b := 5) (h := 6) (ct := 13) ht (v := tJ 1) (fun z hz => absurd hz List.not_mem_nil) ⟨by decide, by decide⟩ (by decide) wlE13 wcE13 (k := 1) (by decide) dL_run_6 dL_run_7 dL_run_10 wk17 g1 g2 g3 hc hv hcl
    rw [cd, if_neg e0] at hu
    by_cases e1 : "java/lang/IllegalStateException" = E
    · subst e1
      rw [cd, if_pos rfl] at hu
      cases hu
      exact w_hand hC hr hE (pre := [(0, 5, 6, 13)]) (suf := []) (a := 0) (b := 5) (h := 11) (ct := 19) ht (v := tJ 2) (List.forall_mem_cons.mpr ⟨⟨by decide, "java/lang/IllegalArgumentException", wlE13, ncsE _ _ (by simp) (by simp) (by decide)⟩, fun _ hz => absurd hz List.not_mem_nil⟩) ⟨by decide, by decide⟩ (by decide) wlE19 wcE19 (k := 1) (by decide) dL_run_11 dL_run_12 dL_run_15 wk21 g1 g2 g3 hc hv hcl
    rw [cd, if_neg e1] at hu
    cases hu
  · refine lx_i2l hC dL_run_4 ?_
    exact lx_lretN hC rfl hr dL_run_5
theorem cw_X7_undo : Cond.code yX7_undo cX7_undo 1 (some .int) ∈ gw := gwt3 (List.mem_of_getElem? (i := 121) rfl) (by decide +kernel)
theorem ci_X7_undo : Cond.initialized yX7_undo.cls ∈ gw := gwt1 (List.mem_of_getElem? (i := 1) rfl) (by decide +kernel)
theorem cs_X7_undo : Cond.instanceMethod yX7_undo ∈ gw := gwt3 (List.mem_of_getElem? (i := 119) rfl) (by decide +kernel)
theorem ce_X7_undo : Cond.selects RX7 yX7_undo yX7_undo ∈ gw := gwt3 (List.mem_of_getElem? (i := 120) rfl) (by decide +kernel)
theorem cd_X7_undo : yX7_undo.cls ≠ "java/lang/invoke/MethodHandle" ∧ yX7_undo.cls ≠ "java/lang/invoke/VarHandle" ∧ (parseMethodDescriptor yX7_undo.desc).map (fun d => d.parameters.length) = some 0 := ⟨by decide, by decide, by decide +kernel⟩
def m_L_undo (s : Mem) : Res Int64 := wJ ["java/lang/IllegalStateException"] (m_X7_undo s)
theorem n_L_undo (s : Mem) : Mn s (m_L_undo s) := mn_wJ (n_X7_undo s)
theorem wd618 : Cond.methodLink RL 225 yX7_undo ∈ gw := gwt3 (List.mem_of_getElem? (i := 118) rfl) (by decide +kernel)
theorem cw_L_undo : Cond.codeWith yL_undo cL_undo 2 (some .long) [(0, 5, 6, 19)] ∈ gw := gwt3 (List.mem_of_getElem? (i := 117) rfl) (by decide +kernel)
theorem cs_L_undo : Cond.static yL_undo ∈ gw := gwt3 (List.mem_of_getElem? (i := 116) rfl) (by decide +kernel)
theorem cd_L_undo : yL_undo.cls ≠ "java/lang/invoke/MethodHandle" ∧ yL_undo.cls ≠ "java/lang/invoke/VarHandle" ∧ (parseMethodDescriptor yL_undo.desc).map (fun d => d.parameters.length) = some 1 := ⟨by decide, by decide, by decide +kernel⟩
set_option maxRecDepth 100000 in
set_option maxHeartbeats 2000000 in
theorem sat_L_undo (l : Launch) (hl : l.stackTraces = false) (s : Mem) : SatW l yL_undo (.codeWith yL_undo cL_undo 2 (some .long) [(0, 5, 6, 19)]) 32 540 (fun x => some (.long x)) [.ref 0] s (m_L_undo s) := by
  refine satw_of (by decide) (Nat.le_of_ble_eq_true rfl) (fun X V A adV hxl hC hE ht hr => ?_) (n_L_undo s)
  subst hxl
  show LX X V A 32 540 (nC s) (nS s) _ 0 [(0, .ref 0)] [] s _
  unfold m_L_undo wJ
  rw [show yL_undo.cls = RL from rfl] at hC
  refine lx_aload_n hC dL_undo_0 rfl 0 rfl ?_
  refine lx_callC hC (sat_X7_undo (xl X) hl s) (run_V (as := []) (rest := []) hC hE ly0 rfl cw_X7_undo ci_X7_undo wd618 cs_X7_undo ce_X7_undo cd_X7_undo (by decide) (by decide) (Nat.le_of_ble_eq_true rfl) dL_undo_1 rfl) (fun E σ1 u hE0 hu R H locs hid ls q ce h2 h3 h4 h5 g1 g2 g3 hc hv hcl => ?_) (fun v s1 _ => ?_)
  · by_cases e0 : "java/lang/IllegalStateException" = E
    · subst e0
      rw [cd, if_pos rfl] at hu
      cases hu
      exact w_hand hC hr hE (pre := []) (suf := []) (a := 0) (b := 5) (h := 6) (ct := 19) ht (v := tJ 1) (fun z hz => absurd hz List.not_mem_nil) ⟨by decide, by decide⟩ (by decide) wlE19 wcE19 (k := 1) (by decide) dL_undo_6 dL_undo_7 dL_undo_10 wk17 g1 g2 g3 hc hv hcl
    rw [cd, if_neg e0] at hu
    cases hu
  · refine lx_i2l hC dL_undo_4 ?_
    exact lx_lretN hC rfl hr dL_undo_5
theorem cw_X7_restore : Cond.code yX7_restore cX7_restore 1 (some .int) ∈ gw := gwt3 (List.mem_of_getElem? (i := 133) rfl) (by decide +kernel)
theorem ci_X7_restore : Cond.initialized yX7_restore.cls ∈ gw := gwt1 (List.mem_of_getElem? (i := 1) rfl) (by decide +kernel)
theorem cs_X7_restore : Cond.instanceMethod yX7_restore ∈ gw := gwt3 (List.mem_of_getElem? (i := 131) rfl) (by decide +kernel)
theorem ce_X7_restore : Cond.selects RX7 yX7_restore yX7_restore ∈ gw := gwt3 (List.mem_of_getElem? (i := 132) rfl) (by decide +kernel)
theorem cd_X7_restore : yX7_restore.cls ≠ "java/lang/invoke/MethodHandle" ∧ yX7_restore.cls ≠ "java/lang/invoke/VarHandle" ∧ (parseMethodDescriptor yX7_restore.desc).map (fun d => d.parameters.length) = some 0 := ⟨by decide, by decide, by decide +kernel⟩
def m_L_restore (s : Mem) : Res Int64 := wJ ["java/lang/IllegalStateException"] (m_X7_restore s)
theorem n_L_restore (s : Mem) : Mn s (m_L_restore s) := mn_wJ (n_X7_restore s)
theorem wd630 : Cond.methodLink RL 231 yX7_restore ∈ gw := gwt3 (List.mem_of_getElem? (i := 130) rfl) (by decide +kernel)
theorem cw_L_restore : Cond.codeWith yL_restore cL_restore 2 (some .long) [(0, 5, 6, 19)] ∈ gw := gwt3 (List.mem_of_getElem? (i := 129) rfl) (by decide +kernel)
theorem cs_L_restore : Cond.static yL_restore ∈ gw := gwt3 (List.mem_of_getElem? (i := 128) rfl) (by decide +kernel)
theorem cd_L_restore : yL_restore.cls ≠ "java/lang/invoke/MethodHandle" ∧ yL_restore.cls ≠ "java/lang/invoke/VarHandle" ∧ (parseMethodDescriptor yL_restore.desc).map (fun d => d.parameters.length) = some 1 := ⟨by decide, by decide, by decide +kernel⟩
set_option maxRecDepth 100000 in
set_option maxHeartbeats 2000000 in
theorem sat_L_restore (l : Launch) (hl : l.stackTraces = false) (s : Mem) : SatW l yL_restore (.codeWith yL_restore cL_restore 2 (some .long) [(0, 5, 6, 19)]) 34 586 (fun x => some (.long x)) [.ref 0] s (m_L_restore s) := by
  refine satw_of (by decide) (Nat.le_of_ble_eq_true rfl) (fun X V A adV hxl hC hE ht hr => ?_) (n_L_restore s)
  subst hxl
  show LX X V A 34 586 (nC s) (nS s) _ 0 [(0, .ref 0)] [] s _
  unfold m_L_restore wJ
  rw [show yL_restore.cls = RL from rfl] at hC
  refine lx_aload_n hC dL_restore_0 rfl 0 rfl ?_
  refine lx_callC hC (sat_X7_restore (xl X) hl s) (run_V (as := []) (rest := []) hC hE ly0 rfl cw_X7_restore ci_X7_restore wd630 cs_X7_restore ce_X7_restore cd_X7_restore (by decide) (by decide) (Nat.le_of_ble_eq_true rfl) dL_restore_1 rfl) (fun E σ1 u hE0 hu R H locs hid ls q ce h2 h3 h4 h5 g1 g2 g3 hc hv hcl => ?_) (fun v s1 _ => ?_)
  · by_cases e0 : "java/lang/IllegalStateException" = E
    · subst e0
      rw [cd, if_pos rfl] at hu
      cases hu
      exact w_hand hC hr hE (pre := []) (suf := []) (a := 0) (b := 5) (h := 6) (ct := 19) ht (v := tJ 1) (fun z hz => absurd hz List.not_mem_nil) ⟨by decide, by decide⟩ (by decide) wlE19 wcE19 (k := 1) (by decide) dL_restore_6 dL_restore_7 dL_restore_10 wk17 g1 g2 g3 hc hv hcl
    rw [cd, if_neg e0] at hu
    cases hu
  · refine lx_i2l hC dL_restore_4 ?_
    exact lx_lretN hC rfl hr dL_restore_5
