/-! ===== the layout of the system: (code, kind, class or type, fields or length); kinds: 1 object, 2 ints, 3 longs, 4 doubles, 5 references, 6 a builder ===== -/
def layL : List (Nat × Nat × Nat × Nat) := [(0, 1, 6, 10), (1, 1, 3, 3), (3, 1, 1, 1), (67, 2, 0, 9), (4, 1, 2, 1), (5, 1, 4, 5), (69, 2, 0, 10), (133, 2, 0, 10), (197, 2, 0, 10), (12, 1, 5, 15), (76, 2, 0, 8), (140, 2, 0, 8), (204, 2, 1, 8), (268, 2, 0, 8), (396, 2, 0, 24), (460, 2, 0, 24), (524, 2, 0, 24), (588, 2, 0, 24), (13, 1, 5, 15), (77, 2, 0, 8), (141, 2, 0, 8), (205, 2, 1, 8), (269, 2, 0, 8), (397, 2, 0, 24), (461, 2, 0, 24), (525, 2, 0, 24), (589, 2, 0, 24), (14, 1, 5, 15), (78, 2, 0, 8), (142, 2, 0, 8), (206, 2, 1, 8), (270, 2, 0, 8), (398, 2, 0, 24), (462, 2, 0, 24), (526, 2, 0, 24), (590, 2, 0, 24), (15, 1, 5, 15), (79, 2, 0, 8), (143, 2, 0, 8), (207, 2, 1, 8), (271, 2, 0, 8), (399, 2, 0, 24), (463, 2, 0, 24), (527, 2, 0, 24), (591, 2, 0, 24), (16, 1, 5, 15), (80, 2, 0, 8), (144, 2, 0, 8), (208, 2, 1, 8), (272, 2, 0, 8), (400, 2, 0, 24), (464, 2, 0, 24), (528, 2, 0, 24), (592, 2, 0, 24), (17, 1, 5, 15), (81, 2, 0, 8), (145, 2, 0, 8), (209, 2, 1, 8), (273, 2, 0, 8), (401, 2, 0, 24), (465, 2, 0, 24), (529, 2, 0, 24), (593, 2, 0, 24), (18, 1, 5, 15), (82, 2, 0, 8), (146, 2, 0, 8), (210, 2, 1, 8), (274, 2, 0, 8), (402, 2, 0, 24), (466, 2, 0, 24), (530, 2, 0, 24), (594, 2, 0, 24), (19, 1, 5, 15), (83, 2, 0, 8), (147, 2, 0, 8), (211, 2, 1, 8), (275, 2, 0, 8), (403, 2, 0, 24), (467, 2, 0, 24), (531, 2, 0, 24), (595, 2, 0, 24), (20, 1, 5, 15), (84, 2, 0, 8), (148, 2, 0, 8), (212, 2, 1, 8), (276, 2, 0, 8), (404, 2, 0, 24), (468, 2, 0, 24), (532, 2, 0, 24), (596, 2, 0, 24), (21, 1, 5, 15), (85, 2, 0, 8), (149, 2, 0, 8), (213, 2, 1, 8), (277, 2, 0, 8), (405, 2, 0, 24), (469, 2, 0, 24), (533, 2, 0, 24), (597, 2, 0, 24), (22, 1, 5, 15), (86, 2, 0, 8), (150, 2, 0, 8), (214, 2, 1, 8), (278, 2, 0, 8), (406, 2, 0, 24), (470, 2, 0, 24), (534, 2, 0, 24), (598, 2, 0, 24), (65, 5, 6, 10), (68, 5, 7, 5), (644, 2, 0, 24), (708, 2, 0, 24), (772, 2, 0, 24), (836, 2, 0, 24), (900, 2, 0, 24), (6, 6, 0, 4), (7, 6, 0, 4)]
def clv : List vw_C := [(RJ4, TJ4, 4), (RX1, TX1, 1), (RX2, TX2, 1), (RX3, TX3, 3), (RX4, TX4, 5), (RX6, TX6, 15), (RX7, TX7, 10)]
def tyv : List FieldType := [.int, .boolean, .int, .byte, .int, .int, .object "EchoCensus$Theatre", .array .int]
def fkL : List (List Nat) := [[2, 0, 0, 0], [2], [2], [2, 0, 0], [2, 2, 2, 0, 0], [2, 2, 2, 2, 0, 2, 2, 2, 2, 0, 0, 0, 0, 1, 1], [2, 2, 2, 2, 2, 2, 2, 0, 0, 0]]
def fk (x k : Nat) : Nat := (fkL.getD x []).getD k 0
/-- what a reference field of object c, of class x, holds: for ever the same -/
def srf (c x k : Nat) : Nat := if x = 6 then [1, 22, 3, 4, 5, 6, 7].getD k 0 else c + 64 * (k + 1)
/-- what an array of references holds -/
def arf (c j : Nat) : Nat := if c = 65 then 12 + j else 644 + 64 * j
abbrev isTh (t : Nat) : Prop := 12 ≤ t ∧ t ≤ 22
theorem th_o {t : Nat} (h : isTh t) : (t, 1, 5, 15) ∈ layL := by
  obtain ⟨h1, h2⟩ := h
  rcases (show t = 12 ∨ t = 13 ∨ t = 14 ∨ t = 15 ∨ t = 16 ∨ t = 17 ∨ t = 18 ∨ t = 19 ∨ t = 20 ∨ t = 21 ∨ t = 22 by omega) with rfl | rfl | rfl | rfl | rfl | rfl | rfl | rfl | rfl | rfl | rfl
  · exact List.mem_of_getElem? (i := 9) rfl
  · exact List.mem_of_getElem? (i := 18) rfl
  · exact List.mem_of_getElem? (i := 27) rfl
  · exact List.mem_of_getElem? (i := 36) rfl
  · exact List.mem_of_getElem? (i := 45) rfl
  · exact List.mem_of_getElem? (i := 54) rfl
  · exact List.mem_of_getElem? (i := 63) rfl
  · exact List.mem_of_getElem? (i := 72) rfl
  · exact List.mem_of_getElem? (i := 81) rfl
  · exact List.mem_of_getElem? (i := 90) rfl
  · exact List.mem_of_getElem? (i := 99) rfl
theorem th_a0 {t : Nat} (h : isTh t) : (t + 64, 2, 0, 8) ∈ layL := by
  obtain ⟨h1, h2⟩ := h
  rcases (show t = 12 ∨ t = 13 ∨ t = 14 ∨ t = 15 ∨ t = 16 ∨ t = 17 ∨ t = 18 ∨ t = 19 ∨ t = 20 ∨ t = 21 ∨ t = 22 by omega) with rfl | rfl | rfl | rfl | rfl | rfl | rfl | rfl | rfl | rfl | rfl
  · exact List.mem_of_getElem? (i := 10) rfl
  · exact List.mem_of_getElem? (i := 19) rfl
  · exact List.mem_of_getElem? (i := 28) rfl
  · exact List.mem_of_getElem? (i := 37) rfl
  · exact List.mem_of_getElem? (i := 46) rfl
  · exact List.mem_of_getElem? (i := 55) rfl
  · exact List.mem_of_getElem? (i := 64) rfl
  · exact List.mem_of_getElem? (i := 73) rfl
  · exact List.mem_of_getElem? (i := 82) rfl
  · exact List.mem_of_getElem? (i := 91) rfl
  · exact List.mem_of_getElem? (i := 100) rfl
theorem th_a1 {t : Nat} (h : isTh t) : (t + 128, 2, 0, 8) ∈ layL := by
  obtain ⟨h1, h2⟩ := h
  rcases (show t = 12 ∨ t = 13 ∨ t = 14 ∨ t = 15 ∨ t = 16 ∨ t = 17 ∨ t = 18 ∨ t = 19 ∨ t = 20 ∨ t = 21 ∨ t = 22 by omega) with rfl | rfl | rfl | rfl | rfl | rfl | rfl | rfl | rfl | rfl | rfl
  · exact List.mem_of_getElem? (i := 11) rfl
  · exact List.mem_of_getElem? (i := 20) rfl
  · exact List.mem_of_getElem? (i := 29) rfl
  · exact List.mem_of_getElem? (i := 38) rfl
  · exact List.mem_of_getElem? (i := 47) rfl
  · exact List.mem_of_getElem? (i := 56) rfl
  · exact List.mem_of_getElem? (i := 65) rfl
  · exact List.mem_of_getElem? (i := 74) rfl
  · exact List.mem_of_getElem? (i := 83) rfl
  · exact List.mem_of_getElem? (i := 92) rfl
  · exact List.mem_of_getElem? (i := 101) rfl
theorem th_a2 {t : Nat} (h : isTh t) : (t + 192, 2, 1, 8) ∈ layL := by
  obtain ⟨h1, h2⟩ := h
  rcases (show t = 12 ∨ t = 13 ∨ t = 14 ∨ t = 15 ∨ t = 16 ∨ t = 17 ∨ t = 18 ∨ t = 19 ∨ t = 20 ∨ t = 21 ∨ t = 22 by omega) with rfl | rfl | rfl | rfl | rfl | rfl | rfl | rfl | rfl | rfl | rfl
  · exact List.mem_of_getElem? (i := 12) rfl
  · exact List.mem_of_getElem? (i := 21) rfl
  · exact List.mem_of_getElem? (i := 30) rfl
  · exact List.mem_of_getElem? (i := 39) rfl
  · exact List.mem_of_getElem? (i := 48) rfl
  · exact List.mem_of_getElem? (i := 57) rfl
  · exact List.mem_of_getElem? (i := 66) rfl
  · exact List.mem_of_getElem? (i := 75) rfl
  · exact List.mem_of_getElem? (i := 84) rfl
  · exact List.mem_of_getElem? (i := 93) rfl
  · exact List.mem_of_getElem? (i := 102) rfl
theorem th_a3 {t : Nat} (h : isTh t) : (t + 256, 2, 0, 8) ∈ layL := by
  obtain ⟨h1, h2⟩ := h
  rcases (show t = 12 ∨ t = 13 ∨ t = 14 ∨ t = 15 ∨ t = 16 ∨ t = 17 ∨ t = 18 ∨ t = 19 ∨ t = 20 ∨ t = 21 ∨ t = 22 by omega) with rfl | rfl | rfl | rfl | rfl | rfl | rfl | rfl | rfl | rfl | rfl
  · exact List.mem_of_getElem? (i := 13) rfl
  · exact List.mem_of_getElem? (i := 22) rfl
  · exact List.mem_of_getElem? (i := 31) rfl
  · exact List.mem_of_getElem? (i := 40) rfl
  · exact List.mem_of_getElem? (i := 49) rfl
  · exact List.mem_of_getElem? (i := 58) rfl
  · exact List.mem_of_getElem? (i := 67) rfl
  · exact List.mem_of_getElem? (i := 76) rfl
  · exact List.mem_of_getElem? (i := 85) rfl
  · exact List.mem_of_getElem? (i := 94) rfl
  · exact List.mem_of_getElem? (i := 103) rfl
theorem th_a5 {t : Nat} (h : isTh t) : (t + 384, 2, 0, 24) ∈ layL := by
  obtain ⟨h1, h2⟩ := h
  rcases (show t = 12 ∨ t = 13 ∨ t = 14 ∨ t = 15 ∨ t = 16 ∨ t = 17 ∨ t = 18 ∨ t = 19 ∨ t = 20 ∨ t = 21 ∨ t = 22 by omega) with rfl | rfl | rfl | rfl | rfl | rfl | rfl | rfl | rfl | rfl | rfl
  · exact List.mem_of_getElem? (i := 14) rfl
  · exact List.mem_of_getElem? (i := 23) rfl
  · exact List.mem_of_getElem? (i := 32) rfl
  · exact List.mem_of_getElem? (i := 41) rfl
  · exact List.mem_of_getElem? (i := 50) rfl
  · exact List.mem_of_getElem? (i := 59) rfl
  · exact List.mem_of_getElem? (i := 68) rfl
  · exact List.mem_of_getElem? (i := 77) rfl
  · exact List.mem_of_getElem? (i := 86) rfl
  · exact List.mem_of_getElem? (i := 95) rfl
  · exact List.mem_of_getElem? (i := 104) rfl
theorem th_a6 {t : Nat} (h : isTh t) : (t + 448, 2, 0, 24) ∈ layL := by
  obtain ⟨h1, h2⟩ := h
  rcases (show t = 12 ∨ t = 13 ∨ t = 14 ∨ t = 15 ∨ t = 16 ∨ t = 17 ∨ t = 18 ∨ t = 19 ∨ t = 20 ∨ t = 21 ∨ t = 22 by omega) with rfl | rfl | rfl | rfl | rfl | rfl | rfl | rfl | rfl | rfl | rfl
  · exact List.mem_of_getElem? (i := 15) rfl
  · exact List.mem_of_getElem? (i := 24) rfl
  · exact List.mem_of_getElem? (i := 33) rfl
  · exact List.mem_of_getElem? (i := 42) rfl
  · exact List.mem_of_getElem? (i := 51) rfl
  · exact List.mem_of_getElem? (i := 60) rfl
  · exact List.mem_of_getElem? (i := 69) rfl
  · exact List.mem_of_getElem? (i := 78) rfl
  · exact List.mem_of_getElem? (i := 87) rfl
  · exact List.mem_of_getElem? (i := 96) rfl
  · exact List.mem_of_getElem? (i := 105) rfl
theorem th_a7 {t : Nat} (h : isTh t) : (t + 512, 2, 0, 24) ∈ layL := by
  obtain ⟨h1, h2⟩ := h
  rcases (show t = 12 ∨ t = 13 ∨ t = 14 ∨ t = 15 ∨ t = 16 ∨ t = 17 ∨ t = 18 ∨ t = 19 ∨ t = 20 ∨ t = 21 ∨ t = 22 by omega) with rfl | rfl | rfl | rfl | rfl | rfl | rfl | rfl | rfl | rfl | rfl
  · exact List.mem_of_getElem? (i := 16) rfl
  · exact List.mem_of_getElem? (i := 25) rfl
  · exact List.mem_of_getElem? (i := 34) rfl
  · exact List.mem_of_getElem? (i := 43) rfl
  · exact List.mem_of_getElem? (i := 52) rfl
  · exact List.mem_of_getElem? (i := 61) rfl
  · exact List.mem_of_getElem? (i := 70) rfl
  · exact List.mem_of_getElem? (i := 79) rfl
  · exact List.mem_of_getElem? (i := 88) rfl
  · exact List.mem_of_getElem? (i := 97) rfl
  · exact List.mem_of_getElem? (i := 106) rfl
theorem th_a8 {t : Nat} (h : isTh t) : (t + 576, 2, 0, 24) ∈ layL := by
  obtain ⟨h1, h2⟩ := h
  rcases (show t = 12 ∨ t = 13 ∨ t = 14 ∨ t = 15 ∨ t = 16 ∨ t = 17 ∨ t = 18 ∨ t = 19 ∨ t = 20 ∨ t = 21 ∨ t = 22 by omega) with rfl | rfl | rfl | rfl | rfl | rfl | rfl | rfl | rfl | rfl | rfl
  · exact List.mem_of_getElem? (i := 17) rfl
  · exact List.mem_of_getElem? (i := 26) rfl
  · exact List.mem_of_getElem? (i := 35) rfl
  · exact List.mem_of_getElem? (i := 44) rfl
  · exact List.mem_of_getElem? (i := 53) rfl
  · exact List.mem_of_getElem? (i := 62) rfl
  · exact List.mem_of_getElem? (i := 71) rfl
  · exact List.mem_of_getElem? (i := 80) rfl
  · exact List.mem_of_getElem? (i := 89) rfl
  · exact List.mem_of_getElem? (i := 98) rfl
  · exact List.mem_of_getElem? (i := 107) rfl
theorem ly0 : (0, 1, 6, 10) ∈ layL := List.mem_of_getElem? (i := 0) rfl
theorem ly1 : (1, 1, 3, 3) ∈ layL := List.mem_of_getElem? (i := 1) rfl
theorem ly3 : (3, 1, 1, 1) ∈ layL := List.mem_of_getElem? (i := 2) rfl
theorem ly67 : (67, 2, 0, 9) ∈ layL := List.mem_of_getElem? (i := 3) rfl
theorem ly4 : (4, 1, 2, 1) ∈ layL := List.mem_of_getElem? (i := 4) rfl
theorem ly5 : (5, 1, 4, 5) ∈ layL := List.mem_of_getElem? (i := 5) rfl
theorem ly69 : (69, 2, 0, 10) ∈ layL := List.mem_of_getElem? (i := 6) rfl
theorem ly133 : (133, 2, 0, 10) ∈ layL := List.mem_of_getElem? (i := 7) rfl
theorem ly197 : (197, 2, 0, 10) ∈ layL := List.mem_of_getElem? (i := 8) rfl
theorem ly65 : (65, 5, 6, 10) ∈ layL := List.mem_of_getElem? (i := 108) rfl
theorem ly68 : (68, 5, 7, 5) ∈ layL := List.mem_of_getElem? (i := 109) rfl
theorem ly644 : (644, 2, 0, 24) ∈ layL := List.mem_of_getElem? (i := 110) rfl
theorem ly708 : (708, 2, 0, 24) ∈ layL := List.mem_of_getElem? (i := 111) rfl
theorem ly772 : (772, 2, 0, 24) ∈ layL := List.mem_of_getElem? (i := 112) rfl
theorem ly836 : (836, 2, 0, 24) ∈ layL := List.mem_of_getElem? (i := 113) rfl
theorem ly900 : (900, 2, 0, 24) ∈ layL := List.mem_of_getElem? (i := 114) rfl
theorem ly6 : (6, 6, 0, 4) ∈ layL := List.mem_of_getElem? (i := 115) rfl
theorem ly7 : (7, 6, 0, 4) ∈ layL := List.mem_of_getElem? (i := 116) rfl
theorem lay_nd : ∀ e ∈ layL, ∀ e' ∈ layL, e.1 = e'.1 → e = e' := by
  have h : (layL.all fun e => layL.all fun e' => !(e.1 == e'.1) || (e == e')) = true := by decide +kernel
  intro e he e' he' q
  have h1 := List.all_eq_true.mp (List.all_eq_true.mp h e he) e' he'
  simp only [Bool.or_eq_true, Bool.not_eq_true', beq_eq_false_iff_ne, beq_iff_eq] at h1
  exact h1.resolve_left (fun z => z q)
/-! ===== the logical memory: ints and longs and doubles by (code, place), builders, and what has been made: cells, slots ===== -/
abbrev Mem : Type := (Nat → Nat → Int32) × (Nat → Nat → Int64) × (Nat → Nat → UInt64) × (Nat → Nat × Nat × (Nat → Nat)) × Nat × Nat
def gI (σ : Mem) (a k : Nat) : Int32 := σ.1 a k
def gJ (σ : Mem) (a k : Nat) : Int64 := σ.2.1 a k
def gD (σ : Mem) (a k : Nat) : UInt64 := σ.2.2.1 a k
def gB (σ : Mem) (o : Nat) : Nat × Nat × (Nat → Nat) := σ.2.2.2.1 o
def nC (σ : Mem) : Nat := σ.2.2.2.2.1
def nS (σ : Mem) : Nat := σ.2.2.2.2.2
def u2 {α : Type} (f : Nat → Nat → α) (a k : Nat) (v : α) : Nat → Nat → α := fun b j => if b = a ∧ j = k then v else f b j
def pI (σ : Mem) (a k : Nat) (v : Int32) : Mem := (u2 σ.1 a k v, σ.2)
def pJ (σ : Mem) (a k : Nat) (v : Int64) : Mem := (σ.1, u2 σ.2.1 a k v, σ.2.2)
def pD (σ : Mem) (a k : Nat) (v : UInt64) : Mem := (σ.1, σ.2.1, u2 σ.2.2.1 a k v, σ.2.2.2)
def pB (σ : Mem) (o : Nat) (b : Nat × Nat × (Nat → Nat)) : Mem := (σ.1, σ.2.1, σ.2.2.1, (fun q => if q = o then b else σ.2.2.2.1 q), σ.2.2.2.2)
def pN (σ : Mem) (c n : Nat) : Mem := (σ.1, σ.2.1, σ.2.2.1, σ.2.2.2.1, σ.2.2.2.2.1 + c, σ.2.2.2.2.2 + n)
/-- a logical value as the machine has it -/
def cv (ad : Nat → Nat) : Value → Value
  | .ref k => .ref (ad k)
  | .int x => .int x
  | .long x => .long x
  | .float x => .float x
  | .double x => .double x
  | v => v
def cvl (ad : Nat → Nat) (lv : List (Nat × Value)) : List (Nat × Value) := lv.map (fun q => (q.1, cv ad q.2))
theorem cv_cat (ad : Nat → Nat) (v : Value) : (cv ad v).category = v.category := by cases v <;> rfl
theorem cvl_at {ad : Nat → Nat} {lv : List (Nat × Value)} {k i : Nat} {v : Value} (h : lv[k]? = some (i, v)) : (cvl ad lv)[k]? = some (i, cv ad v) := by
  unfold cvl
  rw [List.getElem?_map, h]; rfl
theorem cvl_filter (ad : Nat → Nat) (lv : List (Nat × Value)) (i : Nat) : (cvl ad lv).filter (fun q => !(q.1 == i) && !(q.1 + 1 == i && q.2.category == 2)) = cvl ad (lv.filter (fun q => !(q.1 == i) && !(q.1 + 1 == i && q.2.category == 2))) := by
  unfold cvl
  rw [List.filter_map]
  congr 1
  apply List.filter_congr
  intro q _
  simp [Function.comp, cv_cat]
theorem cvl_filter2 (ad : Nat → Nat) (lv : List (Nat × Value)) (i : Nat) : (cvl ad lv).filter (fun q => !(q.1 == i) && (!(q.1 == i + 1) && !(q.1 + 1 == i && q.2.category == 2))) = cvl ad (lv.filter (fun q => !(q.1 == i) && (!(q.1 == i + 1) && !(q.1 + 1 == i && q.2.category == 2)))) := by
  unfold cvl
  rw [List.filter_map]
  congr 1
  apply List.filter_congr
  intro q _
  simp [Function.comp, cv_cat]
theorem cvl_pick (ad : Nat → Nat) (lv : List (Nat × Value)) (ks : List Nat) : lv_pick (cvl ad lv) ks = cvl ad (lv_pick lv ks) := by
  unfold lv_pick cvl
  rw [List.map_filterMap]
  congr 1
  funext k
  rw [List.getElem?_map]
/-- the places of the system in a heap: class and array class numbers, addresses -/
abbrev Vx : Type := va_G × (Nat → ClassId) × (Nat → Nat)
/-- what a field of an object holds -/
def fv (ad : Nat → Nat) (σ : Mem) (c x k : Nat) : Value := if fk x k = 0 then .int (gI σ c k) else if fk x k = 1 then .long (gJ σ c k) else .ref (ad (srf c x k))
def sbF (q : Nat) (z : Int32) (n : Nat) (k : Nat) : Value := if k = 0 then .ref q else if k = 1 then .int 0 else if k = 2 then .int z else .int (nI n)
/-- a builder: her object and her array -/
def sbAt (V : Vx) (q : Nat) (b : Nat × Nat × (Nat → Nat)) (H : Heap) (c : Nat) : Prop :=
  ∃ (z : Int32) (a : Nat → Int32), t_OB (V.2.2 c) (V.1.1 0) 4 (V.1.2 0) H (sbF q z b.2.1) ∧ H[q]? = some (arrV (V.2.1 3) b.1 (fun j => .int (a j))) ∧ b.2.1 ≤ b.1 ∧ b.1 ≤ 65536 ∧ sb_Lat b.2.2 b.2.1 a ∧ sb_Fit a
def cellAt (V : Vx) (hid : Nat → Nat) (σ : Mem) (H : Heap) (e : Nat × Nat × Nat × Nat) : Prop :=
  if e.2.1 = 1 then t_OB (V.2.2 e.1) (V.1.1 e.2.2.1) e.2.2.2 (V.1.2 e.2.2.1) H (fv V.2.2 σ e.1 e.2.2.1)
  else if e.2.1 = 2 then H[V.2.2 e.1]? = some (arrV (V.2.1 e.2.2.1) e.2.2.2 (fun j => .int (gI σ e.1 j)))
  else if e.2.1 = 3 then H[V.2.2 e.1]? = some (arrV (V.2.1 e.2.2.1) e.2.2.2 (fun j => .long (gJ σ e.1 j)))
  else if e.2.1 = 4 then H[V.2.2 e.1]? = some (arrV (V.2.1 e.2.2.1) e.2.2.2 (fun j => .double (gD σ e.1 j)))
  else if e.2.1 = 5 then H[V.2.2 e.1]? = some (arrV (V.2.1 e.2.2.1) e.2.2.2 (fun j => .ref (V.2.2 (arf e.1 j))))
  else sbAt V (hid e.1) (gB σ e.1) H e.1
/-- the system in a heap; all its cells lie in A, apart -/
def Rep (V : Vx) (hid : Nat → Nat) (A : Nat → Prop) (σ : Mem) (H : Heap) : Prop :=
  (∀ e ∈ layL, cellAt V hid σ H e) ∧ (∀ e ∈ layL, A (V.2.2 e.1)) ∧ (∀ e ∈ layL, ∀ e' ∈ layL, V.2.2 e.1 = V.2.2 e'.1 → e.1 = e'.1) ∧ (∀ o, (o = 6 ∨ o = 7) → A (hid o) ∧ ∀ e ∈ layL, V.2.2 e.1 ≠ hid o) ∧ hid 6 ≠ hid 7
theorem lay_sb : ∀ e ∈ layL, (e.2.1 = 1 ∨ e.2.1 = 2 ∨ e.2.1 = 3 ∨ e.2.1 = 4 ∨ e.2.1 = 5) ∨ (e.2.1 = 6 ∧ (e.1 = 6 ∨ e.1 = 7)) := by decide +kernel
theorem fv_eq {ad : Nat → Nat} {σ σ' : Mem} {c : Nat} (hI : ∀ j, gI σ' c j = gI σ c j) (hJ : ∀ j, gJ σ' c j = gJ σ c j) (x k : Nat) : fv ad σ c x k = fv ad σ' c x k := by
  unfold fv
  rw [hI, hJ]
theorem cellAt_keep {V : Vx} {hid : Nat → Nat} {σ σ' : Mem} {H H' : Heap} {e : Nat × Nat × Nat × Nat} (he : e ∈ layL) (hI : ∀ j, gI σ' e.1 j = gI σ e.1 j) (hJ : ∀ j, gJ σ' e.1 j = gJ σ e.1 j) (hD : ∀ j, gD σ' e.1 j = gD σ e.1 j) (hB : gB σ' e.1 = gB σ e.1)
    (h1 : H'[V.2.2 e.1]? = H[V.2.2 e.1]?) (h2 : (e.1 = 6 ∨ e.1 = 7) → H'[hid e.1]? = H[hid e.1]?) (h : cellAt V hid σ H e) : cellAt V hid σ' H' e := by
  unfold cellAt at h ⊢
  rcases lay_sb e he with (q | q | q | q | q) | ⟨q, o⟩
  · simp only [q, if_true] at h ⊢
    exact (h.kept h1).to (fun k _ => fv_eq hI hJ _ k)
  · simp only [q, reduceIte, Nat.reduceEqDiff] at h ⊢
    rw [h1, h]
    congr 2
    funext j
    rw [hI]
  · simp only [q, reduceIte, Nat.reduceEqDiff] at h ⊢
    rw [h1, h]
    congr 2
    funext j
    rw [hJ]
  · simp only [q, reduceIte, Nat.reduceEqDiff] at h ⊢
    rw [h1, h]
    congr 2
    funext j
    rw [hD]
  · simp only [q, reduceIte, Nat.reduceEqDiff] at h ⊢
    rw [h1, h]
  · simp only [q, reduceIte, Nat.reduceEqDiff] at h ⊢
    obtain ⟨z, a, g1, g2, g3⟩ := h
    refine ⟨z, a, ?_, ?_, ?_⟩
    · rw [hB]; exact g1.kept h1
    · rw [h2 o, hB]; exact g2
    · rw [hB]; exact g3
theorem Rep.set {V : Vx} {hid : Nat → Nat} {A : Nat → Prop} {σ σ' : Mem} {H H' : Heap} {e : Nat × Nat × Nat × Nat} (h : Rep V hid A σ H) (he : e ∈ layL)
    (hσ : ∀ c, c ≠ e.1 → (∀ j, gI σ' c j = gI σ c j) ∧ (∀ j, gJ σ' c j = gJ σ c j) ∧ (∀ j, gD σ' c j = gD σ c j) ∧ gB σ' c = gB σ c) (hc : cellAt V hid σ' H' e) (oq : ∀ q : Nat, q ≠ V.2.2 e.1 → H'[q]? = H[q]?) : Rep V hid A σ' H' := by
  obtain ⟨h1, h2, h3, h4, h5⟩ := h
  refine ⟨fun e' he' => ?_, h2, h3, h4, h5⟩
  by_cases q : e'.1 = e.1
  · rw [lay_nd e' he' e he q]; exact hc
  · obtain ⟨g1, g2, g3, g4⟩ := hσ e'.1 q
    exact cellAt_keep he' g1 g2 g3 g4 (oq _ (fun z => q (h3 e' he' e he z))) (fun o => oq _ (fun z => (h4 e'.1 o).2 e he z.symm)) (h1 e' he')
theorem Rep.weaken {V : Vx} {hid : Nat → Nat} {A B : Nat → Prop} {σ : Mem} {H : Heap} (h : Rep V hid A σ H) (hAB : ∀ q, A q → B q) : Rep V hid B σ H :=
  ⟨h.1, fun e he => hAB _ (h.2.1 e he), h.2.2.1, fun o ho => ⟨hAB _ (h.2.2.2.1 o ho).1, (h.2.2.2.1 o ho).2⟩, h.2.2.2.2⟩
/-- the cells of the system, and what is new from sz on -/
def own1 (V : Vx) (hid : Nat → Nat) (sz : Nat) : Nat → Prop := fun q => (∃ e ∈ layL, q = V.2.2 e.1) ∨ (q = hid 6 ∨ q = hid 7) ∨ sz ≤ q
theorem Rep.self {V : Vx} {hid : Nat → Nat} {A : Nat → Prop} {σ : Mem} {H : Heap} (h : Rep V hid A σ H) (sz : Nat) : Rep V hid (own1 V hid sz) σ H :=
  ⟨h.1, fun e he => Or.inl ⟨e, he, rfl⟩, h.2.2.1, fun o ho => ⟨Or.inr (Or.inl (by rcases ho with rfl | rfl <;> simp)), (h.2.2.2.1 o ho).2⟩, h.2.2.2.2⟩
theorem Rep.free {V : Vx} {hid : Nat → Nat} {A : Nat → Prop} {σ : Mem} {H : Heap} {sz : Nat} (h : Rep V hid A σ H) (hA : ∀ q, sz ≤ q → A q) : ∀ q, own1 V hid sz q → A q := by
  rintro q (⟨e, he, rfl⟩ | (rfl | rfl) | hq)
  · exact h.2.1 e he
  · exact (h.2.2.2.1 6 (Or.inl rfl)).1
  · exact (h.2.2.2.1 7 (Or.inr rfl)).1
  · exact hA q hq

