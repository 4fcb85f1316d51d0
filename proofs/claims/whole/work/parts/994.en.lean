/-! ===== the law's entry: what the Statement gives ===== -/
/-- the premises, one by one -/
def LL : List Jvm.Cond := flatC (Jvm.Cond.and given_1 narrow_1)
theorem tbt1 {w : Cond} (h : w ∈ tables_1_1) : w ∈ lw_tbl := List.mem_append.mpr (Or.inr (List.mem_append.mpr (Or.inl h)))
theorem tbt2 {w : Cond} (h : w ∈ tables_1_2) : w ∈ lw_tbl := List.mem_append.mpr (Or.inr (List.mem_append.mpr (Or.inr (List.mem_append.mpr (Or.inl h)))))
theorem tbt3 {w : Cond} (h : w ∈ tables_1_3) : w ∈ lw_tbl := List.mem_append.mpr (Or.inr (List.mem_append.mpr (Or.inr (List.mem_append.mpr (Or.inr (List.mem_append.mpr (Or.inl h)))))))
theorem tbt4 {w : Cond} (h : w ∈ tables_1_4) : w ∈ lw_tbl := List.mem_append.mpr (Or.inr (List.mem_append.mpr (Or.inr (List.mem_append.mpr (Or.inr (List.mem_append.mpr (Or.inr (List.mem_append.mpr (Or.inl h)))))))))
theorem tbt5 {w : Cond} (h : w ∈ tables_1_5) : w ∈ lw_tbl := List.mem_append.mpr (Or.inr (List.mem_append.mpr (Or.inr (List.mem_append.mpr (Or.inr (List.mem_append.mpr (Or.inr (List.mem_append.mpr (Or.inr (List.mem_append.mpr (Or.inl h)))))))))))
theorem tbt6 {w : Cond} (h : w ∈ tables_1_6) : w ∈ lw_tbl := List.mem_append.mpr (Or.inr (List.mem_append.mpr (Or.inr (List.mem_append.mpr (Or.inr (List.mem_append.mpr (Or.inr (List.mem_append.mpr (Or.inr (List.mem_append.mpr (Or.inr (List.mem_append.mpr (Or.inl h)))))))))))))
theorem tbt7 {w : Cond} (h : w ∈ tables_1_7) : w ∈ lw_tbl := List.mem_append.mpr (Or.inr (List.mem_append.mpr (Or.inr (List.mem_append.mpr (Or.inr (List.mem_append.mpr (Or.inr (List.mem_append.mpr (Or.inr (List.mem_append.mpr (Or.inr (List.mem_append.mpr (Or.inr (List.mem_append.mpr (Or.inl h)))))))))))))))
theorem tbt8 {w : Cond} (h : w ∈ tables_1_8) : w ∈ lw_tbl := List.mem_append.mpr (Or.inr (List.mem_append.mpr (Or.inr (List.mem_append.mpr (Or.inr (List.mem_append.mpr (Or.inr (List.mem_append.mpr (Or.inr (List.mem_append.mpr (Or.inr (List.mem_append.mpr (Or.inr (List.mem_append.mpr (Or.inr (List.mem_append.mpr (Or.inl h)))))))))))))))))
theorem tbt9 {w : Cond} (h : w ∈ tables_1_9) : w ∈ lw_tbl := List.mem_append.mpr (Or.inr (List.mem_append.mpr (Or.inr (List.mem_append.mpr (Or.inr (List.mem_append.mpr (Or.inr (List.mem_append.mpr (Or.inr (List.mem_append.mpr (Or.inr (List.mem_append.mpr (Or.inr (List.mem_append.mpr (Or.inr (List.mem_append.mpr (Or.inr h)))))))))))))))))
def tmS (i : Nat) : Term := Term.string (strL.getD i ("", 0, "")).1 (strL.getD i ("", 0, "")).2.1
def pEL : List Nat := [290, 320, 344, 374, 412, 444, 468, 514, 539, 560, 581, 615, 639, 670, 677, 691, 707, 712, 742, 772, 812, 840, 848, 861, 873, 882, 891, 902, 911, 922, 931, 942, 950, 961, 966, 972, 978, 984, 990, 996, 1001, 1029, 1064, 1099, 1127, 1154]
def pCL : List Nat := [291, 321, 345, 375, 413, 445, 469, 515, 540, 561, 582, 616, 640, 671, 678, 692, 708, 713, 743, 773, 813, 841, 849, 862, 874, 883, 892, 903, 912, 923, 932, 943, 951, 962, 967, 973, 979, 985, 991, 997, 1002, 1030, 1065, 1100, 1128, 1155]
def pAL : List Nat := [292, 322, 346, 376, 414, 446, 470, 516, 541, 562, 583, 617, 641, 672, 679, 693, 709, 714, 744, 774, 814, 842, 850, 863, 875, 884, 893, 904, 913, 924, 933, 944, 952, 963, 968, 974, 980, 986, 992, 998, 1003, 1031, 1066, 1101, 1129, 1156]
def pLL : List Nat := [293, 323, 347, 377, 415, 447, 471, 517, 542, 563, 584, 618, 642, 673, 680, 694, 710, 715, 745, 775, 815, 843, 851, 864, 876, 885, 894, 905, 914, 925, 934, 945, 953, 964, 969, 975, 981, 987, 993, 999, 1004, 1032, 1067, 1102, 1130, 1157]
def pRL : List Nat := [294, 324, 348, 378, 416, 448, 472, 518, 543, 564, 585, 619, 643, 674, 681, 695, 711, 716, 746, 776, 816, 844, 852, 865, 877, 886, 895, 906, 915, 926, 935, 946, 954, 965, 970, 976, 982, 988, 994, 1000, 1005, 1033, 1068, 1103, 1131, 1158]
theorem se_E : ∀ i, i < 46 → LL[pEL.getD i 0]? = some (Cond.exactly (tmS i) "java/lang/String") := by decide +kernel
theorem se_C : ∀ i, i < 46 → LL[pCL.getD i 0]? = some (Cond.eq (.field (tmS i) "java/lang/String" "coder" "B") (.int 0)) := by decide +kernel
theorem se_A : ∀ i, i < 46 → LL[pAL.getD i 0]? = some (Cond.arrayOf (.field (tmS i) "java/lang/String" "value" "[B") .byte) := by decide +kernel
theorem se_L : ∀ i, i < 46 → LL[pLL.getD i 0]? = some (Cond.eq (.length (.field (tmS i) "java/lang/String" "value" "[B")) (.int (Int32.ofNat (txL.getD i []).length))) := by decide +kernel
theorem se_R : ∀ i, i < 46 → (List.range (txL.getD i []).length).map (fun j => Cond.eq (.elem (.field (tmS i) "java/lang/String" "value" "[B") (.int (Int32.ofNat j))) (.int ((txL.getD i []).getD j 0))) = (LL.drop (pRL.getD i 0)).take (txL.getD i []).length := by decide +kernel
theorem sd_O : (List.range 100).map (fun j => Cond.eq (.elem (Term.static "java/lang/Integer" "DigitOnes" "[B") (.int (Int32.ofNat j))) (.int (sb_b (48 + j % 10)))) = (LL.drop 14).take 100 := by decide +kernel
theorem sd_Oa : LL[12]? = some (Cond.arrayOf (Term.static "java/lang/Integer" "DigitOnes" "[B") .byte) := by decide +kernel
theorem sd_Ol : LL[13]? = some (Cond.eq (.length (Term.static "java/lang/Integer" "DigitOnes" "[B")) (.int (Int32.ofNat 100))) := by decide +kernel
theorem sd_T : (List.range 100).map (fun j => Cond.eq (.elem (Term.static "java/lang/Integer" "DigitTens" "[B") (.int (Int32.ofNat j))) (.int (sb_b (48 + j / 10)))) = (LL.drop 117).take 100 := by decide +kernel
theorem sd_Ta : LL[115]? = some (Cond.arrayOf (Term.static "java/lang/Integer" "DigitTens" "[B") .byte) := by decide +kernel
theorem sd_Tl : LL[116]? = some (Cond.eq (.length (Term.static "java/lang/Integer" "DigitTens" "[B")) (.int (Int32.ofNat 100))) := by decide +kernel
theorem sc_C : LL[4]? = some (Cond.eq (.static "java/lang/String" "COMPACT_STRINGS" "Z") (.int 1)) := by decide +kernel
theorem sq_U : LL[5]? = some (Cond.isRef (.static "java/lang/Throwable" "UNASSIGNED_STACK" "[Ljava/lang/StackTraceElement;")) := by decide +kernel
theorem sq_N : LL[6]? = some (Cond.isRef (.static "java/lang/Throwable" "SUPPRESSED_SENTINEL" "Ljava/util/List;")) := by decide +kernel
theorem sq_F : LL[7]? = some (Cond.isRef (.static "jdk/internal/util/Preconditions" "SIOOBE_FORMATTER" "Ljava/util/function/BiFunction;")) := by decide +kernel
def pNL : List Nat := [217, 218, 219, 220, 221, 222, 223, 224, 225, 226, 227, 228, 229, 230, 231, 232, 233, 234, 235, 236, 237, 238, 239, 240, 241, 242, 243, 244, 245, 246, 247, 248, 249, 250, 251, 252, 253, 254, 255, 256, 257, 258, 259, 260, 261, 262, 263, 264, 265, 266, 267, 268, 269, 270, 271, 272, 273, 274, 275, 276, 277, 278, 279, 280, 281, 282, 283, 284, 285, 286, 287, 288, 289]
def pWL : List Nat := [570, 641, 657, 673, 768, 1121, 1200, 2201, 2202, 2203, 2204, 2205, 2206, 2207, 2208, 2209, 2210, 2211, 2212, 2213, 2214, 2215, 2216, 2217, 2218, 2219, 571, 572, 573, 574, 575, 576, 769, 770]
def pSL : List Nat := [613, 648, 664, 680, 920, 964, 1012, 1031, 1060, 1073, 1086, 1094, 1161, 1344, 1385, 1386, 1387, 1394, 1444, 1462, 1463, 1486, 1487, 1488, 1489, 1490, 1491, 1492, 1493, 1494, 1495, 1496, 1497, 1524, 1525, 1526, 1527, 1528, 1529, 1530, 1551, 1558, 1566, 1574, 1582, 1594]
theorem sn_N : ncsL.map (fun q => Cond.not (.castable q.1 q.2)) = pNL.filterMap (fun i => LL[i]?) := by decide +kernel
theorem sn_W : wdL = pWL.filterMap (fun i => lw_tbl[i]?) := by decide +kernel
theorem sn_S : strL.map (fun q => Cond.stringRef q.1 q.2.1 q.2.2) = pSL.filterMap (fun i => lw_tbl[i]?) := by decide +kernel
theorem fm_in {α : Type} {L : List α} {ps : List Nat} {w : α} (h : w ∈ ps.filterMap (fun i => L[i]?)) : w ∈ L := by
  obtain ⟨i, -, hi⟩ := List.mem_filterMap.mp h
  exact List.mem_of_getElem? hi
theorem jn_in : ∀ w ∈ nestL.map (fun q => Cond.methodLinkNest "EchoCensus" q.1 q.2 "EchoCensus"), w ∈ lw_tbl := by
  show ∀ w ∈ [Cond.methodLinkNest "EchoCensus" 25 yX1_init "EchoCensus", Cond.methodLinkNest "EchoCensus" 32 yX2_init "EchoCensus", Cond.methodLinkNest "EchoCensus" 39 yX4_init "EchoCensus"], w ∈ lw_tbl
  exact List.forall_mem_cons.mpr ⟨tbt1 (List.mem_of_getElem? (i := 153) rfl), List.forall_mem_cons.mpr ⟨tbt1 (List.mem_of_getElem? (i := 163) rfl), List.forall_mem_cons.mpr ⟨tbt1 (List.mem_of_getElem? (i := 175) rfl), fun _ h => absurd h List.not_mem_nil⟩⟩⟩
theorem ls_U : Cond.laysStatic "java/lang/Throwable" "UNASSIGNED_STACK" "[Ljava/lang/StackTraceElement;" ∈ lw_tbl := tbt3 (List.mem_of_getElem? (i := 28) rfl)
theorem ls_Ui : Cond.initialized "java/lang/Throwable" ∈ lw_tbl := tbt1 (List.mem_of_getElem? (i := 13) rfl)
theorem ls_N : Cond.laysStatic "java/lang/Throwable" "SUPPRESSED_SENTINEL" "Ljava/util/List;" ∈ lw_tbl := tbt3 (List.mem_of_getElem? (i := 30) rfl)
theorem ls_Ni : Cond.initialized "java/lang/Throwable" ∈ lw_tbl := tbt1 (List.mem_of_getElem? (i := 13) rfl)
theorem ls_F : Cond.laysStatic "jdk/internal/util/Preconditions" "SIOOBE_FORMATTER" "Ljava/util/function/BiFunction;" ∈ lw_tbl := tbt5 (List.mem_of_getElem? (i := 177) rfl)
theorem ls_Fi : Cond.initialized "jdk/internal/util/Preconditions" ∈ lw_tbl := tbt1 (List.mem_of_getElem? (i := 28) rfl)
theorem ls_C : Cond.laysStatic "java/lang/String" "COMPACT_STRINGS" "Z" ∈ lw_tbl := tbt1 (List.mem_of_getElem? (i := 206) rfl)
theorem ls_Ci : Cond.initialized "java/lang/String" ∈ lw_tbl := tbt1 (List.mem_of_getElem? (i := 9) rfl)
theorem ls_O : Cond.laysStatic "java/lang/Integer" "DigitOnes" "[B" ∈ lw_tbl := tbt6 (List.mem_of_getElem? (i := 7) rfl)
theorem ls_Oi : Cond.initialized "java/lang/Integer" ∈ lw_tbl := tbt1 (List.mem_of_getElem? (i := 31) rfl)
theorem ls_T : Cond.laysStatic "java/lang/Integer" "DigitTens" "[B" ∈ lw_tbl := tbt6 (List.mem_of_getElem? (i := 9) rfl)
theorem ls_Ti : Cond.initialized "java/lang/Integer" ∈ lw_tbl := tbt1 (List.mem_of_getElem? (i := 31) rfl)
theorem ao_T : Cond.arrayOver (.object "EchoCensus$Theatre") ∈ lw_tbl := tbt1 (List.mem_of_getElem? (i := 47) rfl)
theorem ao_I : Cond.arrayOver (.array .int) ∈ lw_tbl := tbt1 (List.mem_of_getElem? (i := 168) rfl)
theorem ac_int : Cond.arrayClass .int ∈ lw_tbl := tbt1 (List.mem_of_getElem? (i := 136) rfl)
theorem ac_boolean : Cond.arrayClass .boolean ∈ lw_tbl := tbt1 (List.mem_of_getElem? (i := 137) rfl)
theorem ac_char : Cond.arrayClass .char ∈ lw_tbl := tbt7 (List.mem_of_getElem? (i := 133) rfl)
theorem ac_byte : Cond.arrayClass .byte ∈ lw_tbl := tbt1 (List.mem_of_getElem? (i := 228) rfl)
theorem ac_long : Cond.arrayClass .long ∈ lw_tbl := tbt9 (List.mem_of_getElem? (i := 179) rfl)
theorem ac_double : Cond.arrayClass .double ∈ lw_tbl := tbt9 (List.mem_of_getElem? (i := 180) rfl)
theorem pv_e : Cond.privateMethod yJ5_ensureCapacityInternal_d00df ∈ lw_tbl := tbt5 (List.mem_of_getElem? (i := 127) rfl)
theorem pi_e : Cond.instanceMethod yJ5_ensureCapacityInternal_d00df ∈ lw_tbl := tbt5 (List.mem_of_getElem? (i := 128) rfl)
theorem pv_n : Cond.privateMethod yJ5_newCapacity_0f7a4 ∈ lw_tbl := tbt5 (List.mem_of_getElem? (i := 131) rfl)
theorem pi_n : Cond.instanceMethod yJ5_newCapacity_0f7a4 ∈ lw_tbl := tbt5 (List.mem_of_getElem? (i := 132) rfl)
theorem pl_s : Cond.selects RJ4 yJ5_isLatin1_aae02 yJ5_isLatin1_aae02 ∈ lw_tbl := tbt5 (List.mem_of_getElem? (i := 162) rfl)
theorem ik_0 : Cond.instantiable RJ4 4 ∈ lw_tbl := tbt1 (List.mem_of_getElem? (i := 197) rfl)
theorem ik_1 : Cond.instantiable RX1 1 ∈ lw_tbl := tbt1 (List.mem_of_getElem? (i := 152) rfl)
theorem ik_2 : Cond.instantiable RX2 1 ∈ lw_tbl := tbt1 (List.mem_of_getElem? (i := 162) rfl)
theorem ik_3 : Cond.instantiable RX3 3 ∈ lw_tbl := tbt1 (List.mem_of_getElem? (i := 41) rfl)
theorem ik_4 : Cond.instantiable RX4 5 ∈ lw_tbl := tbt1 (List.mem_of_getElem? (i := 174) rfl)
theorem ik_5 : Cond.instantiable RX6 15 ∈ lw_tbl := tbt1 (List.mem_of_getElem? (i := 48) rfl)
theorem ik_6 : Cond.instantiable RX7 10 ∈ lw_tbl := tbt1 (List.mem_of_getElem? (i := 33) rfl)
theorem ik_7 : Cond.instantiable RX8 18 ∈ lw_tbl := tbt7 (List.mem_of_getElem? (i := 73) rfl)
/-- a private method of a class above is selected for itself -/
theorem sel_priv {C : String} {x0 y0 y : MethodName} {s : State} {args : Array Value} (h1 : (Cond.selects C x0 y0).before args s = true) (hc : y0.cls = y.cls) (hy : y.cls ≠ "java/lang/invoke/MethodHandle" ∧ y.cls ≠ "java/lang/invoke/VarHandle") (hpriv : (Cond.privateMethod y).before args s = true) (hinst : (Cond.instanceMethod y).before args s = true) : (Cond.selects C y y).before args s = true := by
  obtain ⟨c, r, m, f1, -, f3, -, km, f5, f6⟩ := Cond.selects_spec h1
  obtain ⟨mk, methM, hnamed, hmethM, -, -⟩ := Cond.instanceMethod_spec hinst
  have hfound : s.methodFound? y.cls y.name y.desc = some mk := State.methodFound?_of_named hnamed hy
  have hcls : mk.cls = m.cls := by
    have g1 := findClass_of_methodNamed hnamed
    have g2 := findClass_of_methodNamed f3
    rw [hc] at g2
    exact Option.some.inj (Eq.trans (Eq.symm g1) g2)
  have hsel : selectMethod {} s.vm c mk = .method mk := selectMethod_private hmethM (Cond.privateMethod_at hpriv mk methM hnamed hmethM)
  simp only [Cond.before, Cond.holds, Cond.value, f1, hfound, hnamed, hsel, hcls, f5]
  simp
  exact f6
section
variable {s : State} {args : Array Value}
theorem en_gw (hts : ∀ w ∈ lw_tbl, w.before args s = true) : ∀ w ∈ gw, w.before args s = true := by
  intro w hw
  rcases List.mem_append.mp (List.mem_filter.mp hw).1 with h | h
  · exact hts w h
  · rcases List.mem_cons.mp h with rfl | h
    · exact sel_priv (hts _ pl_s) rfl ⟨by decide, by decide⟩ (hts _ pv_e) (hts _ pi_e)
    · rcases List.mem_cons.mp h with rfl | h
      · exact sel_priv (hts _ pl_s) rfl ⟨by decide, by decide⟩ (hts _ pv_n) (hts _ pi_n)
      · cases h
theorem en_str (hL : ∀ w ∈ LL, w.before args s = true) {A : Nat → Prop} (hA : ∀ a : Nat, a < s.heap.size → ¬ A a) : ∃ adK adV : Nat → Nat, ∀ i, i < 46 → (tmS i).eval args s none [] s = some (.ref (adK i)) ∧ va_O "java/lang/String" (adK i) A s s.heap ∧ va_OF "java/lang/String" "coder" "B" (.int 0) (adK i) A s s.heap ∧ va_OF "java/lang/String" "value" "[B" (.ref (adV i)) (adK i) A s s.heap ∧ va_T .byte (adV i) (txL.getD i []).length (fun j => .int ((txL.getD i []).getD j 0)) A s s.heap := by
  have h0 : ∀ i : Nat, ∃ q : Nat × Nat, i < 46 → (tmS i).eval args s none [] s = some (.ref q.1) ∧ va_O "java/lang/String" q.1 A s s.heap ∧ va_OF "java/lang/String" "coder" "B" (.int 0) q.1 A s s.heap ∧ va_OF "java/lang/String" "value" "[B" (.ref q.2) q.1 A s s.heap ∧ va_T .byte q.2 (txL.getD i []).length (fun j => .int ((txL.getD i []).getD j 0)) A s s.heap := by
    intro i
    by_cases hi : i < 46
    · have gE := hL _ (List.mem_of_getElem? (se_E i hi))
      obtain ⟨a, c, cA, kA, q1, q2, q3, q4, q5, q6, -⟩ := Cond.exactly_spec (args := args) (first := s) (o := none) (s := s) (idx := []) (t := tmS i) (cls := "java/lang/String") gE
      obtain ⟨t, ht, hT⟩ := va_Tof (f := fun j => .int ((txL.getD i []).getD j 0)) (A := A) (st_all i hi).1.2 (hL _ (List.mem_of_getElem? (se_A i hi))) (va_eqt (hL _ (List.mem_of_getElem? (se_L i hi)))) (fun j hj => va_eqt (hL _ (va_run (f := fun j => Cond.eq (.elem (.field (tmS i) "java/lang/String" "value" "[B") (.int (Int32.ofNat j))) (.int ((txL.getD i []).getD j 0))) (se_R i hi) j hj))) hA
      exact ⟨(a, t), fun _ => ⟨q1, va_Oof gE q1 hA, vk_OFof q1 (va_eqt (hL _ (List.mem_of_getElem? (se_C i hi)))) hA, vk_OFof q1 ht hA, hT⟩⟩
    · exact ⟨(0, 0), fun h => absurd h hi⟩
  obtain ⟨ad, had⟩ := Classical.axiomOfChoice h0
  exact ⟨fun i => (ad i).1, fun i => (ad i).2, had⟩
theorem en_dig (hts : ∀ w ∈ lw_tbl, w.before args s = true) (hL : ∀ w ∈ LL, w.before args s = true) {A : Nat → Prop} (hA : ∀ a : Nat, a < s.heap.size → ¬ A a) : (∃ d : Nat, va_Z "java/lang/Integer" "DigitOnes" "[B" (.ref d) A s s.heap ∧ va_T .byte d 100 (fun j => .int (sb_b (48 + j % 10))) A s s.heap) ∧ (∃ d : Nat, va_Z "java/lang/Integer" "DigitTens" "[B" (.ref d) A s s.heap ∧ va_T .byte d 100 (fun j => .int (sb_b (48 + j / 10))) A s s.heap) := by
  obtain ⟨d, hd, hT⟩ := va_Tof (N := 100) (f := fun j => .int (sb_b (48 + j % 10))) (A := A) (by decide) (hL _ (List.mem_of_getElem? sd_Oa)) (va_eqt (hL _ (List.mem_of_getElem? sd_Ol))) (fun j hj => va_eqt (hL _ (va_run (f := fun j => Cond.eq (.elem (Term.static "java/lang/Integer" "DigitOnes" "[B") (.int (Int32.ofNat j))) (.int (sb_b (48 + j % 10)))) sd_O j hj))) hA
  obtain ⟨d2, hd2, hT2⟩ := va_Tof (N := 100) (f := fun j => .int (sb_b (48 + j / 10))) (A := A) (by decide) (hL _ (List.mem_of_getElem? sd_Ta)) (va_eqt (hL _ (List.mem_of_getElem? sd_Tl))) (fun j hj => va_eqt (hL _ (va_run (f := fun j => Cond.eq (.elem (Term.static "java/lang/Integer" "DigitTens" "[B") (.int (Int32.ofNat j))) (.int (sb_b (48 + j / 10)))) sd_T j hj))) hA
  exact ⟨⟨d, va_Zof (hts _ ls_O) (hts _ ls_Oi) hd hA, hT⟩, d2, va_Zof (hts _ ls_T) (hts _ ls_Ti) hd2 hA, hT2⟩
/-- the classes -/
theorem en_K (hts : ∀ w ∈ lw_tbl, w.before args s = true) (hgw : ∀ w ∈ gw, w.before args s = true) : ∃ V : Vx, va_K V.1 clv (tysv V) s ∧ ∃ kA : Class, s.vm.classes[V.2.1 7]? = some kA ∧ kA.kind = .array (V.2.1 0) (.array .int) := by
  obtain ⟨c0, i0, k0⟩ := u_known (C := RJ4) (T := TJ4) (N := 4) (n := 4) hgw inJ4 (hts _ ik_0)
  obtain ⟨c1, i1, k1⟩ := u_known (C := RX1) (T := TX1) (N := 1) (n := 1) hgw inX1 (hts _ ik_1)
  obtain ⟨c2, i2, k2⟩ := u_known (C := RX2) (T := TX2) (N := 1) (n := 1) hgw inX2 (hts _ ik_2)
  obtain ⟨c3, i3, k3⟩ := u_known (C := RX3) (T := TX3) (N := 3) (n := 3) hgw inX3 (hts _ ik_3)
  obtain ⟨c4, i4, k4⟩ := u_known (C := RX4) (T := TX4) (N := 5) (n := 5) hgw inX4 (hts _ ik_4)
  obtain ⟨c5, i5, k5⟩ := u_known (C := RX6) (T := TX6) (N := 15) (n := 15) hgw inX6 (hts _ ik_5)
  obtain ⟨c6, i6, k6⟩ := u_known (C := RX7) (T := TX7) (N := 10) (n := 10) hgw inX7 (hts _ ik_6)
  obtain ⟨c7, i7, k7⟩ := u_known (C := RX8) (T := TX8) (N := 18) (n := 18) hgw inX8 (hts _ ik_7)
  obtain ⟨a0, w0, b0, f0, g0, h0⟩ := Cond.arrayClass_spec (hts _ ac_int)
  obtain ⟨a1, w1, b1, f1, g1, h1⟩ := Cond.arrayClass_spec (hts _ ac_boolean)
  obtain ⟨a2, w2, b2, f2, g2, h2⟩ := Cond.arrayClass_spec (hts _ ac_char)
  obtain ⟨a3, w3, b3, f3, g3, h3⟩ := Cond.arrayClass_spec (hts _ ac_byte)
  obtain ⟨a4, w4, b4, f4, g4, h4⟩ := Cond.arrayClass_spec (hts _ ac_long)
  obtain ⟨a5, w5, b5, f5, g5, h5⟩ := Cond.arrayClass_spec (hts _ ac_double)
  obtain ⟨b6, a6, w6, e6, -, g6, h6, f6⟩ := Cond.arrayOver_spec (hts _ ao_T)
  obtain ⟨b7, a7, w7, e7, -, g7, h7, f7⟩ := arrayOverA_spec (hts _ ao_I)
  have hb7 : b7 = a0 := Option.some.inj (Eq.trans (Eq.symm e7) f0)
  subst hb7
  have hO : ∀ (cA : ClassId) (ty : FieldType) (comp : ClassId) (k : Class), s.vm.classes[cA]? = some k → k.kind = .array comp ty → ArrOfT s cA ty := fun cA ty comp k q1 q2 n z => ⟨(fun k h => by cases h), k, q1, comp, q2⟩
  refine ⟨((fun c => [c0, c1, c2, c3, c4, c5, c6, c7].getD c 0, fun c => [i0, i1, i2, i3, i4, i5, i6, i7].getD c (fun _ => 0)), fun t => [b7, a1, a2, a3, a4, a5, a6, a7].getD t 0, fun _ => 0), ⟨fun c q hq => ?_, fun k q hq => ?_⟩, w7, g7, h7⟩
  · have hc : c < 8 := (List.getElem?_eq_some_iff.mp hq).1
    rcases (show c = 0 ∨ c = 1 ∨ c = 2 ∨ c = 3 ∨ c = 4 ∨ c = 5 ∨ c = 6 ∨ c = 7 by omega) with rfl | rfl | rfl | rfl | rfl | rfl | rfl | rfl <;> cases hq
    · exact k0
    · exact k1
    · exact k2
    · exact k3
    · exact k4
    · exact k5
    · exact k6
    · exact k7
  · have hc : k < 8 := (List.getElem?_eq_some_iff.mp hq).1
    rcases (show k = 0 ∨ k = 1 ∨ k = 2 ∨ k = 3 ∨ k = 4 ∨ k = 5 ∨ k = 6 ∨ k = 7 by omega) with rfl | rfl | rfl | rfl | rfl | rfl | rfl | rfl <;> cases hq
    · exact ⟨hO _ _ _ _ g0 h0, f0⟩
    · exact ⟨hO _ _ _ _ g1 h1, f1⟩
    · exact ⟨hO _ _ _ _ g2 h2, f2⟩
    · exact ⟨hO _ _ _ _ g3 h3, f3⟩
    · exact ⟨hO _ _ _ _ g4 h4, f4⟩
    · exact ⟨hO _ _ _ _ g5 h5, f5⟩
    · exact ⟨hO _ _ _ _ g6 h6, w6, b6, g6, h6, e6, f6⟩
    · exact ⟨hO _ _ _ _ g7 h7, f7⟩
theorem en_E (hts : ∀ w ∈ lw_tbl, w.before args s = true) (hL : ∀ w ∈ LL, w.before args s = true) {A : Nat → Prop} (hA : ∀ a : Nat, a < s.heap.size → ¬ A a) {V : Vx} {adK adV : Nat → Nat} (hV : ∀ i, i < 46 → V.2.2 (3000 + i) = adK i) (hS : ∀ i, i < 46 → (tmS i).eval args s none [] s = some (.ref (adK i)) ∧ va_O "java/lang/String" (adK i) A s s.heap ∧ va_OF "java/lang/String" "coder" "B" (.int 0) (adK i) A s s.heap ∧ va_OF "java/lang/String" "value" "[B" (.ref (adV i)) (adK i) A s s.heap ∧ va_T .byte (adV i) (txL.getD i []).length (fun j => .int ((txL.getD i []).getD j 0)) A s s.heap) : Env0 V adV A s s.heap := by
  refine ⟨vx_Zqof (hts _ ls_U) (hts _ ls_Ui) (hL _ (List.mem_of_getElem? sq_U)) hA, vx_Zqof (hts _ ls_N) (hts _ ls_Ni) (hL _ (List.mem_of_getElem? sq_N)) hA, fun i q hq => ?_, fun w hw => ?_, fun q hq => ?_, fun i hi => ?_, va_Zof (hts _ ls_C) (hts _ ls_Ci) (va_eqt (hL _ (List.mem_of_getElem? sc_C))) hA, va_Zqof (hts _ ls_F) (hts _ ls_Fi) (hL _ (List.mem_of_getElem? sq_F)) hA, (en_dig hts hL hA).1, (en_dig hts hL hA).2⟩
  · have hi : i < 46 := (List.getElem?_eq_some_iff.mp hq).1
    have hq2 : strL.getD i ("", 0, "") = q := by rw [List.getD_eq_getElem?_getD, hq]; rfl
    have h1 := (hS i hi).1
    unfold tmS at h1
    rw [hq2] at h1
    rw [hV i hi]
    have hm : Cond.stringRef q.1 q.2.1 q.2.2 ∈ pSL.filterMap (fun i => lw_tbl[i]?) := by
      rw [← sn_S]
      exact List.mem_map.mpr ⟨q, List.mem_of_getElem? hq, rfl⟩
    exact vk_R.of (hts _ (fm_in hm)) h1
  · have hw2 : w ∈ lw_tbl := fm_in (by rw [← sn_W]; exact hw)
    exact va_tabs (wdL_t w hw) rfl (hts w hw2)
  · have hm : Cond.not (.castable q.1 q.2) ∈ pNL.filterMap (fun i => LL[i]?) := by
      rw [← sn_N]
      exact List.mem_map.mpr ⟨q, hq, rfl⟩
    exact va_Nc.of (hL _ (fm_in hm))
  · obtain ⟨h1, h2, h3, h4, h5⟩ := hS i hi
    rw [hV i hi]
    exact ⟨h2, h3, h4, h5⟩
theorem en_X (hts : ∀ w ∈ lw_tbl, w.before args s = true) (hL : ∀ w ∈ LL, w.before args s = true) {A : Nat → Prop} (hA : ∀ a : Nat, a < s.heap.size → ¬ A a) {V : Vx} (hk : ∃ kA : Class, s.vm.classes[V.2.1 7]? = some kA ∧ kA.kind = .array (V.2.1 0) (.array .int)) : XE V A s s.heap :=
  ⟨va_AO.of (hts _ ao_T), va_Zof (hts _ ls_C) (hts _ ls_Ci) (va_eqt (hL _ (List.mem_of_getElem? sc_C))) hA, fun q hq => va_tabs (by rfl) rfl (hts _ (jn_in _ (List.mem_map.mpr ⟨q, hq, rfl⟩))), hk⟩
end
