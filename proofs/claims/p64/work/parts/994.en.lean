/-! ===== the law's entry: what the Statement gives ===== -/
/-- the premises, one by one -/
def LL : List Jvm.Cond := flatC (Jvm.Cond.and given_1 narrow_1)
theorem tbt1 {w : Cond} (h : w ∈ tables_1_1) : w ∈ lw_tbl := List.mem_append.mpr (Or.inr (List.mem_append.mpr (Or.inl h)))
theorem tbt2 {w : Cond} (h : w ∈ tables_1_2) : w ∈ lw_tbl := List.mem_append.mpr (Or.inr (List.mem_append.mpr (Or.inr (List.mem_append.mpr (Or.inl h)))))
theorem tbt3 {w : Cond} (h : w ∈ tables_1_3) : w ∈ lw_tbl := List.mem_append.mpr (Or.inr (List.mem_append.mpr (Or.inr (List.mem_append.mpr (Or.inr (List.mem_append.mpr (Or.inl h)))))))
theorem tbt4 {w : Cond} (h : w ∈ tables_1_4) : w ∈ lw_tbl := List.mem_append.mpr (Or.inr (List.mem_append.mpr (Or.inr (List.mem_append.mpr (Or.inr (List.mem_append.mpr (Or.inr (List.mem_append.mpr (Or.inl h)))))))))
theorem tbt5 {w : Cond} (h : w ∈ tables_1_5) : w ∈ lw_tbl := List.mem_append.mpr (Or.inr (List.mem_append.mpr (Or.inr (List.mem_append.mpr (Or.inr (List.mem_append.mpr (Or.inr (List.mem_append.mpr (Or.inr (List.mem_append.mpr (Or.inl h)))))))))))
theorem tbt6 {w : Cond} (h : w ∈ tables_1_6) : w ∈ lw_tbl := List.mem_append.mpr (Or.inr (List.mem_append.mpr (Or.inr (List.mem_append.mpr (Or.inr (List.mem_append.mpr (Or.inr (List.mem_append.mpr (Or.inr (List.mem_append.mpr (Or.inr (List.mem_append.mpr (Or.inl h)))))))))))))
theorem tbt7 {w : Cond} (h : w ∈ tables_1_7) : w ∈ lw_tbl := List.mem_append.mpr (Or.inr (List.mem_append.mpr (Or.inr (List.mem_append.mpr (Or.inr (List.mem_append.mpr (Or.inr (List.mem_append.mpr (Or.inr (List.mem_append.mpr (Or.inr (List.mem_append.mpr (Or.inr h)))))))))))))
def tmS (i : Nat) : Term := Term.string (strL.getD i ("", 0, "")).1 (strL.getD i ("", 0, "")).2.1
def pEL : List Nat := [278, 308, 332, 362, 961, 993, 1017, 586, 1063, 278, 611, 645, 453, 484, 491, 505, 521, 526, 556, 669, 709, 737, 745, 758, 770, 779, 788, 799, 808, 819, 828, 839, 847, 858, 863, 869, 875, 881, 887, 893, 898, 926, 278, 278, 400, 427, 1084, 1107, 1132, 1153, 1163, 1183, 1200, 1221]
def pCL : List Nat := [279, 309, 333, 363, 962, 994, 1018, 587, 1064, 279, 612, 646, 454, 485, 492, 506, 522, 527, 557, 670, 710, 738, 746, 759, 771, 780, 789, 800, 809, 820, 829, 840, 848, 859, 864, 870, 876, 882, 888, 894, 899, 927, 279, 279, 401, 428, 1085, 1108, 1133, 1154, 1164, 1184, 1201, 1222]
def pAL : List Nat := [280, 310, 334, 364, 963, 995, 1019, 588, 1065, 280, 613, 647, 455, 486, 493, 507, 523, 528, 558, 671, 711, 739, 747, 760, 772, 781, 790, 801, 810, 821, 830, 841, 849, 860, 865, 871, 877, 883, 889, 895, 900, 928, 280, 280, 402, 429, 1086, 1109, 1134, 1155, 1165, 1185, 1202, 1223]
def pLL : List Nat := [281, 311, 335, 365, 964, 996, 1020, 589, 1066, 281, 614, 648, 456, 487, 494, 508, 524, 529, 559, 672, 712, 740, 748, 761, 773, 782, 791, 802, 811, 822, 831, 842, 850, 861, 866, 872, 878, 884, 890, 896, 901, 929, 281, 281, 403, 430, 1087, 1110, 1135, 1156, 1166, 1186, 1203, 1224]
def pRL : List Nat := [282, 312, 336, 366, 965, 997, 1021, 590, 1067, 282, 615, 649, 457, 488, 495, 509, 525, 530, 560, 673, 713, 741, 749, 762, 774, 783, 792, 803, 812, 823, 832, 843, 851, 862, 867, 873, 879, 885, 891, 897, 902, 930, 282, 282, 404, 431, 1088, 1111, 1136, 1157, 1167, 1187, 1204, 1225]
theorem se_E : ∀ i, i < 54 → LL[pEL.getD i 0]? = some (Cond.exactly (tmS i) "java/lang/String") := by decide +kernel
theorem se_C : ∀ i, i < 54 → LL[pCL.getD i 0]? = some (Cond.eq (.field (tmS i) "java/lang/String" "coder" "B") (.int 0)) := by decide +kernel
theorem se_A : ∀ i, i < 54 → LL[pAL.getD i 0]? = some (Cond.arrayOf (.field (tmS i) "java/lang/String" "value" "[B") .byte) := by decide +kernel
theorem se_L : ∀ i, i < 54 → LL[pLL.getD i 0]? = some (Cond.eq (.length (.field (tmS i) "java/lang/String" "value" "[B")) (.int (Int32.ofNat (txL.getD i []).length))) := by decide +kernel
theorem se_R : ∀ i, i < 54 → (List.range (txL.getD i []).length).map (fun j => Cond.eq (.elem (.field (tmS i) "java/lang/String" "value" "[B") (.int (Int32.ofNat j))) (.int ((txL.getD i []).getD j 0))) = (LL.drop (pRL.getD i 0)).take (txL.getD i []).length := by decide +kernel
theorem sd_O : (List.range 100).map (fun j => Cond.eq (.elem (Term.static "java/lang/Integer" "DigitOnes" "[B") (.int (Int32.ofNat j))) (.int (sb_b (48 + j % 10)))) = (LL.drop 14).take 100 := by decide +kernel
theorem sd_Oa : LL[12]? = some (Cond.arrayOf (Term.static "java/lang/Integer" "DigitOnes" "[B") .byte) := by decide +kernel
theorem sd_Ol : LL[13]? = some (Cond.eq (.length (Term.static "java/lang/Integer" "DigitOnes" "[B")) (.int (Int32.ofNat 100))) := by decide +kernel
theorem sd_T : (List.range 100).map (fun j => Cond.eq (.elem (Term.static "java/lang/Integer" "DigitTens" "[B") (.int (Int32.ofNat j))) (.int (sb_b (48 + j / 10)))) = (LL.drop 117).take 100 := by decide +kernel
theorem sd_Ta : LL[115]? = some (Cond.arrayOf (Term.static "java/lang/Integer" "DigitTens" "[B") .byte) := by decide +kernel
theorem sd_Tl : LL[116]? = some (Cond.eq (.length (Term.static "java/lang/Integer" "DigitTens" "[B")) (.int (Int32.ofNat 100))) := by decide +kernel
theorem sc_C : LL[4]? = some (Cond.eq (.static "java/lang/String" "COMPACT_STRINGS" "Z") (.int 1)) := by decide +kernel
theorem sq_U : LL[5]? = some (Cond.isRef (.static "java/lang/Throwable" "UNASSIGNED_STACK" "[Ljava/lang/StackTraceElement;")) := by decide +kernel
theorem sq_N : LL[6]? = some (Cond.isRef (.static "java/lang/Throwable" "SUPPRESSED_SENTINEL" "Ljava/util/List;")) := by decide +kernel
theorem sq_F : LL[7]? = some (Cond.isRef (.static "jdk/internal/util/Preconditions" "SIOOBE_FORMATTER" "Ljava/util/function/BiFunction;")) := by decide +kernel
def pNL : List Nat := [228, 229, 230, 231, 232, 233, 234, 235, 236, 237, 238, 239, 240, 241, 242, 243, 244, 245, 246, 247, 248, 249, 250, 251, 252, 253, 254, 255, 256, 257, 258, 259, 260, 261, 262, 263, 264, 265, 266, 267, 268, 269, 270, 271, 272, 273, 274, 275, 276, 277]
def pWL : List Nat := [395, 465, 481, 497, 594, 739, 1485, 1486, 1487, 1488, 1489, 1490, 1491, 1492, 1493, 1494, 1495, 1496, 1497, 1498, 1499, 1500, 1501, 396, 397, 398, 399, 400, 401, 595, 596]
def pSL : List Nat := [437, 472, 488, 504, 1378, 1396, 1452, 1012, 1468, 437, 1045, 1046, 700, 883, 924, 925, 926, 933, 978, 1146, 1147, 1170, 1171, 1172, 1173, 1174, 1175, 1176, 1177, 1178, 1179, 1180, 1181, 1194, 1195, 1196, 1197, 1198, 1199, 1200, 1221, 1228, 437, 437, 622, 634, 1502, 1503, 1504, 1505, 1506, 1507, 1508, 1509]
theorem sn_N : ncsL.map (fun q => Cond.not (.castable q.1 q.2)) = pNL.filterMap (fun i => LL[i]?) := by decide +kernel
theorem sn_W : wdL = pWL.filterMap (fun i => lw_tbl[i]?) := by decide +kernel
theorem sn_S : strL.map (fun q => Cond.stringRef q.1 q.2.1 q.2.2) = pSL.filterMap (fun i => lw_tbl[i]?) := by decide +kernel
theorem fm_in {α : Type} {L : List α} {ps : List Nat} {w : α} (h : w ∈ ps.filterMap (fun i => L[i]?)) : w ∈ L := by
  obtain ⟨i, -, hi⟩ := List.mem_filterMap.mp h
  exact List.mem_of_getElem? hi
theorem jn_in : ∀ w ∈ nestL.map (fun q => Cond.methodLinkNest "EchoCensus" q.1 q.2 "EchoCensus"), w ∈ lw_tbl := by
  show ∀ w ∈ [Cond.methodLinkNest "EchoCensus" 25 yX1_init "EchoCensus", Cond.methodLinkNest "EchoCensus" 32 yX2_init "EchoCensus", Cond.methodLinkNest "EchoCensus" 39 yX4_init "EchoCensus"], w ∈ lw_tbl
  exact List.forall_mem_cons.mpr ⟨tbt1 (List.mem_of_getElem? (i := 151) rfl), List.forall_mem_cons.mpr ⟨tbt1 (List.mem_of_getElem? (i := 161) rfl), List.forall_mem_cons.mpr ⟨tbt1 (List.mem_of_getElem? (i := 173) rfl), fun _ h => absurd h List.not_mem_nil⟩⟩⟩
def pTX : List Nat := [220, 221, 222, 223, 224, 225, 226, 227]
def tmX : Term := Term.static "EchoCensusLaw" "TEXTS" "[Ljava/lang/String;"
theorem tx_e : ∀ j, j < 8 → LL[pTX.getD j 0]? = some (Cond.eq (.elem tmX (.int (Int32.ofNat j))) (tmS (46 + j))) := by decide +kernel
theorem tx_a : LL[218]? = some (Cond.arrayOf tmX (.object "java/lang/String")) := by decide +kernel
theorem tx_l : LL[219]? = some (Cond.eq (.length tmX) (.int (Int32.ofNat 8))) := by decide +kernel
theorem tx_s : Cond.laysStatic "EchoCensusLaw" "TEXTS" "[Ljava/lang/String;" ∈ lw_tbl := tbt5 (List.mem_of_getElem? (i := 139) rfl)
theorem tx_i : Cond.initialized "EchoCensusLaw" ∈ lw_tbl := tbt1 (List.mem_of_getElem? (i := 0) rfl)
theorem ls_U : Cond.laysStatic "java/lang/Throwable" "UNASSIGNED_STACK" "[Ljava/lang/StackTraceElement;" ∈ lw_tbl := tbt2 (List.mem_of_getElem? (i := 160) rfl)
theorem ls_Ui : Cond.initialized "java/lang/Throwable" ∈ lw_tbl := tbt1 (List.mem_of_getElem? (i := 12) rfl)
theorem ls_N : Cond.laysStatic "java/lang/Throwable" "SUPPRESSED_SENTINEL" "Ljava/util/List;" ∈ lw_tbl := tbt2 (List.mem_of_getElem? (i := 162) rfl)
theorem ls_Ni : Cond.initialized "java/lang/Throwable" ∈ lw_tbl := tbt1 (List.mem_of_getElem? (i := 12) rfl)
theorem ls_F : Cond.laysStatic "jdk/internal/util/Preconditions" "SIOOBE_FORMATTER" "Ljava/util/function/BiFunction;" ∈ lw_tbl := tbt4 (List.mem_of_getElem? (i := 23) rfl)
theorem ls_Fi : Cond.initialized "jdk/internal/util/Preconditions" ∈ lw_tbl := tbt1 (List.mem_of_getElem? (i := 26) rfl)
theorem ls_C : Cond.laysStatic "java/lang/String" "COMPACT_STRINGS" "Z" ∈ lw_tbl := tbt1 (List.mem_of_getElem? (i := 204) rfl)
theorem ls_Ci : Cond.initialized "java/lang/String" ∈ lw_tbl := tbt1 (List.mem_of_getElem? (i := 9) rfl)
theorem ls_O : Cond.laysStatic "java/lang/Integer" "DigitOnes" "[B" ∈ lw_tbl := tbt4 (List.mem_of_getElem? (i := 93) rfl)
theorem ls_Oi : Cond.initialized "java/lang/Integer" ∈ lw_tbl := tbt1 (List.mem_of_getElem? (i := 29) rfl)
theorem ls_T : Cond.laysStatic "java/lang/Integer" "DigitTens" "[B" ∈ lw_tbl := tbt4 (List.mem_of_getElem? (i := 95) rfl)
theorem ls_Ti : Cond.initialized "java/lang/Integer" ∈ lw_tbl := tbt1 (List.mem_of_getElem? (i := 29) rfl)
theorem ao_T : Cond.arrayOver (.object "EchoCensus$Theatre") ∈ lw_tbl := tbt1 (List.mem_of_getElem? (i := 45) rfl)
theorem ao_I : Cond.arrayOver (.array .int) ∈ lw_tbl := tbt1 (List.mem_of_getElem? (i := 166) rfl)
theorem ac_int : Cond.arrayClass .int ∈ lw_tbl := tbt1 (List.mem_of_getElem? (i := 134) rfl)
theorem ac_boolean : Cond.arrayClass .boolean ∈ lw_tbl := tbt1 (List.mem_of_getElem? (i := 135) rfl)
theorem ac_byte : Cond.arrayClass .byte ∈ lw_tbl := tbt1 (List.mem_of_getElem? (i := 226) rfl)
theorem pv_e : Cond.privateMethod yJ5_ensureCapacityInternal_d00df ∈ lw_tbl := tbt3 (List.mem_of_getElem? (i := 213) rfl)
theorem pi_e : Cond.instanceMethod yJ5_ensureCapacityInternal_d00df ∈ lw_tbl := tbt3 (List.mem_of_getElem? (i := 214) rfl)
theorem pv_n : Cond.privateMethod yJ5_newCapacity_0f7a4 ∈ lw_tbl := tbt3 (List.mem_of_getElem? (i := 217) rfl)
theorem pi_n : Cond.instanceMethod yJ5_newCapacity_0f7a4 ∈ lw_tbl := tbt3 (List.mem_of_getElem? (i := 218) rfl)
theorem pl_s : Cond.selects RJ4 yJ5_isLatin1_aae02 yJ5_isLatin1_aae02 ∈ lw_tbl := tbt4 (List.mem_of_getElem? (i := 8) rfl)
theorem ik_0 : Cond.instantiable RJ4 4 ∈ lw_tbl := tbt1 (List.mem_of_getElem? (i := 195) rfl)
theorem ik_1 : Cond.instantiable RX1 1 ∈ lw_tbl := tbt1 (List.mem_of_getElem? (i := 150) rfl)
theorem ik_2 : Cond.instantiable RX2 1 ∈ lw_tbl := tbt1 (List.mem_of_getElem? (i := 160) rfl)
theorem ik_3 : Cond.instantiable RX3 3 ∈ lw_tbl := tbt1 (List.mem_of_getElem? (i := 39) rfl)
theorem ik_4 : Cond.instantiable RX4 5 ∈ lw_tbl := tbt1 (List.mem_of_getElem? (i := 172) rfl)
theorem ik_5 : Cond.instantiable RX6 15 ∈ lw_tbl := tbt1 (List.mem_of_getElem? (i := 46) rfl)
theorem ik_6 : Cond.instantiable RX7 10 ∈ lw_tbl := tbt1 (List.mem_of_getElem? (i := 31) rfl)
/-- a private method of a class above is selected for itself -/
theorem sel_priv {C : String} {x0 y0 y : MethodName} {s : State} {args : Array Value} (h1 : (Cond.selects C x0 y0).before args s = true) (hc : y0.cls = y.cls) (hy : y.cls ≠ "java/lang/invoke/MethodHandle" ∧ y.cls ≠ "java/lang/invoke/VarHandle") (hpriv : (Cond.privateMethod y).before args s = true) (hinst : (Cond.instanceMethod y).before args s = true) : (Cond.selects C y y).before args s = true := by
  obtain ⟨c, r, m, f1, -, f3, -, km, f5, f6⟩ := Cond.selects_spec h1
  obtain ⟨mk, methM, hnamed, hmethM, -, -⟩ := Cond.instanceMethod_spec hinst
  have hfound : s.methodFound? y.cls y.name y.desc = some mk := State.methodFound?_of_named hnamed hy
  have hcls : mk.cls = m.cls := by
    have g1 := findClass_of_methodNamed hnamed
    have g2 := findClass_of_methodNamed f3
    rw [hc] at g2
    exact Option.some.inj (Eq.trans (Eq.symm g1) g2)
  have hsel : selectMethod {} s.vm c mk = .method mk := selectMethod_private hmethM (Cond.privateMethod_at hpriv mk methM hnamed hmethM)
  simp only [Cond.before, Cond.holds, Cond.value, f1, hfound, hnamed, hsel, hcls, f5]
  simp
  exact f6
section
variable {s : State} {args : Array Value}
theorem en_gw (hts : ∀ w ∈ lw_tbl, w.before args s = true) : ∀ w ∈ gw, w.before args s = true := by
  intro w hw
  rcases List.mem_append.mp (List.mem_filter.mp hw).1 with h | h
  · exact hts w h
  · rcases List.mem_cons.mp h with rfl | h
    · exact sel_priv (hts _ pl_s) rfl ⟨by decide, by decide⟩ (hts _ pv_e) (hts _ pi_e)
    · rcases List.mem_cons.mp h with rfl | h
      · exact sel_priv (hts _ pl_s) rfl ⟨by decide, by decide⟩ (hts _ pv_n) (hts _ pi_n)
      · cases h
theorem en_str (hL : ∀ w ∈ LL, w.before args s = true) {A : Nat → Prop} (hA : ∀ a : Nat, a < s.heap.size → ¬ A a) : ∃ adK adV : Nat → Nat, ∀ i, i < 54 → (tmS i).eval args s none [] s = some (.ref (adK i)) ∧ va_O "java/lang/String" (adK i) A s s.heap ∧ va_OF "java/lang/String" "coder" "B" (.int 0) (adK i) A s s.heap ∧ va_OF "java/lang/String" "value" "[B" (.ref (adV i)) (adK i) A s s.heap ∧ va_T .byte (adV i) (txL.getD i []).length (fun j => .int ((txL.getD i []).getD j 0)) A s s.heap := by
  have h0 : ∀ i : Nat, ∃ q : Nat × Nat, i < 54 → (tmS i).eval args s none [] s = some (.ref q.1) ∧ va_O "java/lang/String" q.1 A s s.heap ∧ va_OF "java/lang/String" "coder" "B" (.int 0) q.1 A s s.heap ∧ va_OF "java/lang/String" "value" "[B" (.ref q.2) q.1 A s s.heap ∧ va_T .byte q.2 (txL.getD i []).length (fun j => .int ((txL.getD i []).getD j 0)) A s s.heap := by
    intro i
    by_cases hi : i < 54
    · have gE := hL _ (List.mem_of_getElem? (se_E i hi))
      obtain ⟨a, c, cA, kA, q1, q2, q3, q4, q5, q6, -⟩ := Cond.exactly_spec (args := args) (first := s) (o := none) (s := s) (idx := []) (t := tmS i) (cls := "java/lang/String") gE
      obtain ⟨t, ht, hT⟩ := va_Tof (f := fun j => .int ((txL.getD i []).getD j 0)) (A := A) (st_all i hi).1.2 (hL _ (List.mem_of_getElem? (se_A i hi))) (va_eqt (hL _ (List.mem_of_getElem? (se_L i hi)))) (fun j hj => va_eqt (hL _ (va_run (f := fun j => Cond.eq (.elem (.field (tmS i) "java/lang/String" "value" "[B") (.int (Int32.ofNat j))) (.int ((txL.getD i []).getD j 0))) (se_R i hi) j hj))) hA
      exact ⟨(a, t), fun _ => ⟨q1, va_Oof gE q1 hA, vk_OFof q1 (va_eqt (hL _ (List.mem_of_getElem? (se_C i hi)))) hA, vk_OFof q1 ht hA, hT⟩⟩
    · exact ⟨(0, 0), fun h => absurd h hi⟩
  obtain ⟨ad, had⟩ := Classical.axiomOfChoice h0
  exact ⟨fun i => (ad i).1, fun i => (ad i).2, had⟩
theorem en_dig (hts : ∀ w ∈ lw_tbl, w.before args s = true) (hL : ∀ w ∈ LL, w.before args s = true) {A : Nat → Prop} (hA : ∀ a : Nat, a < s.heap.size → ¬ A a) : (∃ d : Nat, va_Z "java/lang/Integer" "DigitOnes" "[B" (.ref d) A s s.heap ∧ va_T .byte d 100 (fun j => .int (sb_b (48 + j % 10))) A s s.heap) ∧ (∃ d : Nat, va_Z "java/lang/Integer" "DigitTens" "[B" (.ref d) A s s.heap ∧ va_T .byte d 100 (fun j => .int (sb_b (48 + j / 10))) A s s.heap) := by
  obtain ⟨d, hd, hT⟩ := va_Tof (N := 100) (f := fun j => .int (sb_b (48 + j % 10))) (A := A) (by decide) (hL _ (List.mem_of_getElem? sd_Oa)) (va_eqt (hL _ (List.mem_of_getElem? sd_Ol))) (fun j hj => va_eqt (hL _ (va_run (f := fun j => Cond.eq (.elem (Term.static "java/lang/Integer" "DigitOnes" "[B") (.int (Int32.ofNat j))) (.int (sb_b (48 + j % 10)))) sd_O j hj))) hA
  obtain ⟨d2, hd2, hT2⟩ := va_Tof (N := 100) (f := fun j => .int (sb_b (48 + j / 10))) (A := A) (by decide) (hL _ (List.mem_of_getElem? sd_Ta)) (va_eqt (hL _ (List.mem_of_getElem? sd_Tl))) (fun j hj => va_eqt (hL _ (va_run (f := fun j => Cond.eq (.elem (Term.static "java/lang/Integer" "DigitTens" "[B") (.int (Int32.ofNat j))) (.int (sb_b (48 + j / 10)))) sd_T j hj))) hA
  exact ⟨⟨d, va_Zof (hts _ ls_O) (hts _ ls_Oi) hd hA, hT⟩, d2, va_Zof (hts _ ls_T) (hts _ ls_Ti) hd2 hA, hT2⟩
theorem en_TX (hts : ∀ w ∈ lw_tbl, w.before args s = true) (hL : ∀ w ∈ LL, w.before args s = true) {A : Nat → Prop} (hA : ∀ a : Nat, a < s.heap.size → ¬ A a) {adK : Nat → Nat} (hS : ∀ i, i < 54 → (tmS i).eval args s none [] s = some (.ref (adK i))) : ∃ d : Nat, va_Z "EchoCensusLaw" "TEXTS" "[Ljava/lang/String;" (.ref d) A s s.heap ∧ va_T (.object "java/lang/String") d 8 (fun j => .ref (adK (46 + j))) A s s.heap := by
  obtain ⟨d, hd, hT⟩ := va_Tof (N := 8) (f := fun j => .ref (adK (46 + j))) (A := A) (by decide) (hL _ (List.mem_of_getElem? tx_a)) (va_eqt (hL _ (List.mem_of_getElem? tx_l))) (fun j hj => va_eqv (hL _ (List.mem_of_getElem? (tx_e j hj))) (hS (46 + j) (by omega))) hA
  exact ⟨d, va_Zof (hts _ tx_s) (hts _ tx_i) hd hA, hT⟩
/-- the classes -/
theorem en_K (hts : ∀ w ∈ lw_tbl, w.before args s = true) (hgw : ∀ w ∈ gw, w.before args s = true) : ∃ V : Vx, va_K V.1 clv (tysv V) s ∧ ∃ kA : Class, s.vm.classes[V.2.1 7]? = some kA ∧ kA.kind = .array (V.2.1 0) (.array .int) := by
  obtain ⟨c0, i0, k0⟩ := u_known (C := RJ4) (T := TJ4) (N := 4) (n := 4) hgw inJ4 (hts _ ik_0)
  obtain ⟨c1, i1, k1⟩ := u_known (C := RX1) (T := TX1) (N := 1) (n := 1) hgw inX1 (hts _ ik_1)
  obtain ⟨c2, i2, k2⟩ := u_known (C := RX2) (T := TX2) (N := 1) (n := 1) hgw inX2 (hts _ ik_2)
  obtain ⟨c3, i3, k3⟩ := u_known (C := RX3) (T := TX3) (N := 3) (n := 3) hgw inX3 (hts _ ik_3)
  obtain ⟨c4, i4, k4⟩ := u_known (C := RX4) (T := TX4) (N := 5) (n := 5) hgw inX4 (hts _ ik_4)
  obtain ⟨c5, i5, k5⟩ := u_known (C := RX6) (T := TX6) (N := 15) (n := 15) hgw inX6 (hts _ ik_5)
  obtain ⟨c6, i6, k6⟩ := u_known (C := RX7) (T := TX7) (N := 10) (n := 10) hgw inX7 (hts _ ik_6)
  obtain ⟨a0, w0, b0, f0, g0, h0⟩ := Cond.arrayClass_spec (hts _ ac_int)
  obtain ⟨a1, w1, b1, f1, g1, h1⟩ := Cond.arrayClass_spec (hts _ ac_boolean)
  obtain ⟨a3, w3, b3, f3, g3, h3⟩ := Cond.arrayClass_spec (hts _ ac_byte)
  obtain ⟨b6, a6, w6, e6, -, g6, h6, f6⟩ := Cond.arrayOver_spec (hts _ ao_T)
  obtain ⟨b7, a7, w7, e7, -, g7, h7, f7⟩ := arrayOverA_spec (hts _ ao_I)
  have hb7 : b7 = a0 := Option.some.inj (Eq.trans (Eq.symm e7) f0)
  subst hb7
  have hO : ∀ (cA : ClassId) (ty : FieldType) (comp : ClassId) (k : Class), s.vm.classes[cA]? = some k → k.kind = .array comp ty → ArrOfT s cA ty := fun cA ty comp k q1 q2 n z => ⟨(fun k h => by cases h), k, q1, comp, q2⟩
  refine ⟨((fun c => [c0, c1, c2, c3, c4, c5, c6].getD c 0, fun c => [i0, i1, i2, i3, i4, i5, i6].getD c (fun _ => 0)), fun t => [b7, a1, b7, a3, b7, b7, a6, a7].getD t 0, fun _ => 0), ⟨fun c q hq => ?_, fun k q hq => ?_⟩, w7, g7, h7⟩
  · have hc : c < 7 := (List.getElem?_eq_some_iff.mp hq).1
    rcases (show c = 0 ∨ c = 1 ∨ c = 2 ∨ c = 3 ∨ c = 4 ∨ c = 5 ∨ c = 6 by omega) with rfl | rfl | rfl | rfl | rfl | rfl | rfl <;> cases hq
    · exact k0
    · exact k1
    · exact k2
    · exact k3
    · exact k4
    · exact k5
    · exact k6
  · have hc : k < 8 := (List.getElem?_eq_some_iff.mp hq).1
    rcases (show k = 0 ∨ k = 1 ∨ k = 2 ∨ k = 3 ∨ k = 4 ∨ k = 5 ∨ k = 6 ∨ k = 7 by omega) with rfl | rfl | rfl | rfl | rfl | rfl | rfl | rfl <;> cases hq
    · exact ⟨hO _ _ _ _ g0 h0, f0⟩
    · exact ⟨hO _ _ _ _ g1 h1, f1⟩
    · exact ⟨hO _ _ _ _ g0 h0, f0⟩
    · exact ⟨hO _ _ _ _ g3 h3, f3⟩
    · exact ⟨hO _ _ _ _ g0 h0, f0⟩
    · exact ⟨hO _ _ _ _ g0 h0, f0⟩
    · exact ⟨hO _ _ _ _ g6 h6, w6, b6, g6, h6, e6, f6⟩
    · exact ⟨hO _ _ _ _ g7 h7, f7⟩
theorem en_E (hts : ∀ w ∈ lw_tbl, w.before args s = true) (hL : ∀ w ∈ LL, w.before args s = true) {A : Nat → Prop} (hA : ∀ a : Nat, a < s.heap.size → ¬ A a) {V : Vx} {adK adV : Nat → Nat} (hTX : TX V A s s.heap) (hV : ∀ i, i < 54 → V.2.2 (3000 + i) = adK i) (hS : ∀ i, i < 54 → (tmS i).eval args s none [] s = some (.ref (adK i)) ∧ va_O "java/lang/String" (adK i) A s s.heap ∧ va_OF "java/lang/String" "coder" "B" (.int 0) (adK i) A s s.heap ∧ va_OF "java/lang/String" "value" "[B" (.ref (adV i)) (adK i) A s s.heap ∧ va_T .byte (adV i) (txL.getD i []).length (fun j => .int ((txL.getD i []).getD j 0)) A s s.heap) : Env0 V adV A s s.heap := by
  refine ⟨vx_Zqof (hts _ ls_U) (hts _ ls_Ui) (hL _ (List.mem_of_getElem? sq_U)) hA, vx_Zqof (hts _ ls_N) (hts _ ls_Ni) (hL _ (List.mem_of_getElem? sq_N)) hA, fun i q hq => ?_, fun w hw => ?_, fun q hq => ?_, ⟨fun i hi => ?_, va_Zof (hts _ ls_C) (hts _ ls_Ci) (va_eqt (hL _ (List.mem_of_getElem? sc_C))) hA, va_Zqof (hts _ ls_F) (hts _ ls_Fi) (hL _ (List.mem_of_getElem? sq_F)) hA, (en_dig hts hL hA).1, (en_dig hts hL hA).2⟩, hTX⟩
  · have hi : i < 54 := (List.getElem?_eq_some_iff.mp hq).1
    have hq2 : strL.getD i ("", 0, "") = q := by rw [List.getD_eq_getElem?_getD, hq]; rfl
    have h1 := (hS i hi).1
    unfold tmS at h1
    rw [hq2] at h1
    rw [hV i hi]
    have hm : Cond.stringRef q.1 q.2.1 q.2.2 ∈ pSL.filterMap (fun i => lw_tbl[i]?) := by
      rw [← sn_S]
      exact List.mem_map.mpr ⟨q, List.mem_of_getElem? hq, rfl⟩
    exact vk_R.of (hts _ (fm_in hm)) h1
  · have hw2 : w ∈ lw_tbl := fm_in (by rw [← sn_W]; exact hw)
    exact va_tabs (wdL_t w hw) rfl (hts w hw2)
  · have hm : Cond.not (.castable q.1 q.2) ∈ pNL.filterMap (fun i => LL[i]?) := by
      rw [← sn_N]
      exact List.mem_map.mpr ⟨q, hq, rfl⟩
    exact va_Nc.of (hL _ (fm_in hm))
  · obtain ⟨h1, h2, h3, h4, h5⟩ := hS i hi
    rw [hV i hi]
    exact ⟨h2, h3, h4, h5⟩
theorem en_X (hts : ∀ w ∈ lw_tbl, w.before args s = true) (hL : ∀ w ∈ LL, w.before args s = true) {A : Nat → Prop} (hA : ∀ a : Nat, a < s.heap.size → ¬ A a) {V : Vx} (hk : ∃ kA : Class, s.vm.classes[V.2.1 7]? = some kA ∧ kA.kind = .array (V.2.1 0) (.array .int)) : XE V A s s.heap :=
  ⟨va_AO.of (hts _ ao_T), va_Zof (hts _ ls_C) (hts _ ls_Ci) (va_eqt (hL _ (List.mem_of_getElem? sc_C))) hA, fun q hq => va_tabs (by rfl) rfl (hts _ (jn_in _ (List.mem_map.mpr ⟨q, hq, rfl⟩))), hk⟩
end
