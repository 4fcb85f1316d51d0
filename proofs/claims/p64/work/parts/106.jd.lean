/-! ===== the JDK: builders and texts, method by method ===== -/
theorem jinJ4 : ∀ w ∈ u_ws RJ4 TJ4 4, w ∈ gw := by decide +kernel
theorem jw723 : Cond.methodLink "jdk/internal/util/ArraysSupport" 194 Lib.Math.max.name ∈ gw := gwt3 (List.mem_of_getElem? (i := 223) rfl) (by decide +kernel)
theorem jw724 : Cond.static Lib.Math.max.name ∈ gw := gwt3 (List.mem_of_getElem? (i := 224) rfl) (by decide +kernel)
theorem jw40 : Cond.initialized "java/lang/Math" ∈ gw := gwt1 (List.mem_of_getElem? (i := 20) rfl) (by decide +kernel)
theorem jw725 : Cond.code Lib.Math.max.name Lib.Math.max.code 2 (some .int) ∈ gw := gwt3 (List.mem_of_getElem? (i := 225) rfl) (by decide +kernel)
theorem jw726 : Cond.constant RJ8 200 2147483639 ∈ gw := gwt3 (List.mem_of_getElem? (i := 226) rfl) (by decide +kernel)
theorem jw232 : Cond.fieldLink "java/lang/AbstractStringBuilder" 15 "java/lang/AbstractStringBuilder" "value" "[B" ∈ gw := gwt1 (List.mem_of_getElem? (i := 212) rfl) (by decide +kernel)
theorem jw233 : Cond.fieldLink "java/lang/AbstractStringBuilder" 22 "java/lang/AbstractStringBuilder" "coder" "B" ∈ gw := gwt1 (List.mem_of_getElem? (i := 213) rfl) (by decide +kernel)
theorem jw722 : Cond.code yJ8_newLength_cabcc cJ8_newLength_cabcc 4 (some .int) ∈ gw := gwt3 (List.mem_of_getElem? (i := 222) rfl) (by decide +kernel)
theorem jw43 : Cond.initialized yJ8_newLength_cabcc.cls ∈ gw := gwt1 (List.mem_of_getElem? (i := 23) rfl) (by decide +kernel)
theorem jw720 : Cond.methodLink "java/lang/AbstractStringBuilder" 114 yJ8_newLength_cabcc ∈ gw := gwt3 (List.mem_of_getElem? (i := 220) rfl) (by decide +kernel)
theorem jw721 : Cond.static yJ8_newLength_cabcc ∈ gw := gwt3 (List.mem_of_getElem? (i := 221) rfl) (by decide +kernel)
theorem jd_J8_newLength_cabcc : yJ8_newLength_cabcc.cls ≠ "java/lang/invoke/MethodHandle" ∧ yJ8_newLength_cabcc.cls ≠ "java/lang/invoke/VarHandle" ∧ (parseMethodDescriptor yJ8_newLength_cabcc.desc).map (fun d => d.parameters.length) = some 3 := ⟨by decide, by decide, by decide +kernel⟩
theorem jw730 : Cond.constant RJ5 39 2147483647 ∈ gw := gwt3 (List.mem_of_getElem? (i := 230) rfl) (by decide +kernel)
theorem jw246 : Cond.arrayClass (newarray.typeOf .byte) ∈ gw := gwt1 (List.mem_of_getElem? (i := 226) rfl) (by decide +kernel)
theorem jw741 : Cond.methodLink "java/util/Arrays" 304 Lib.Math.min.name ∈ gw := gwt4 (List.mem_of_getElem? (i := 1) rfl) (by decide +kernel)
theorem jw535 : Cond.static Lib.Math.min.name ∈ gw := gwt3 (List.mem_of_getElem? (i := 35) rfl) (by decide +kernel)
theorem jw536 : Cond.code Lib.Math.min.name Lib.Math.min.code 2 (some .int) ∈ gw := gwt3 (List.mem_of_getElem? (i := 36) rfl) (by decide +kernel)
theorem jw742 : Cond.methodLink RJ7 150 arraycopyName ∈ gw := gwt4 (List.mem_of_getElem? (i := 2) rfl) (by decide +kernel)
theorem jw744 : Cond.native arraycopyName ∈ gw := gwt4 (List.mem_of_getElem? (i := 4) rfl) (by decide +kernel)
theorem jw743 : Cond.static arraycopyName ∈ gw := gwt4 (List.mem_of_getElem? (i := 3) rfl) (by decide +kernel)
theorem jw45 : Cond.initialized "java/lang/System" ∈ gw := gwt1 (List.mem_of_getElem? (i := 25) rfl) (by decide +kernel)
theorem jw719 : Cond.code yJ5_newCapacity_0f7a4 cJ5_newCapacity_0f7a4 6 (some .int) ∈ gw := gwt3 (List.mem_of_getElem? (i := 219) rfl) (by decide +kernel)
theorem jw27 : Cond.initialized yJ5_newCapacity_0f7a4.cls ∈ gw := gwt1 (List.mem_of_getElem? (i := 7) rfl) (by decide +kernel)
theorem jw716 : Cond.methodLink "java/lang/AbstractStringBuilder" 104 yJ5_newCapacity_0f7a4 ∈ gw := gwt3 (List.mem_of_getElem? (i := 216) rfl) (by decide +kernel)
theorem jw1477 : Cond.sameMethod yJ5_newCapacity_0f7a4.cls yJ5_newCapacity_0f7a4.cls yJ5_newCapacity_0f7a4.name yJ5_newCapacity_0f7a4.desc ∈ gw := gwt7 (List.mem_of_getElem? (i := 17) rfl) (by decide +kernel)
theorem jw718 : Cond.instanceMethod yJ5_newCapacity_0f7a4 ∈ gw := gwt3 (List.mem_of_getElem? (i := 218) rfl) (by decide +kernel)
theorem jse_J5_newCapacity_0f7a4 : Cond.selects RJ4 yJ5_newCapacity_0f7a4 yJ5_newCapacity_0f7a4 ∈ gw := List.mem_filter.mpr ⟨List.mem_append_right _ (by simp [jselL]), by decide +kernel⟩
theorem jd_J5_newCapacity_0f7a4 : yJ5_newCapacity_0f7a4.cls ≠ "java/lang/invoke/MethodHandle" ∧ yJ5_newCapacity_0f7a4.cls ≠ "java/lang/invoke/VarHandle" ∧ (parseMethodDescriptor yJ5_newCapacity_0f7a4.desc).map (fun d => d.parameters.length) = some 1 := ⟨by decide, by decide, by decide +kernel⟩
theorem jw733 : Cond.code yJ7_copyOf_9075b cJ7_copyOf_9075b 3 (some (.array .byte)) ∈ gw := gwt3 (List.mem_of_getElem? (i := 233) rfl) (by decide +kernel)
theorem jw44 : Cond.initialized yJ7_copyOf_9075b.cls ∈ gw := gwt1 (List.mem_of_getElem? (i := 24) rfl) (by decide +kernel)
theorem jw731 : Cond.methodLink "java/lang/AbstractStringBuilder" 108 yJ7_copyOf_9075b ∈ gw := gwt3 (List.mem_of_getElem? (i := 231) rfl) (by decide +kernel)
theorem jw732 : Cond.static yJ7_copyOf_9075b ∈ gw := gwt3 (List.mem_of_getElem? (i := 232) rfl) (by decide +kernel)
theorem jd_J7_copyOf_9075b : yJ7_copyOf_9075b.cls ≠ "java/lang/invoke/MethodHandle" ∧ yJ7_copyOf_9075b.cls ≠ "java/lang/invoke/VarHandle" ∧ (parseMethodDescriptor yJ7_copyOf_9075b.desc).map (fun d => d.parameters.length) = some 2 := ⟨by decide, by decide, by decide +kernel⟩
theorem jw223 : Cond.fieldLink "java/lang/AbstractStringBuilder" 18 "java/lang/String" "COMPACT_STRINGS" "Z" ∈ gw := gwt1 (List.mem_of_getElem? (i := 203) rfl) (by decide +kernel)
theorem jw236 : Cond.fieldLink "java/lang/AbstractStringBuilder" 79 "java/lang/AbstractStringBuilder" "count" "I" ∈ gw := gwt1 (List.mem_of_getElem? (i := 216) rfl) (by decide +kernel)
theorem jw715 : Cond.code yJ5_ensureCapacityInternal_d00df cJ5_ensureCapacityInternal_d00df 3 none ∈ gw := gwt3 (List.mem_of_getElem? (i := 215) rfl) (by decide +kernel)
theorem jw712 : Cond.methodLink "java/lang/AbstractStringBuilder" 100 yJ5_ensureCapacityInternal_d00df ∈ gw := gwt3 (List.mem_of_getElem? (i := 212) rfl) (by decide +kernel)
theorem jw1476 : Cond.sameMethod yJ5_ensureCapacityInternal_d00df.cls yJ5_ensureCapacityInternal_d00df.cls yJ5_ensureCapacityInternal_d00df.name yJ5_ensureCapacityInternal_d00df.desc ∈ gw := gwt7 (List.mem_of_getElem? (i := 16) rfl) (by decide +kernel)
theorem jw714 : Cond.instanceMethod yJ5_ensureCapacityInternal_d00df ∈ gw := gwt3 (List.mem_of_getElem? (i := 214) rfl) (by decide +kernel)
theorem jse_J5_ensureCapacityInternal_d00df : Cond.selects RJ4 yJ5_ensureCapacityInternal_d00df yJ5_ensureCapacityInternal_d00df ∈ gw := List.mem_filter.mpr ⟨List.mem_append_right _ (by simp [jselL]), by decide +kernel⟩
theorem jd_J5_ensureCapacityInternal_d00df : yJ5_ensureCapacityInternal_d00df.cls ≠ "java/lang/invoke/MethodHandle" ∧ yJ5_ensureCapacityInternal_d00df.cls ≠ "java/lang/invoke/VarHandle" ∧ (parseMethodDescriptor yJ5_ensureCapacityInternal_d00df.desc).map (fun d => d.parameters.length) = some 1 := ⟨by decide, by decide, by decide +kernel⟩
theorem jw749 : Cond.code yJ5_isLatin1_aae02 cJ5_isLatin1_aae02 1 (some .boolean) ∈ gw := gwt4 (List.mem_of_getElem? (i := 9) rfl) (by decide +kernel)
theorem jw745 : Cond.methodLink "java/lang/AbstractStringBuilder" 83 yJ5_isLatin1_aae02 ∈ gw := gwt4 (List.mem_of_getElem? (i := 5) rfl) (by decide +kernel)
theorem jw747 : Cond.sameMethod yJ5_isLatin1_aae02.cls yJ5_isLatin1_aae02.cls yJ5_isLatin1_aae02.name yJ5_isLatin1_aae02.desc ∈ gw := gwt4 (List.mem_of_getElem? (i := 7) rfl) (by decide +kernel)
theorem jw746 : Cond.instanceMethod yJ5_isLatin1_aae02 ∈ gw := gwt4 (List.mem_of_getElem? (i := 6) rfl) (by decide +kernel)
theorem jw748 : Cond.selects "java/lang/StringBuilder" yJ5_isLatin1_aae02 yJ5_isLatin1_aae02 ∈ gw := gwt4 (List.mem_of_getElem? (i := 8) rfl) (by decide +kernel)
theorem jd_J5_isLatin1_aae02 : yJ5_isLatin1_aae02.cls ≠ "java/lang/invoke/MethodHandle" ∧ yJ5_isLatin1_aae02.cls ≠ "java/lang/invoke/VarHandle" ∧ (parseMethodDescriptor yJ5_isLatin1_aae02.desc).map (fun d => d.parameters.length) = some 0 := ⟨by decide, by decide, by decide +kernel⟩
theorem jw951 : Cond.code yJ1_canEncode_fc78d cJ1_canEncode_fc78d 1 (some .boolean) ∈ gw := gwt4 (List.mem_of_getElem? (i := 211) rfl) (by decide +kernel)
theorem jw47 : Cond.initialized yJ1_canEncode_fc78d.cls ∈ gw := gwt1 (List.mem_of_getElem? (i := 27) rfl) (by decide +kernel)
theorem jw949 : Cond.methodLink "java/lang/AbstractStringBuilder" 191 yJ1_canEncode_fc78d ∈ gw := gwt4 (List.mem_of_getElem? (i := 209) rfl) (by decide +kernel)
theorem jw950 : Cond.static yJ1_canEncode_fc78d ∈ gw := gwt4 (List.mem_of_getElem? (i := 210) rfl) (by decide +kernel)
theorem jd_J1_canEncode_fc78d : yJ1_canEncode_fc78d.cls ≠ "java/lang/invoke/MethodHandle" ∧ yJ1_canEncode_fc78d.cls ≠ "java/lang/invoke/VarHandle" ∧ (parseMethodDescriptor yJ1_canEncode_fc78d.desc).map (fun d => d.parameters.length) = some 1 := ⟨by decide, by decide, by decide +kernel⟩
theorem jw948 : Cond.code yJ5_append_3fe6f cJ5_append_3fe6f 2 (some (.object "java/lang/AbstractStringBuilder")) ∈ gw := gwt4 (List.mem_of_getElem? (i := 208) rfl) (by decide +kernel)
theorem jw946 : Cond.methodLink "java/lang/StringBuilder" 50 yJ5_append_3fe6f ∈ gw := gwt4 (List.mem_of_getElem? (i := 206) rfl) (by decide +kernel)
theorem jw1482 : Cond.sameMethod yJ5_append_3fe6f.cls yJ5_append_3fe6f.cls yJ5_append_3fe6f.name yJ5_append_3fe6f.desc ∈ gw := gwt7 (List.mem_of_getElem? (i := 22) rfl) (by decide +kernel)
theorem jw245 : Cond.superclass RJ4 RJ5 ∈ gw := gwt1 (List.mem_of_getElem? (i := 225) rfl) (by decide +kernel)
theorem jw947 : Cond.instanceMethod yJ5_append_3fe6f ∈ gw := gwt4 (List.mem_of_getElem? (i := 207) rfl) (by decide +kernel)
theorem js_J5_append_3fe6f : yJ5_append_3fe6f.name ≠ "<init>" ∧ (parseMethodDescriptor yJ5_append_3fe6f.desc).map (fun d => d.parameters.length) = some 1 := ⟨by decide, by decide +kernel⟩
theorem jw832 : Cond.fieldLink "java/lang/Integer" 83 "java/lang/Integer" "DigitOnes" "[B" ∈ gw := gwt4 (List.mem_of_getElem? (i := 92) rfl) (by decide +kernel)
theorem jw834 : Cond.fieldLink "java/lang/Integer" 87 "java/lang/Integer" "DigitTens" "[B" ∈ gw := gwt4 (List.mem_of_getElem? (i := 94) rfl) (by decide +kernel)
theorem jw828 : Cond.code yJ6_stringSize_0f7a4 cJ6_stringSize_0f7a4 4 (some .int) ∈ gw := gwt4 (List.mem_of_getElem? (i := 88) rfl) (by decide +kernel)
theorem jw49 : Cond.initialized yJ6_stringSize_0f7a4.cls ∈ gw := gwt1 (List.mem_of_getElem? (i := 29) rfl) (by decide +kernel)
theorem jw826 : Cond.methodLink "java/lang/AbstractStringBuilder" 245 yJ6_stringSize_0f7a4 ∈ gw := gwt4 (List.mem_of_getElem? (i := 86) rfl) (by decide +kernel)
theorem jw827 : Cond.static yJ6_stringSize_0f7a4 ∈ gw := gwt4 (List.mem_of_getElem? (i := 87) rfl) (by decide +kernel)
theorem jd_J6_stringSize_0f7a4 : yJ6_stringSize_0f7a4.cls ≠ "java/lang/invoke/MethodHandle" ∧ yJ6_stringSize_0f7a4.cls ≠ "java/lang/invoke/VarHandle" ∧ (parseMethodDescriptor yJ6_stringSize_0f7a4.desc).map (fun d => d.parameters.length) = some 1 := ⟨by decide, by decide, by decide +kernel⟩
theorem jw831 : Cond.code yJ6_getChars_ba4f3 cJ6_getChars_ba4f3 7 (some .int) ∈ gw := gwt4 (List.mem_of_getElem? (i := 91) rfl) (by decide +kernel)
theorem jw829 : Cond.methodLink "java/lang/AbstractStringBuilder" 248 yJ6_getChars_ba4f3 ∈ gw := gwt4 (List.mem_of_getElem? (i := 89) rfl) (by decide +kernel)
theorem jw830 : Cond.static yJ6_getChars_ba4f3 ∈ gw := gwt4 (List.mem_of_getElem? (i := 90) rfl) (by decide +kernel)
theorem jd_J6_getChars_ba4f3 : yJ6_getChars_ba4f3.cls ≠ "java/lang/invoke/MethodHandle" ∧ yJ6_getChars_ba4f3.cls ≠ "java/lang/invoke/VarHandle" ∧ (parseMethodDescriptor yJ6_getChars_ba4f3.desc).map (fun d => d.parameters.length) = some 3 := ⟨by decide, by decide, by decide +kernel⟩
theorem jw825 : Cond.code yJ5_append_c97b9 cJ5_append_c97b9 4 (some (.object "java/lang/AbstractStringBuilder")) ∈ gw := gwt4 (List.mem_of_getElem? (i := 85) rfl) (by decide +kernel)
theorem jw823 : Cond.methodLink "java/lang/StringBuilder" 53 yJ5_append_c97b9 ∈ gw := gwt4 (List.mem_of_getElem? (i := 83) rfl) (by decide +kernel)
theorem jw1481 : Cond.sameMethod yJ5_append_c97b9.cls yJ5_append_c97b9.cls yJ5_append_c97b9.name yJ5_append_c97b9.desc ∈ gw := gwt7 (List.mem_of_getElem? (i := 21) rfl) (by decide +kernel)
theorem jw824 : Cond.instanceMethod yJ5_append_c97b9 ∈ gw := gwt4 (List.mem_of_getElem? (i := 84) rfl) (by decide +kernel)
theorem js_J5_append_c97b9 : yJ5_append_c97b9.name ≠ "<init>" ∧ (parseMethodDescriptor yJ5_append_c97b9.desc).map (fun d => d.parameters.length) = some 1 := ⟨by decide, by decide +kernel⟩
theorem jw234 : Cond.fieldLink "java/lang/AbstractStringBuilder" 73 "java/lang/AbstractStringBuilder" "maybeLatin1" "Z" ∈ gw := gwt1 (List.mem_of_getElem? (i := 214) rfl) (by decide +kernel)
theorem jw692 : Cond.code yJ5_setLength_d00df cJ5_setLength_d00df 2 none ∈ gw := gwt3 (List.mem_of_getElem? (i := 192) rfl) (by decide +kernel)
theorem jw690 : Cond.methodLink "java/lang/StringBuilder" 333 yJ5_setLength_d00df ∈ gw := gwt3 (List.mem_of_getElem? (i := 190) rfl) (by decide +kernel)
theorem jw1473 : Cond.sameMethod yJ5_setLength_d00df.cls yJ5_setLength_d00df.cls yJ5_setLength_d00df.name yJ5_setLength_d00df.desc ∈ gw := gwt7 (List.mem_of_getElem? (i := 13) rfl) (by decide +kernel)
theorem jw691 : Cond.instanceMethod yJ5_setLength_d00df ∈ gw := gwt3 (List.mem_of_getElem? (i := 191) rfl) (by decide +kernel)
theorem js_J5_setLength_d00df : yJ5_setLength_d00df.name ≠ "<init>" ∧ (parseMethodDescriptor yJ5_setLength_d00df.desc).map (fun d => d.parameters.length) = some 1 := ⟨by decide, by decide +kernel⟩
theorem jw868 : Cond.code yJ5_length_8abf5 cJ5_length_8abf5 1 (some .int) ∈ gw := gwt4 (List.mem_of_getElem? (i := 128) rfl) (by decide +kernel)
theorem jw867 : Cond.methodLink "java/lang/StringBuilder" 343 yJ5_length_8abf5 ∈ gw := gwt4 (List.mem_of_getElem? (i := 127) rfl) (by decide +kernel)
theorem jw863 : Cond.sameMethod yJ5_length_8abf5.cls yJ5_length_8abf5.cls yJ5_length_8abf5.name yJ5_length_8abf5.desc ∈ gw := gwt4 (List.mem_of_getElem? (i := 123) rfl) (by decide +kernel)
theorem jw862 : Cond.instanceMethod yJ5_length_8abf5 ∈ gw := gwt4 (List.mem_of_getElem? (i := 122) rfl) (by decide +kernel)
theorem js_J5_length_8abf5 : yJ5_length_8abf5.name ≠ "<init>" ∧ (parseMethodDescriptor yJ5_length_8abf5.desc).map (fun d => d.parameters.length) = some 0 := ⟨by decide, by decide +kernel⟩
theorem jw762 : Cond.fieldLink "java/lang/String" 1053 "jdk/internal/util/Preconditions" "SIOOBE_FORMATTER" "Ljava/util/function/BiFunction;" ∈ gw := gwt4 (List.mem_of_getElem? (i := 22) rfl) (by decide +kernel)
theorem jw963 : Cond.code yJ3_checkIndex_8e157 cJ3_checkIndex_8e157 3 (some .int) ∈ gw := gwt4 (List.mem_of_getElem? (i := 223) rfl) (by decide +kernel)
theorem jw46 : Cond.initialized yJ3_checkIndex_8e157.cls ∈ gw := gwt1 (List.mem_of_getElem? (i := 26) rfl) (by decide +kernel)
theorem jw961 : Cond.methodLink "java/lang/String" 1059 yJ3_checkIndex_8e157 ∈ gw := gwt4 (List.mem_of_getElem? (i := 221) rfl) (by decide +kernel)
theorem jw962 : Cond.static yJ3_checkIndex_8e157 ∈ gw := gwt4 (List.mem_of_getElem? (i := 222) rfl) (by decide +kernel)
theorem jd_J3_checkIndex_8e157 : yJ3_checkIndex_8e157.cls ≠ "java/lang/invoke/MethodHandle" ∧ yJ3_checkIndex_8e157.cls ≠ "java/lang/invoke/VarHandle" ∧ (parseMethodDescriptor yJ3_checkIndex_8e157.desc).map (fun d => d.parameters.length) = some 3 := ⟨by decide, by decide, by decide +kernel⟩
theorem jw986 : Cond.methodLink "java/lang/AbstractStringBuilder" 138 Lib.Math.min.name ∈ gw := gwt5 (List.mem_of_getElem? (i := 6) rfl) (by decide +kernel)
theorem jw960 : Cond.code yJ0_checkIndex_df160 cJ0_checkIndex_df160 2 none ∈ gw := gwt4 (List.mem_of_getElem? (i := 220) rfl) (by decide +kernel)
theorem jw29 : Cond.initialized yJ0_checkIndex_df160.cls ∈ gw := gwt1 (List.mem_of_getElem? (i := 9) rfl) (by decide +kernel)
theorem jw987 : Cond.methodLink "java/lang/AbstractStringBuilder" 144 yJ0_checkIndex_df160 ∈ gw := gwt5 (List.mem_of_getElem? (i := 7) rfl) (by decide +kernel)
theorem jw959 : Cond.static yJ0_checkIndex_df160 ∈ gw := gwt4 (List.mem_of_getElem? (i := 219) rfl) (by decide +kernel)
theorem jd_J0_checkIndex_df160 : yJ0_checkIndex_df160.cls ≠ "java/lang/invoke/MethodHandle" ∧ yJ0_checkIndex_df160.cls ≠ "java/lang/invoke/VarHandle" ∧ (parseMethodDescriptor yJ0_checkIndex_df160.desc).map (fun d => d.parameters.length) = some 2 := ⟨by decide, by decide, by decide +kernel⟩
theorem jw985 : Cond.code yJ5_charAt_5068e cJ5_charAt_5068e 5 (some .char) ∈ gw := gwt5 (List.mem_of_getElem? (i := 5) rfl) (by decide +kernel)
theorem jw983 : Cond.methodLink "java/lang/StringBuilder" 329 yJ5_charAt_5068e ∈ gw := gwt5 (List.mem_of_getElem? (i := 3) rfl) (by decide +kernel)
theorem jw1484 : Cond.sameMethod yJ5_charAt_5068e.cls yJ5_charAt_5068e.cls yJ5_charAt_5068e.name yJ5_charAt_5068e.desc ∈ gw := gwt7 (List.mem_of_getElem? (i := 24) rfl) (by decide +kernel)
theorem jw984 : Cond.instanceMethod yJ5_charAt_5068e ∈ gw := gwt5 (List.mem_of_getElem? (i := 4) rfl) (by decide +kernel)
theorem js_J5_charAt_5068e : yJ5_charAt_5068e.name ≠ "<init>" ∧ (parseMethodDescriptor yJ5_charAt_5068e.desc).map (fun d => d.parameters.length) = some 1 := ⟨by decide, by decide +kernel⟩
theorem jw784 : Cond.fieldLink "java/lang/String" 38 "java/lang/String" "COMPACT_STRINGS" "Z" ∈ gw := gwt4 (List.mem_of_getElem? (i := 44) rfl) (by decide +kernel)
theorem jw900 : Cond.fieldLink "java/lang/String" 9 "java/lang/String" "value" "[B" ∈ gw := gwt4 (List.mem_of_getElem? (i := 160) rfl) (by decide +kernel)
theorem jw901 : Cond.fieldLink "java/lang/String" 15 "java/lang/String" "coder" "B" ∈ gw := gwt4 (List.mem_of_getElem? (i := 161) rfl) (by decide +kernel)
theorem jw783 : Cond.code yJ0_coder_7d493 cJ0_coder_7d493 1 (some .byte) ∈ gw := gwt4 (List.mem_of_getElem? (i := 43) rfl) (by decide +kernel)
theorem jw780 : Cond.methodLink "java/lang/String" 335 yJ0_coder_7d493 ∈ gw := gwt4 (List.mem_of_getElem? (i := 40) rfl) (by decide +kernel)
theorem jw781 : Cond.instanceMethod yJ0_coder_7d493 ∈ gw := gwt4 (List.mem_of_getElem? (i := 41) rfl) (by decide +kernel)
theorem jw782 : Cond.selects "java/lang/String" yJ0_coder_7d493 yJ0_coder_7d493 ∈ gw := gwt4 (List.mem_of_getElem? (i := 42) rfl) (by decide +kernel)
theorem jd_J0_coder_7d493 : yJ0_coder_7d493.cls ≠ "java/lang/invoke/MethodHandle" ∧ yJ0_coder_7d493.cls ≠ "java/lang/invoke/VarHandle" ∧ (parseMethodDescriptor yJ0_coder_7d493.desc).map (fun d => d.parameters.length) = some 0 := ⟨by decide, by decide, by decide +kernel⟩
theorem jw1135 : Cond.methodLink "java/lang/StringLatin1" 9 yJ0_checkIndex_df160 ∈ gw := gwt5 (List.mem_of_getElem? (i := 155) rfl) (by decide +kernel)
theorem jw1131 : Cond.code yJ0_isLatin1_aae02 cJ0_isLatin1_aae02 1 (some .boolean) ∈ gw := gwt5 (List.mem_of_getElem? (i := 151) rfl) (by decide +kernel)
theorem jw1128 : Cond.methodLink "java/lang/String" 492 yJ0_isLatin1_aae02 ∈ gw := gwt5 (List.mem_of_getElem? (i := 148) rfl) (by decide +kernel)
theorem jw1129 : Cond.instanceMethod yJ0_isLatin1_aae02 ∈ gw := gwt5 (List.mem_of_getElem? (i := 149) rfl) (by decide +kernel)
theorem jw1130 : Cond.selects "java/lang/String" yJ0_isLatin1_aae02 yJ0_isLatin1_aae02 ∈ gw := gwt5 (List.mem_of_getElem? (i := 150) rfl) (by decide +kernel)
theorem jd_J0_isLatin1_aae02 : yJ0_isLatin1_aae02.cls ≠ "java/lang/invoke/MethodHandle" ∧ yJ0_isLatin1_aae02.cls ≠ "java/lang/invoke/VarHandle" ∧ (parseMethodDescriptor yJ0_isLatin1_aae02.desc).map (fun d => d.parameters.length) = some 0 := ⟨by decide, by decide, by decide +kernel⟩
theorem jw1134 : Cond.code yJ1_charAt_3b067 cJ1_charAt_3b067 2 (some .char) ∈ gw := gwt5 (List.mem_of_getElem? (i := 154) rfl) (by decide +kernel)
theorem jw1132 : Cond.methodLink "java/lang/String" 495 yJ1_charAt_3b067 ∈ gw := gwt5 (List.mem_of_getElem? (i := 152) rfl) (by decide +kernel)
theorem jw1133 : Cond.static yJ1_charAt_3b067 ∈ gw := gwt5 (List.mem_of_getElem? (i := 153) rfl) (by decide +kernel)
theorem jd_J1_charAt_3b067 : yJ1_charAt_3b067.cls ≠ "java/lang/invoke/MethodHandle" ∧ yJ1_charAt_3b067.cls ≠ "java/lang/invoke/VarHandle" ∧ (parseMethodDescriptor yJ1_charAt_3b067.desc).map (fun d => d.parameters.length) = some 2 := ⟨by decide, by decide, by decide +kernel⟩
theorem jw866 : Cond.code yJ4_length_8abf5 cJ4_length_8abf5 1 (some .int) ∈ gw := gwt4 (List.mem_of_getElem? (i := 126) rfl) (by decide +kernel)
theorem jw28 : Cond.initialized yJ4_length_8abf5.cls ∈ gw := gwt1 (List.mem_of_getElem? (i := 8) rfl) (by decide +kernel)
theorem jw865 : Cond.instanceMethod yJ4_length_8abf5 ∈ gw := gwt4 (List.mem_of_getElem? (i := 125) rfl) (by decide +kernel)
theorem jw1483 : Cond.selects "java/lang/StringBuilder" yJ4_length_8abf5 yJ4_length_8abf5 ∈ gw := gwt7 (List.mem_of_getElem? (i := 23) rfl) (by decide +kernel)
theorem jd_J4_length_8abf5 : yJ4_length_8abf5.cls ≠ "java/lang/invoke/MethodHandle" ∧ yJ4_length_8abf5.cls ≠ "java/lang/invoke/VarHandle" ∧ (parseMethodDescriptor yJ4_length_8abf5.desc).map (fun d => d.parameters.length) = some 0 := ⟨by decide, by decide, by decide +kernel⟩
theorem jw982 : Cond.code yJ4_charAt_5068e cJ4_charAt_5068e 2 (some .char) ∈ gw := gwt5 (List.mem_of_getElem? (i := 2) rfl) (by decide +kernel)
theorem jw980 : Cond.instanceMethod yJ4_charAt_5068e ∈ gw := gwt5 (List.mem_of_getElem? (i := 0) rfl) (by decide +kernel)
theorem jw981 : Cond.selects "java/lang/StringBuilder" yJ4_charAt_5068e yJ4_charAt_5068e ∈ gw := gwt5 (List.mem_of_getElem? (i := 1) rfl) (by decide +kernel)
theorem jd_J4_charAt_5068e : yJ4_charAt_5068e.cls ≠ "java/lang/invoke/MethodHandle" ∧ yJ4_charAt_5068e.cls ≠ "java/lang/invoke/VarHandle" ∧ (parseMethodDescriptor yJ4_charAt_5068e.desc).map (fun d => d.parameters.length) = some 1 := ⟨by decide, by decide, by decide +kernel⟩
theorem jw945 : Cond.code yJ4_append_cf468 cJ4_append_cf468 2 (some (.object "java/lang/StringBuilder")) ∈ gw := gwt4 (List.mem_of_getElem? (i := 205) rfl) (by decide +kernel)
theorem jw943 : Cond.instanceMethod yJ4_append_cf468 ∈ gw := gwt4 (List.mem_of_getElem? (i := 203) rfl) (by decide +kernel)
theorem jw944 : Cond.selects "java/lang/StringBuilder" yJ4_append_cf468 yJ4_append_cf468 ∈ gw := gwt4 (List.mem_of_getElem? (i := 204) rfl) (by decide +kernel)
theorem jd_J4_append_cf468 : yJ4_append_cf468.cls ≠ "java/lang/invoke/MethodHandle" ∧ yJ4_append_cf468.cls ≠ "java/lang/invoke/VarHandle" ∧ (parseMethodDescriptor yJ4_append_cf468.desc).map (fun d => d.parameters.length) = some 1 := ⟨by decide, by decide, by decide +kernel⟩
theorem jw822 : Cond.code yJ4_append_bf812 cJ4_append_bf812 2 (some (.object "java/lang/StringBuilder")) ∈ gw := gwt4 (List.mem_of_getElem? (i := 82) rfl) (by decide +kernel)
theorem jw820 : Cond.instanceMethod yJ4_append_bf812 ∈ gw := gwt4 (List.mem_of_getElem? (i := 80) rfl) (by decide +kernel)
theorem jw821 : Cond.selects "java/lang/StringBuilder" yJ4_append_bf812 yJ4_append_bf812 ∈ gw := gwt4 (List.mem_of_getElem? (i := 81) rfl) (by decide +kernel)
theorem jd_J4_append_bf812 : yJ4_append_bf812.cls ≠ "java/lang/invoke/MethodHandle" ∧ yJ4_append_bf812.cls ≠ "java/lang/invoke/VarHandle" ∧ (parseMethodDescriptor yJ4_append_bf812.desc).map (fun d => d.parameters.length) = some 1 := ⟨by decide, by decide, by decide +kernel⟩
theorem jw689 : Cond.code yJ4_setLength_d00df cJ4_setLength_d00df 2 none ∈ gw := gwt3 (List.mem_of_getElem? (i := 189) rfl) (by decide +kernel)
theorem jw687 : Cond.instanceMethod yJ4_setLength_d00df ∈ gw := gwt3 (List.mem_of_getElem? (i := 187) rfl) (by decide +kernel)
theorem jw688 : Cond.selects "java/lang/StringBuilder" yJ4_setLength_d00df yJ4_setLength_d00df ∈ gw := gwt3 (List.mem_of_getElem? (i := 188) rfl) (by decide +kernel)
theorem jd_J4_setLength_d00df : yJ4_setLength_d00df.cls ≠ "java/lang/invoke/MethodHandle" ∧ yJ4_setLength_d00df.cls ≠ "java/lang/invoke/VarHandle" ∧ (parseMethodDescriptor yJ4_setLength_d00df.desc).map (fun d => d.parameters.length) = some 1 := ⟨by decide, by decide, by decide +kernel⟩
theorem jw779 : Cond.code yJ0_length_8abf5 cJ0_length_8abf5 1 (some .int) ∈ gw := gwt4 (List.mem_of_getElem? (i := 39) rfl) (by decide +kernel)
theorem jw777 : Cond.instanceMethod yJ0_length_8abf5 ∈ gw := gwt4 (List.mem_of_getElem? (i := 37) rfl) (by decide +kernel)
theorem jw778 : Cond.selects "java/lang/String" yJ0_length_8abf5 yJ0_length_8abf5 ∈ gw := gwt4 (List.mem_of_getElem? (i := 38) rfl) (by decide +kernel)
theorem jd_J0_length_8abf5 : yJ0_length_8abf5.cls ≠ "java/lang/invoke/MethodHandle" ∧ yJ0_length_8abf5.cls ≠ "java/lang/invoke/VarHandle" ∧ (parseMethodDescriptor yJ0_length_8abf5.desc).map (fun d => d.parameters.length) = some 0 := ⟨by decide, by decide, by decide +kernel⟩
theorem jw1127 : Cond.code yJ0_charAt_5068e cJ0_charAt_5068e 2 (some .char) ∈ gw := gwt5 (List.mem_of_getElem? (i := 147) rfl) (by decide +kernel)
theorem jw1125 : Cond.instanceMethod yJ0_charAt_5068e ∈ gw := gwt5 (List.mem_of_getElem? (i := 145) rfl) (by decide +kernel)
theorem jw1126 : Cond.selects "java/lang/String" yJ0_charAt_5068e yJ0_charAt_5068e ∈ gw := gwt5 (List.mem_of_getElem? (i := 146) rfl) (by decide +kernel)
theorem jd_J0_charAt_5068e : yJ0_charAt_5068e.cls ≠ "java/lang/invoke/MethodHandle" ∧ yJ0_charAt_5068e.cls ≠ "java/lang/invoke/VarHandle" ∧ (parseMethodDescriptor yJ0_charAt_5068e.desc).map (fun d => d.parameters.length) = some 1 := ⟨by decide, by decide, by decide +kernel⟩
set_option maxHeartbeats 4000000 in
set_option maxRecDepth 20000 in
theorem kc_newLength (l : Launch) (V : Vx) (adV : Nat → Nat) {a b c : Nat} (h : a + max b c ≤ 200000) (h0 : 0 < c) : KC l yJ8_newLength_cabcc (.code yJ8_newLength_cabcc cJ8_newLength_cabcc 4 (some .int)) 1 30 0 0 [.int (nI a), .int (nI b), .int (nI c)] V adV [] (fun r w => r = some (.int (nI (a + max b c))) ∧ w = []) := by
  refine kc_of (by decide) (Nat.le_of_ble_eq_true rfl) (fun X A hxl hC hJ hr => ?_)
  subst hxl
  refine jx_lv (lv1 := [(0, .int (nI a)), (1, .int (nI b)), (2, .int (nI c))]) rfl ?_
  refine jx_iload_n hC dJ8_newLength_cabcc_0 rfl 0 rfl ?_
  refine jx_iload_n hC dJ8_newLength_cabcc_1 rfl 1 rfl ?_
  refine jx_iload_n hC dJ8_newLength_cabcc_2 rfl 2 rfl ?_
  refine jx_mmax (a := b) (b := c) hC jw723 jw724 jw40 jw725 (Nat.le_of_ble_eq_true rfl) (Nat.le_of_ble_eq_true rfl) (by first | (dsimp only; omega) | omega) (by first | (dsimp only; omega) | omega) (by omega) (by omega) dJ8_newLength_cabcc_3 ?_
  refine jx_iadd (v := nI (a + max b c)) hC dJ8_newLength_cabcc_6 (nI_add _ _) ?_
  refine jx_istore_n hC dJ8_newLength_cabcc_7 rfl (by decide) (lv1 := [(3, .int (nI (a + max b c))), (0, .int (nI a)), (1, .int (nI b)), (2, .int (nI c))]) rfl ?_
  refine jx_iconst (v := 0) hC dJ8_newLength_cabcc_8 (by decide) ?_
  refine jx_iload_n hC dJ8_newLength_cabcc_9 rfl 0 rfl ?_
  refine jx_geF hC 21 dJ8_newLength_cabcc_10 (by decide) (nI_nle (by omega) (by omega)) ?_
  refine jx_iload_n hC dJ8_newLength_cabcc_13 rfl 0 rfl ?_
  refine jx_ldc (v := 2147483639) hC jw726 dJ8_newLength_cabcc_14 ?_
  refine jx_gtF hC 21 dJ8_newLength_cabcc_16 (by decide) (fun z => absurd ((nI_ltI (a := 2147483639) (by decide) (by omega)).mp z) (by omega)) ?_
  refine jx_iload_n hC dJ8_newLength_cabcc_19 rfl 0 rfl ?_
  exact jx_iret hC hr ⟨rfl, rfl⟩ (Nat.le_refl _) (Nat.le_refl _) dJ8_newLength_cabcc_20
set_option maxHeartbeats 4000000 in
set_option maxRecDepth 20000 in
theorem kc_newCapacity (l : Launch) (V : Vx) (adV : Nat → Nat) {b v n m q : Nat} {z : Int32} {a : Nat → Int32} (h : m < q) (hq : q ≤ 40000) : KC l yJ5_newCapacity_0f7a4 (.code yJ5_newCapacity_0f7a4 cJ5_newCapacity_0f7a4 6 (some .int)) 2 60 0 0 [.ref b, .int (nI q)] V adV [(b, .inr (0, [.ref v, .int 0, .int z, .int (nI n)])), (v, .inl (V.2.1 3, (m, .inl a)))] (fun r w => r = some (.int (nI (grown m q))) ∧ w = [(b, .inr (0, [.ref v, .int 0, .int z, .int (nI n)])), (v, .inl (V.2.1 3, (m, .inl a)))]) := by
  refine kc_of (by decide) (Nat.le_of_ble_eq_true rfl) (fun X A hxl hC hJ hr => ?_)
  subst hxl
  refine jx_lv (lv1 := [(0, .ref b), (1, .int (nI q))]) rfl ?_
  refine jx_aload_n hC dJ5_newCapacity_0f7a4_0 rfl 0 rfl ?_
  refine jx_getf (ci := 0) hC jinJ4 0 rfl rfl 0 (by decide) jw232 rfl dJ5_newCapacity_0f7a4_1 ?_
  refine jx_alen hC 1 3 rfl rfl rfl dJ5_newCapacity_0f7a4_4 ?_
  refine jx_istore_n hC dJ5_newCapacity_0f7a4_5 rfl (by decide) (lv1 := [(2, .int (nI m)), (0, .ref b), (1, .int (nI q))]) rfl ?_
  refine jx_iload_n hC dJ5_newCapacity_0f7a4_6 rfl 2 rfl ?_
  refine jx_aload_n hC dJ5_newCapacity_0f7a4_7 rfl 1 rfl ?_
  refine jx_getf (ci := 0) hC jinJ4 0 rfl rfl 1 (by decide) jw233 rfl dJ5_newCapacity_0f7a4_8 ?_
  refine jx_ishl (v := nI q) hC dJ5_newCapacity_0f7a4_11 (sb_shl0 _) ?_
  refine jx_istore_n hC dJ5_newCapacity_0f7a4_12 rfl (by decide) (lv1 := [(3, .int (nI q)), (2, .int (nI m)), (0, .ref b), (1, .int (nI q))]) rfl ?_
  refine jx_iload_n hC dJ5_newCapacity_0f7a4_13 rfl 0 rfl ?_
  refine jx_iload_n hC dJ5_newCapacity_0f7a4_14 rfl 1 rfl ?_
  refine jx_isub (v := nI (q - m)) hC dJ5_newCapacity_0f7a4_15 (pk_sub (by omega)) ?_
  refine jx_istore hC dJ5_newCapacity_0f7a4_16 (by decide) (lv1 := [(4, .int (nI (q - m))), (3, .int (nI q)), (2, .int (nI m)), (0, .ref b), (1, .int (nI q))]) rfl ?_
  refine jx_iload_n hC dJ5_newCapacity_0f7a4_18 rfl 2 rfl ?_
  refine jx_iload hC dJ5_newCapacity_0f7a4_19 0 rfl ?_
  refine jx_iload_n hC dJ5_newCapacity_0f7a4_21 rfl 2 rfl ?_
  refine jx_iconst (v := 2) hC dJ5_newCapacity_0f7a4_22 (by decide) ?_
  refine jx_aload_n hC dJ5_newCapacity_0f7a4_23 rfl 3 rfl ?_
  refine jx_getf (ci := 0) hC jinJ4 0 rfl rfl 1 (by decide) jw233 rfl dJ5_newCapacity_0f7a4_24 ?_
  refine jx_ishl (v := 2) hC dJ5_newCapacity_0f7a4_27 (sb_shl0 _) ?_
  refine jx_iadd (v := nI (m + 2)) hC dJ5_newCapacity_0f7a4_28 (nI_add m 2) ?_
  refine jx_callS (rest := []) (wr := [(b, .inr (0, [.ref v, .int 0, .int z, .int (nI n)])), (v, .inl (V.2.1 3, (m, .inl a)))]) hC hJ (kc_newLength (a := m) (b := q - m) (c := m + 2) (xl X) V adV (by omega) (by omega)) jw722 jw43 jw720 jw721 jd_J8_newLength_cabcc (Nat.le_of_ble_eq_true rfl) (Nat.le_of_ble_eq_true rfl) (Nat.le_of_ble_eq_true rfl) (by first | (dsimp only; omega) | omega | decide) (by first | (dsimp only; omega) | omega | decide) [] [0, 1] rfl rfl rfl rfl (by decide) rfl dJ5_newCapacity_0f7a4_29 (fun r1 w1 hp => ?_)
  obtain ⟨rfl, rfl⟩ := hp
  refine jx_ws (ws1 := [(b, .inr (0, [.ref v, .int 0, .int z, .int (nI n)])), (v, .inl (V.2.1 3, (m, .inl a)))]) rfl ?_
  refine jx_istore hC dJ5_newCapacity_0f7a4_32 (by decide) (lv1 := [(5, .int (nI (grown m q))), (4, .int (nI (q - m))), (3, .int (nI q)), (2, .int (nI m)), (0, .ref b), (1, .int (nI q))]) rfl ?_
  refine jx_iload hC dJ5_newCapacity_0f7a4_34 0 rfl ?_
  have hg : grown m q ≤ 100000 := by unfold grown; omega
  refine jx_ldc (v := 2147483647) hC jw730 dJ5_newCapacity_0f7a4_36 ?_
  refine jx_neT hC 51 dJ5_newCapacity_0f7a4_38 (by decide) (fun z => absurd ((nI_eq (b := 2147483647) (by omega) (by decide)).mp z) (by omega)) ?_
  refine jx_iload hC dJ5_newCapacity_0f7a4_51 0 rfl ?_
  refine jx_aload_n hC dJ5_newCapacity_0f7a4_53 rfl 4 rfl ?_
  refine jx_getf (ci := 0) hC jinJ4 0 rfl rfl 1 (by decide) jw233 rfl dJ5_newCapacity_0f7a4_54 ?_
  refine jx_ishr (v := nI (grown m q)) hC dJ5_newCapacity_0f7a4_57 (sb_shr0 _) ?_
  exact jx_iret hC hr ⟨rfl, rfl⟩ (Nat.le_refl _) (Nat.le_refl _) dJ5_newCapacity_0f7a4_58
set_option maxHeartbeats 4000000 in
set_option maxRecDepth 20000 in
theorem kc_copyOf (l : Launch) (V : Vx) (adV : Nat → Nat) {v m q : Nat} {a : Nat → Int32} (h : m < q) (hq : q ≤ 100000) (hf : sb_Fit a) : KC l yJ7_copyOf_9075b (.code yJ7_copyOf_9075b cJ7_copyOf_9075b 3 (some (.array .byte))) 1 70 1 q [.ref v, .int (nI q)] V adV [(v, .inl (V.2.1 3, (m, .inl a)))] (fun r w => ∃ (u : Nat) (g : Nat → Int32), r = some (.ref u) ∧ w = [(v, .inl (V.2.1 3, (m, .inl a))), (u, .inl (V.2.1 3, (q, .inl g)))] ∧ (∀ j, j < m → g j = a j) ∧ sb_Fit g) := by
  refine kc_of (by decide) (Nat.le_of_ble_eq_true rfl) (fun X A hxl hC hJ hr => ?_)
  subst hxl
  refine jx_lv (lv1 := [(0, .ref v), (1, .int (nI q))]) rfl ?_
  refine jx_iload_n hC dJ7_copyOf_9075b_0 rfl 1 rfl ?_
  refine jx_aload_n hC dJ7_copyOf_9075b_1 rfl 0 rfl ?_
  refine jx_alen hC 0 3 rfl rfl rfl dJ7_copyOf_9075b_2 ?_
  refine jx_neT hC 14 dJ7_copyOf_9075b_3 (by decide) (fun z => absurd ((nI_eq (by omega) (by omega)).mp z) (by omega)) ?_
  refine jx_iload_n hC dJ7_copyOf_9075b_14 rfl 1 rfl ?_
  refine jx_newb (N := q) hC jw246 (nI_pos (by omega)) (nI_clamp (by omega)) (by show q * 1 ≤ _; omega) (Nat.le_of_ble_eq_true rfl) (by show 0 + q ≤ q; omega) dJ7_copyOf_9075b_15 (fun u => ?_)
  refine jx_astore_n hC dJ7_copyOf_9075b_17 rfl (by decide) (lv1 := [(2, .ref u), (0, .ref v), (1, .int (nI q))]) rfl ?_
  refine jx_aload_n hC dJ7_copyOf_9075b_18 rfl 1 rfl ?_
  refine jx_iconst (v := 0) hC dJ7_copyOf_9075b_19 (by decide) ?_
  refine jx_aload_n hC dJ7_copyOf_9075b_20 rfl 0 rfl ?_
  refine jx_iconst (v := 0) hC dJ7_copyOf_9075b_21 (by decide) ?_
  refine jx_aload_n hC dJ7_copyOf_9075b_22 rfl 1 rfl ?_
  refine jx_alen hC 0 3 rfl rfl rfl dJ7_copyOf_9075b_23 ?_
  refine jx_iload_n hC dJ7_copyOf_9075b_24 rfl 2 rfl ?_
  refine jx_mmin (a := m) (b := q) hC jw741 jw535 jw40 jw536 (Nat.le_of_ble_eq_true rfl) (Nat.le_of_ble_eq_true rfl) (by first | (dsimp only; omega) | omega) (by first | (dsimp only; omega) | omega) (by omega) (by omega) dJ7_copyOf_9075b_25 ?_
  refine jx_ws (ws1 := [(v, .inl (V.2.1 3, (m, .inl a))), (u, .inl (V.2.1 3, (q, .inl (fun _ => 0))))]) rfl ?_
  rw [show min m q = m from by omega]
  refine jx_copy (q0 := 0) (q1 := 1) (n := nI m) (sp := 0) (dp := 0) hC jw742 jw744 jw743 jw45 rfl rfl (by decide) (by decide) (nI_pos (by omega)) (by rw [sb_cl0, nI_clamp (by omega)]; omega) (by rw [sb_cl0, nI_clamp (by omega)]; omega) (fun i _ => hf _) (Nat.le_of_ble_eq_true rfl) (Nat.le_of_ble_eq_true rfl) dJ7_copyOf_9075b_28 ?_
  refine jx_ws (ws1 := [(v, .inl (V.2.1 3, (m, .inl a))), (u, .inl (V.2.1 3, (q, .inl (va_cpy a (fun _ => 0) 0 0 m))))]) (by rw [sb_cl0, nI_clamp (by omega)]; rfl) ?_
  refine jx_aload_n hC dJ7_copyOf_9075b_31 rfl 0 rfl ?_
  exact jx_aret hC hr (Or.inr ⟨_, rfl⟩) ⟨u, va_cpy a (fun _ => 0) 0 0 m, rfl, rfl, fun j hj => sb_cpy0 hj, sb_fitC hf sb_fit0⟩ (by decide) (by show 0 + q + 0 ≤ q; omega) dJ7_copyOf_9075b_32
/-- a builder's array behind ensureCapacityInternal q, and what it makes -/
def jcap (q m : Nat) : Nat := if q ≤ m then m else grown m q
def jmc (q m : Nat) : Nat := if q ≤ m then 0 else 1
def jms (q m : Nat) : Nat := if q ≤ m then 0 else grown m q
theorem jcap_in {q m : Nat} (hq : q ≤ 40000) (hm : m ≤ 65536) : q ≤ jcap q m ∧ jcap q m ≤ 100000 := by
  unfold jcap grown
  split <;> omega
set_option maxHeartbeats 4000000 in
set_option maxRecDepth 20000 in
theorem kc_ensure (l : Launch) (V : Vx) (adV : Nat → Nat) {b v n m q : Nat} {z : Int32} {a : Nat → Int32} (hm : m ≤ 65536) (hq : q ≤ 40000) (hf : sb_Fit a) : KC l yJ5_ensureCapacityInternal_d00df (.code yJ5_ensureCapacityInternal_d00df cJ5_ensureCapacityInternal_d00df 3 none) 3 110 (jmc q m) (jms q m) [.ref b, .int (nI q)] V adV [(b, .inr (0, [.ref v, .int 0, .int z, .int (nI n)])), (v, .inl (V.2.1 3, (m, .inl a)))] (fun r w => r = none ∧ ∃ (u : Nat) (g : Nat → Int32), w = [(b, .inr (0, [.ref u, .int 0, .int z, .int (nI n)])), (u, .inl (V.2.1 3, (jcap q m, .inl g)))] ∧ (∀ j, j < m → g j = a j) ∧ sb_Fit g) := by
  refine kc_of (by decide) (Nat.le_of_ble_eq_true rfl) (fun X A hxl hC hJ hr => ?_)
  subst hxl
  refine jx_lv (lv1 := [(0, .ref b), (1, .int (nI q))]) rfl ?_
  refine jx_aload_n hC dJ5_ensureCapacityInternal_d00df_0 rfl 0 rfl ?_
  refine jx_getf (ci := 0) hC jinJ4 0 rfl rfl 0 (by decide) jw232 rfl dJ5_ensureCapacityInternal_d00df_1 ?_
  refine jx_alen hC 1 3 rfl rfl rfl dJ5_ensureCapacityInternal_d00df_4 ?_
  refine jx_aload_n hC dJ5_ensureCapacityInternal_d00df_5 rfl 0 rfl ?_
  refine jx_getf (ci := 0) hC jinJ4 0 rfl rfl 1 (by decide) jw233 rfl dJ5_ensureCapacityInternal_d00df_6 ?_
  refine jx_ishr (v := nI m) hC dJ5_ensureCapacityInternal_d00df_9 (sb_shr0 _) ?_
  refine jx_istore_n hC dJ5_ensureCapacityInternal_d00df_10 rfl (by decide) (lv1 := [(2, .int (nI m)), (0, .ref b), (1, .int (nI q))]) rfl ?_
  refine jx_iload_n hC dJ5_ensureCapacityInternal_d00df_11 rfl 2 rfl ?_
  refine jx_iload_n hC dJ5_ensureCapacityInternal_d00df_12 rfl 0 rfl ?_
  by_cases h : q ≤ m
  · have e : jcap q m = m := if_pos h
    refine jx_isub (v := nI q - nI m) hC dJ5_ensureCapacityInternal_d00df_13 rfl ?_
    refine jx_zleT hC 38 dJ5_ensureCapacityInternal_d00df_14 (by decide) (by
        by_cases h2 : q = m
        · subst h2; rw [pk_sub (Nat.le_refl _), Nat.sub_self]; decide
        · exact Int32.le_of_lt (pk_sneg (by omega) (by omega))) ?_
    exact jx_vret hC hr ⟨rfl, v, a, by rw [e], fun _ _ => rfl, hf⟩ (Nat.zero_le _) (Nat.zero_le _) dJ5_ensureCapacityInternal_d00df_38
  · have e : jcap q m = grown m q := if_neg h
    have e1 : jmc q m = 1 := if_neg h
    have e2 : jms q m = grown m q := if_neg h
    have hg : m < grown m q ∧ grown m q ≤ 100000 := by unfold grown; omega
    rw [e1, e2]
    refine jx_isub (v := nI (q - m)) hC dJ5_ensureCapacityInternal_d00df_13 (pk_sub (by omega)) ?_
    refine jx_zleF hC 38 dJ5_ensureCapacityInternal_d00df_14 (by decide) (nI_nle (by omega) (by omega)) ?_
    refine jx_aload_n hC dJ5_ensureCapacityInternal_d00df_17 rfl 1 rfl ?_
    refine jx_aload_n hC dJ5_ensureCapacityInternal_d00df_18 rfl 1 rfl ?_
    refine jx_getf (ci := 0) hC jinJ4 0 rfl rfl 0 (by decide) jw232 rfl dJ5_ensureCapacityInternal_d00df_19 ?_
    refine jx_aload_n hC dJ5_ensureCapacityInternal_d00df_22 rfl 1 rfl ?_
    refine jx_iload_n hC dJ5_ensureCapacityInternal_d00df_23 rfl 2 rfl ?_
    refine jx_callU (ci := 0) (q0 := 0) (rest := [.ref v, .ref b]) (wr := []) hC hJ (kc_newCapacity (q := q) (xl X) V adV (by omega) (by omega)) rfl rfl jw719 jw27 jw716 jw1477 jw718 jse_J5_newCapacity_0f7a4 jd_J5_newCapacity_0f7a4 (Nat.le_of_ble_eq_true rfl) (Nat.le_of_ble_eq_true rfl) (Nat.le_of_ble_eq_true rfl) (by first | (dsimp only; omega) | omega | decide) (by first | (dsimp only; omega) | omega | decide) [0, 1] [] rfl rfl rfl rfl (by decide) rfl dJ5_ensureCapacityInternal_d00df_24 (fun r1 w1 hp => ?_)
    obtain ⟨rfl, rfl⟩ := hp
    refine jx_ws (ws1 := [(b, .inr (0, [.ref v, .int 0, .int z, .int (nI n)])), (v, .inl (V.2.1 3, (m, .inl a)))]) rfl ?_
    refine jx_aload_n hC dJ5_ensureCapacityInternal_d00df_27 rfl 1 rfl ?_
    refine jx_getf (ci := 0) hC jinJ4 0 rfl rfl 1 (by decide) jw233 rfl dJ5_ensureCapacityInternal_d00df_28 ?_
    refine jx_ishl (v := nI (grown m q)) hC dJ5_ensureCapacityInternal_d00df_31 (sb_shl0 _) ?_
    refine jx_callS (rest := [.ref b]) (wr := [(b, .inr (0, [.ref v, .int 0, .int z, .int (nI n)]))]) hC hJ (kc_copyOf (q := grown m q) (xl X) V adV hg.1 hg.2 hf) jw733 jw44 jw731 jw732 jd_J7_copyOf_9075b (Nat.le_of_ble_eq_true rfl) (Nat.le_of_ble_eq_true rfl) (Nat.le_of_ble_eq_true rfl) (by first | (dsimp only; omega) | omega | decide) (by first | (dsimp only; omega) | omega | decide) [1] [0] rfl rfl rfl rfl (by decide) rfl dJ5_ensureCapacityInternal_d00df_32 (fun r1 w1 hp => ?_)
    obtain ⟨u, g, rfl, rfl, hg1, hg2⟩ := hp
    refine jx_put (ci := 0) hC jinJ4 tyJ4 tyJ4_ok nmJ4 0 rfl rfl 0 (by decide) jw232 rfl rfl rfl (Nat.le_of_ble_eq_true rfl) dJ5_ensureCapacityInternal_d00df_35 ?_
    refine jx_ws (ws1 := [(b, .inr (0, [.ref u, .int 0, .int z, .int (nI n)])), (v, .inl (V.2.1 3, (m, .inl a))), (u, .inl (V.2.1 3, (grown m q, .inl g)))]) rfl ?_
    refine jx_sub [0, 2] (ws1 := [(b, .inr (0, [.ref u, .int 0, .int z, .int (nI n)])), (u, .inl (V.2.1 3, (grown m q, .inl g)))]) rfl rfl ?_
    exact jx_vret hC hr ⟨rfl, u, g, by rw [e], hg1, hg2⟩ (by decide) (by show 0 + 0 + grown m q ≤ grown m q; omega) dJ5_ensureCapacityInternal_d00df_38
set_option maxHeartbeats 4000000 in
set_option maxRecDepth 20000 in
theorem kc_isLatin1 (l : Launch) (V : Vx) (adV : Nat → Nat) {b v n m : Nat} {z : Int32} {a : Nat → Int32}  : KC l yJ5_isLatin1_aae02 (.code yJ5_isLatin1_aae02 cJ5_isLatin1_aae02 1 (some .boolean)) 0 0 0 0 [.ref b] V adV [(b, .inr (0, [.ref v, .int 0, .int z, .int (nI n)])), (v, .inl (V.2.1 3, (m, .inl a)))] (fun r w => r = some (.int 1) ∧ w = [(b, .inr (0, [.ref v, .int 0, .int z, .int (nI n)])), (v, .inl (V.2.1 3, (m, .inl a)))]) := by
  refine kc_of (by decide) (Nat.le_of_ble_eq_true rfl) (fun X A hxl hC hJ hr => ?_)
  subst hxl
  refine jx_lv (lv1 := [(0, .ref b)]) rfl ?_
  refine jx_gets hC hJ.2.1 jw223 dJ5_isLatin1_aae02_0 ?_
  refine jx_zeqF hC 17 dJ5_isLatin1_aae02_3 (by decide) (by decide) ?_
  refine jx_aload_n hC dJ5_isLatin1_aae02_6 rfl 0 rfl ?_
  refine jx_getf (ci := 0) hC jinJ4 0 rfl rfl 1 (by decide) jw233 rfl dJ5_isLatin1_aae02_7 ?_
  refine jx_zneF hC 17 dJ5_isLatin1_aae02_10 (by decide) rfl ?_
  refine jx_iconst (v := 1) hC dJ5_isLatin1_aae02_13 (by decide) ?_
  refine jx_goto hC 18 dJ5_isLatin1_aae02_14 (by decide) ?_
  exact jx_zret hC hr rfl ⟨rfl, rfl⟩ (Nat.le_refl _) (Nat.le_refl _) dJ5_isLatin1_aae02_18
set_option maxHeartbeats 4000000 in
set_option maxRecDepth 20000 in
theorem kc_canEncode (l : Launch) (V : Vx) (adV : Nat → Nat) {c : Nat} (hc : c < 256) : KC l yJ1_canEncode_fc78d (.code yJ1_canEncode_fc78d cJ1_canEncode_fc78d 1 (some .boolean)) 0 0 0 0 [.int (nI c)] V adV [] (fun r w => r = some (.int 1) ∧ w = []) := by
  refine kc_of (by decide) (Nat.le_of_ble_eq_true rfl) (fun X A hxl hC hJ hr => ?_)
  subst hxl
  refine jx_lv (lv1 := [(0, .int (nI c))]) rfl ?_
  refine jx_iload_n hC dJ1_canEncode_fc78d_0 rfl 0 rfl ?_
  refine jx_sipush (v := 255) hC dJ1_canEncode_fc78d_1 (by decide) ?_
  refine jx_gtF hC 11 dJ1_canEncode_fc78d_4 (by decide) (fun z => absurd ((nI_ltI (a := 255) (by decide) (by omega)).mp z) (by omega)) ?_
  refine jx_iconst (v := 1) hC dJ1_canEncode_fc78d_7 (by decide) ?_
  refine jx_goto hC 12 dJ1_canEncode_fc78d_8 (by decide) ?_
  exact jx_zret hC hr rfl ⟨rfl, rfl⟩ (Nat.le_refl _) (Nat.le_refl _) dJ1_canEncode_fc78d_12
theorem nar_sb (c : Nat) : vp_nar .byte (sb_b c) = sb_b c := by
  show (sb_b c).toInt8.toInt32 = sb_b c
  unfold sb_b
  simp
set_option maxHeartbeats 4000000 in
set_option maxRecDepth 20000 in
theorem kc_appC5 (l : Launch) (V : Vx) (adV : Nat → Nat) {b v n m c : Nat} {z : Int32} {a : Nat → Int32} (hnm : n ≤ m) (hn : n ≤ 30000) (hm : m ≤ 65536) (hf : sb_Fit a) (hc : c < 256) : KC l yJ5_append_3fe6f (.code yJ5_append_3fe6f cJ5_append_3fe6f 2 (some (.object "java/lang/AbstractStringBuilder"))) 4 140 (jmc (n + 1) m) (jms (n + 1) m) [.ref b, .int (nI c)] V adV [(b, .inr (0, [.ref v, .int 0, .int z, .int (nI n)])), (v, .inl (V.2.1 3, (m, .inl a)))] (fun r w => ∃ (u : Nat) (g : Nat → Int32), r = some (.ref b) ∧ w = [(b, .inr (0, [.ref u, .int 0, .int z, .int (nI (n + 1))])), (u, .inl (V.2.1 3, (jcap (n + 1) m, .inl g)))] ∧ (∀ j, j < n → g j = a j) ∧ g n = sb_b c ∧ sb_Fit g) := by
  refine kc_of (by decide) (Nat.le_of_ble_eq_true rfl) (fun X A hxl hC hJ hr => ?_)
  subst hxl
  refine jx_lv (lv1 := [(0, .ref b), (1, .int (nI c))]) rfl ?_
  have hcap := jcap_in (q := n + 1) (m := m) (by omega) hm
  refine jx_aload_n hC dJ5_append_3fe6f_0 rfl 0 rfl ?_
  refine jx_aload_n hC dJ5_append_3fe6f_1 rfl 0 rfl ?_
  refine jx_getf (ci := 0) hC jinJ4 0 rfl rfl 3 (by decide) jw236 rfl dJ5_append_3fe6f_2 ?_
  refine jx_iconst (v := 1) hC dJ5_append_3fe6f_5 (by decide) ?_
  refine jx_iadd (v := nI (n + 1)) hC dJ5_append_3fe6f_6 (nI_1 n) ?_
  refine jx_callU (ci := 0) (q0 := 0) (rest := []) (wr := []) hC hJ (kc_ensure (q := n + 1) (xl X) V adV hm (by omega) hf) rfl rfl jw715 jw27 jw712 jw1476 jw714 jse_J5_ensureCapacityInternal_d00df jd_J5_ensureCapacityInternal_d00df (Nat.le_of_ble_eq_true rfl) (Nat.le_of_ble_eq_true rfl) (Nat.le_of_ble_eq_true rfl) (by first | (dsimp only; omega) | omega | decide) (by first | (dsimp only; omega) | omega | decide) [0, 1] [] rfl rfl rfl rfl (by decide) rfl dJ5_append_3fe6f_7 (fun r1 w1 hp => ?_)
  obtain ⟨rfl, u, g, rfl, hg1, hg2⟩ := hp
  refine jx_ws (ws1 := [(b, .inr (0, [.ref u, .int 0, .int z, .int (nI n)])), (u, .inl (V.2.1 3, (jcap (n + 1) m, .inl g)))]) rfl ?_
  refine jx_aload_n hC dJ5_append_3fe6f_10 rfl 0 rfl ?_
  refine jx_callU (ci := 0) (q0 := 0) (rest := []) (wr := []) hC hJ (kc_isLatin1 (xl X) V adV) rfl rfl jw749 jw27 jw745 jw747 jw746 jw748 jd_J5_isLatin1_aae02 (Nat.le_of_ble_eq_true rfl) (Nat.le_of_ble_eq_true rfl) (Nat.le_of_ble_eq_true rfl) (by first | (dsimp only; omega) | omega | decide) (by first | (dsimp only; omega) | omega | decide) [0, 1] [] rfl rfl rfl rfl (by decide) rfl dJ5_append_3fe6f_11 (fun r1 w1 hp => ?_)
  obtain ⟨rfl, rfl⟩ := hp
  refine jx_ws (ws1 := [(b, .inr (0, [.ref u, .int 0, .int z, .int (nI n)])), (u, .inl (V.2.1 3, (jcap (n + 1) m, .inl g)))]) rfl ?_
  refine jx_zeqF hC 45 dJ5_append_3fe6f_14 (by decide) (by decide) ?_
  refine jx_iload_n hC dJ5_append_3fe6f_17 rfl 1 rfl ?_
  refine jx_callS (rest := []) (wr := [(b, .inr (0, [.ref u, .int 0, .int z, .int (nI n)])), (u, .inl (V.2.1 3, (jcap (n + 1) m, .inl g)))]) hC hJ (kc_canEncode (xl X) V adV hc) jw951 jw47 jw949 jw950 jd_J1_canEncode_fc78d (Nat.le_of_ble_eq_true rfl) (Nat.le_of_ble_eq_true rfl) (Nat.le_of_ble_eq_true rfl) (by first | (dsimp only; omega) | omega | decide) (by first | (dsimp only; omega) | omega | decide) [] [0, 1] rfl rfl rfl rfl (by decide) rfl dJ5_append_3fe6f_18 (fun r1 w1 hp => ?_)
  obtain ⟨rfl, rfl⟩ := hp
  refine jx_ws (ws1 := [(b, .inr (0, [.ref u, .int 0, .int z, .int (nI n)])), (u, .inl (V.2.1 3, (jcap (n + 1) m, .inl g)))]) rfl ?_
  refine jx_zeqF hC 45 dJ5_append_3fe6f_21 (by decide) (by decide) ?_
  refine jx_aload_n hC dJ5_append_3fe6f_24 rfl 0 rfl ?_
  refine jx_getf (ci := 0) hC jinJ4 0 rfl rfl 0 (by decide) jw232 rfl dJ5_append_3fe6f_25 ?_
  refine jx_aload_n hC dJ5_append_3fe6f_28 rfl 0 rfl ?_
  refine jx_dup hC dJ5_append_3fe6f_29 rfl ?_
  refine jx_getf (ci := 0) hC jinJ4 0 rfl rfl 3 (by decide) jw236 rfl dJ5_append_3fe6f_30 ?_
  refine jx_dup_x1 hC dJ5_append_3fe6f_33 rfl rfl ?_
  refine jx_iconst (v := 1) hC dJ5_append_3fe6f_34 (by decide) ?_
  refine jx_iadd (v := nI (n + 1)) hC dJ5_append_3fe6f_35 (nI_1 n) ?_
  refine jx_put (ci := 0) hC jinJ4 tyJ4 tyJ4_ok nmJ4 0 rfl rfl 3 (by decide) jw236 rfl rfl rfl (Nat.le_of_ble_eq_true rfl) dJ5_append_3fe6f_36 ?_
  refine jx_ws (ws1 := [(b, .inr (0, [.ref u, .int 0, .int z, .int (nI (n + 1))])), (u, .inl (V.2.1 3, (jcap (n + 1) m, .inl g)))]) rfl ?_
  refine jx_iload_n hC dJ5_append_3fe6f_39 rfl 1 rfl ?_
  refine jx_i2b (v := sb_b c) hC dJ5_append_3fe6f_40 rfl ?_
  refine jx_bast (g := upd g n (sb_b c)) hC 1 rfl (vp_in_nI (by omega) (by omega)) (by rw [nI_clamp (by omega), nar_sb]) dJ5_append_3fe6f_41 ?_
  refine jx_ws (ws1 := [(b, .inr (0, [.ref u, .int 0, .int z, .int (nI (n + 1))])), (u, .inl (V.2.1 3, (jcap (n + 1) m, .inl (upd g n (sb_b c)))))]) rfl ?_
  refine jx_goto hC 75 dJ5_append_3fe6f_42 (by decide) ?_
  refine jx_aload_n hC dJ5_append_3fe6f_75 rfl 0 rfl ?_
  exact jx_aret hC hr (Or.inl ⟨_, rfl⟩) ⟨u, upd g n (sb_b c), rfl, rfl, fun j hj => by rw [pk_un (by omega)]; exact hg1 j (by omega), pk_us, sb_fitU hg2 (sb_fitB c)⟩ (by omega) (by omega) dJ5_append_3fe6f_76
set_option maxHeartbeats 4000000 in
set_option maxRecDepth 20000 in
theorem kc_appC (l : Launch) (V : Vx) (adV : Nat → Nat) {b v n m c : Nat} {z : Int32} {a : Nat → Int32} (hnm : n ≤ m) (hn : n ≤ 30000) (hm : m ≤ 65536) (hf : sb_Fit a) (hc : c < 256) : KC l yJ4_append_cf468 (.code yJ4_append_cf468 cJ4_append_cf468 2 (some (.object "java/lang/StringBuilder"))) 5 170 (jmc (n + 1) m) (jms (n + 1) m) [.ref b, .int (nI c)] V adV [(b, .inr (0, [.ref v, .int 0, .int z, .int (nI n)])), (v, .inl (V.2.1 3, (m, .inl a)))] (fun r w => ∃ (u : Nat) (g : Nat → Int32), r = some (.ref b) ∧ w = [(b, .inr (0, [.ref u, .int 0, .int z, .int (nI (n + 1))])), (u, .inl (V.2.1 3, (jcap (n + 1) m, .inl g)))] ∧ (∀ j, j < n → g j = a j) ∧ g n = sb_b c ∧ sb_Fit g) := by
  refine kc_of (by decide) (Nat.le_of_ble_eq_true rfl) (fun X A hxl hC hJ hr => ?_)
  subst hxl
  refine jx_lv (lv1 := [(0, .ref b), (1, .int (nI c))]) rfl ?_
  refine jx_aload_n hC dJ4_append_cf468_0 rfl 0 rfl ?_
  refine jx_iload_n hC dJ4_append_cf468_1 rfl 1 rfl ?_
  refine jx_callSU (ci := 0) (q0 := 0) (rest := []) (wr := []) hC hJ (kc_appC5 (xl X) V adV hnm hn hm hf hc) rfl rfl jw948 jw27 jw946 jw1482 jw245 jw947 js_J5_append_3fe6f (Nat.le_of_ble_eq_true rfl) (Nat.le_of_ble_eq_true rfl) (Nat.le_of_ble_eq_true rfl) (by first | (dsimp only; omega) | omega | decide) (by first | (dsimp only; omega) | omega | decide) [0, 1] [] rfl rfl rfl rfl (by decide) rfl dJ4_append_cf468_2 (fun r1 w1 hp => ?_)
  obtain ⟨u, g, rfl, rfl, hg⟩ := hp
  refine jx_pop hC dJ4_append_cf468_5 rfl ?_
  refine jx_aload_n hC dJ4_append_cf468_6 rfl 0 rfl ?_
  exact jx_aret hC hr (Or.inl ⟨_, rfl⟩) ⟨u, g, rfl, rfl, hg⟩ (by first | (dsimp only; omega) | omega) (by first | (dsimp only; omega) | omega) dJ4_append_cf468_7
set_option maxHeartbeats 4000000 in
set_option maxRecDepth 20000 in
theorem kc_stringSize (l : Launch) (V : Vx) (adV : Nat → Nat) {v : Nat} (hv : v < 2 ^ 31) : KC l yJ6_stringSize_0f7a4 (.code yJ6_stringSize_0f7a4 cJ6_stringSize_0f7a4 4 (some .int)) 0 0 0 0 [.int (nI v)] V adV [] (fun r w => r = some (.int (nI (sb_dg v))) ∧ w = []) := by
  refine kc_of (by decide) (Nat.le_of_ble_eq_true rfl) (fun X A hxl hC hJ hr => ?_)
  subst hxl
  refine jx_lv (lv1 := [(0, .int (nI v))]) rfl ?_
  refine jx_iconst (v := 1) hC dJ6_stringSize_0f7a4_0 (by decide) ?_
  refine jx_istore_n hC dJ6_stringSize_0f7a4_1 rfl (by decide) (lv1 := [(1, .int 1), (0, .int (nI v))]) rfl ?_
  refine jx_iload_n hC dJ6_stringSize_0f7a4_2 rfl 1 rfl ?_
  refine jx_zltF hC 11 dJ6_stringSize_0f7a4_3 (by decide) (nI_pos hv) ?_
  refine jx_iconst (v := 0) hC dJ6_stringSize_0f7a4_6 (by decide) ?_
  refine jx_istore_n hC dJ6_stringSize_0f7a4_7 rfl (by decide) (lv1 := [(1, .int 0), (0, .int (nI v))]) rfl ?_
  refine jx_iload_n hC dJ6_stringSize_0f7a4_8 rfl 1 rfl ?_
  refine jx_ineg (v := -nI v) hC dJ6_stringSize_0f7a4_9 rfl ?_
  refine jx_istore_n hC dJ6_stringSize_0f7a4_10 rfl (by decide) (lv1 := [(0, .int (-nI v)), (1, .int 0)]) rfl ?_
  refine jx_bipush (v := -nI 10) hC dJ6_stringSize_0f7a4_11 (by decide) ?_
  refine jx_istore_n hC dJ6_stringSize_0f7a4_13 rfl (by decide) (lv1 := [(2, .int (-nI 10)), (0, .int (-nI v)), (1, .int 0)]) rfl ?_
  refine jx_iconst (v := nI 1) hC dJ6_stringSize_0f7a4_14 (by decide) ?_
  refine jx_istore_n hC dJ6_stringSize_0f7a4_15 rfl (by decide) (lv1 := [(3, .int (nI 1)), (2, .int (-nI 10)), (0, .int (-nI v)), (1, .int 0)]) rfl ?_
  refine jx_iload_n hC dJ6_stringSize_0f7a4_16 rfl 0 rfl ?_
  refine jx_bipush (v := nI 10) hC dJ6_stringSize_0f7a4_17 (by decide) ?_
  refine jx_geF hC 42 dJ6_stringSize_0f7a4_19 (by decide) (by decide) ?_
  refine jx_iload_n hC dJ6_stringSize_0f7a4_22 rfl 2 rfl ?_
  refine jx_iload_n hC dJ6_stringSize_0f7a4_23 rfl 1 rfl ?_
  by_cases h1 : v < 10
  · refine jx_leF hC 31 dJ6_stringSize_0f7a4_24 (by decide) (fun z => absurd ((sb_nle hv (by decide)).mp z) (by omega)) ?_
    refine jx_iload_n hC dJ6_stringSize_0f7a4_27 rfl 0 rfl ?_
    refine jx_iload_n hC dJ6_stringSize_0f7a4_28 rfl 3 rfl ?_
    refine jx_iadd (v := nI 1) hC dJ6_stringSize_0f7a4_29 (by decide) ?_
    exact jx_iret hC hr ⟨by rw [show sb_dg v = 1 from by unfold sb_dg; (repeat' split) <;> omega], rfl⟩ (Nat.le_refl _) (Nat.le_refl _) dJ6_stringSize_0f7a4_30
  refine jx_leT hC 31 dJ6_stringSize_0f7a4_24 (by decide) ((sb_nle hv (by decide)).mpr (by omega)) ?_
  refine jx_bipush (v := 10) hC dJ6_stringSize_0f7a4_31 (by decide) ?_
  refine jx_iload_n hC dJ6_stringSize_0f7a4_33 rfl 1 rfl ?_
  refine jx_imul (v := -nI 100) hC dJ6_stringSize_0f7a4_34 (by decide) ?_
  refine jx_istore_n hC dJ6_stringSize_0f7a4_35 rfl (by decide) (lv1 := [(2, .int (-nI 100)), (3, .int (nI 1)), (0, .int (-nI v)), (1, .int 0)]) rfl ?_
  refine jx_iinc hC dJ6_stringSize_0f7a4_36 1 rfl (v := (nI 2)) (by decide) (by decide) (lv1 := [(3, .int (nI 2)), (2, .int (-nI 100)), (0, .int (-nI v)), (1, .int 0)]) rfl ?_
  refine jx_goto hC 16 dJ6_stringSize_0f7a4_39 (by decide) ?_
  refine jx_iload_n hC dJ6_stringSize_0f7a4_16 rfl 0 rfl ?_
  refine jx_bipush (v := nI 10) hC dJ6_stringSize_0f7a4_17 (by decide) ?_
  refine jx_geF hC 42 dJ6_stringSize_0f7a4_19 (by decide) (by decide) ?_
  refine jx_iload_n hC dJ6_stringSize_0f7a4_22 rfl 2 rfl ?_
  refine jx_iload_n hC dJ6_stringSize_0f7a4_23 rfl 1 rfl ?_
  by_cases h2 : v < 100
  · refine jx_leF hC 31 dJ6_stringSize_0f7a4_24 (by decide) (fun z => absurd ((sb_nle hv (by decide)).mp z) (by omega)) ?_
    refine jx_iload_n hC dJ6_stringSize_0f7a4_27 rfl 0 rfl ?_
    refine jx_iload_n hC dJ6_stringSize_0f7a4_28 rfl 3 rfl ?_
    refine jx_iadd (v := nI 2) hC dJ6_stringSize_0f7a4_29 (by decide) ?_
    exact jx_iret hC hr ⟨by rw [show sb_dg v = 2 from by unfold sb_dg; (repeat' split) <;> omega], rfl⟩ (Nat.le_refl _) (Nat.le_refl _) dJ6_stringSize_0f7a4_30
  refine jx_leT hC 31 dJ6_stringSize_0f7a4_24 (by decide) ((sb_nle hv (by decide)).mpr (by omega)) ?_
  refine jx_bipush (v := 10) hC dJ6_stringSize_0f7a4_31 (by decide) ?_
  refine jx_iload_n hC dJ6_stringSize_0f7a4_33 rfl 1 rfl ?_
  refine jx_imul (v := -nI 1000) hC dJ6_stringSize_0f7a4_34 (by decide) ?_
  refine jx_istore_n hC dJ6_stringSize_0f7a4_35 rfl (by decide) (lv1 := [(2, .int (-nI 1000)), (3, .int (nI 2)), (0, .int (-nI v)), (1, .int 0)]) rfl ?_
  refine jx_iinc hC dJ6_stringSize_0f7a4_36 1 rfl (v := (nI 3)) (by decide) (by decide) (lv1 := [(3, .int (nI 3)), (2, .int (-nI 1000)), (0, .int (-nI v)), (1, .int 0)]) rfl ?_
  refine jx_goto hC 16 dJ6_stringSize_0f7a4_39 (by decide) ?_
  refine jx_iload_n hC dJ6_stringSize_0f7a4_16 rfl 0 rfl ?_
  refine jx_bipush (v := nI 10) hC dJ6_stringSize_0f7a4_17 (by decide) ?_
  refine jx_geF hC 42 dJ6_stringSize_0f7a4_19 (by decide) (by decide) ?_
  refine jx_iload_n hC dJ6_stringSize_0f7a4_22 rfl 2 rfl ?_
  refine jx_iload_n hC dJ6_stringSize_0f7a4_23 rfl 1 rfl ?_
  by_cases h3 : v < 1000
  · refine jx_leF hC 31 dJ6_stringSize_0f7a4_24 (by decide) (fun z => absurd ((sb_nle hv (by decide)).mp z) (by omega)) ?_
    refine jx_iload_n hC dJ6_stringSize_0f7a4_27 rfl 0 rfl ?_
    refine jx_iload_n hC dJ6_stringSize_0f7a4_28 rfl 3 rfl ?_
    refine jx_iadd (v := nI 3) hC dJ6_stringSize_0f7a4_29 (by decide) ?_
    exact jx_iret hC hr ⟨by rw [show sb_dg v = 3 from by unfold sb_dg; (repeat' split) <;> omega], rfl⟩ (Nat.le_refl _) (Nat.le_refl _) dJ6_stringSize_0f7a4_30
  refine jx_leT hC 31 dJ6_stringSize_0f7a4_24 (by decide) ((sb_nle hv (by decide)).mpr (by omega)) ?_
  refine jx_bipush (v := 10) hC dJ6_stringSize_0f7a4_31 (by decide) ?_
  refine jx_iload_n hC dJ6_stringSize_0f7a4_33 rfl 1 rfl ?_
  refine jx_imul (v := -nI 10000) hC dJ6_stringSize_0f7a4_34 (by decide) ?_
  refine jx_istore_n hC dJ6_stringSize_0f7a4_35 rfl (by decide) (lv1 := [(2, .int (-nI 10000)), (3, .int (nI 3)), (0, .int (-nI v)), (1, .int 0)]) rfl ?_
  refine jx_iinc hC dJ6_stringSize_0f7a4_36 1 rfl (v := (nI 4)) (by decide) (by decide) (lv1 := [(3, .int (nI 4)), (2, .int (-nI 10000)), (0, .int (-nI v)), (1, .int 0)]) rfl ?_
  refine jx_goto hC 16 dJ6_stringSize_0f7a4_39 (by decide) ?_
  refine jx_iload_n hC dJ6_stringSize_0f7a4_16 rfl 0 rfl ?_
  refine jx_bipush (v := nI 10) hC dJ6_stringSize_0f7a4_17 (by decide) ?_
  refine jx_geF hC 42 dJ6_stringSize_0f7a4_19 (by decide) (by decide) ?_
  refine jx_iload_n hC dJ6_stringSize_0f7a4_22 rfl 2 rfl ?_
  refine jx_iload_n hC dJ6_stringSize_0f7a4_23 rfl 1 rfl ?_
  by_cases h4 : v < 10000
  · refine jx_leF hC 31 dJ6_stringSize_0f7a4_24 (by decide) (fun z => absurd ((sb_nle hv (by decide)).mp z) (by omega)) ?_
    refine jx_iload_n hC dJ6_stringSize_0f7a4_27 rfl 0 rfl ?_
    refine jx_iload_n hC dJ6_stringSize_0f7a4_28 rfl 3 rfl ?_
    refine jx_iadd (v := nI 4) hC dJ6_stringSize_0f7a4_29 (by decide) ?_
    exact jx_iret hC hr ⟨by rw [show sb_dg v = 4 from by unfold sb_dg; (repeat' split) <;> omega], rfl⟩ (Nat.le_refl _) (Nat.le_refl _) dJ6_stringSize_0f7a4_30
  refine jx_leT hC 31 dJ6_stringSize_0f7a4_24 (by decide) ((sb_nle hv (by decide)).mpr (by omega)) ?_
  refine jx_bipush (v := 10) hC dJ6_stringSize_0f7a4_31 (by decide) ?_
  refine jx_iload_n hC dJ6_stringSize_0f7a4_33 rfl 1 rfl ?_
  refine jx_imul (v := -nI 100000) hC dJ6_stringSize_0f7a4_34 (by decide) ?_
  refine jx_istore_n hC dJ6_stringSize_0f7a4_35 rfl (by decide) (lv1 := [(2, .int (-nI 100000)), (3, .int (nI 4)), (0, .int (-nI v)), (1, .int 0)]) rfl ?_
  refine jx_iinc hC dJ6_stringSize_0f7a4_36 1 rfl (v := (nI 5)) (by decide) (by decide) (lv1 := [(3, .int (nI 5)), (2, .int (-nI 100000)), (0, .int (-nI v)), (1, .int 0)]) rfl ?_
  refine jx_goto hC 16 dJ6_stringSize_0f7a4_39 (by decide) ?_
  refine jx_iload_n hC dJ6_stringSize_0f7a4_16 rfl 0 rfl ?_
  refine jx_bipush (v := nI 10) hC dJ6_stringSize_0f7a4_17 (by decide) ?_
  refine jx_geF hC 42 dJ6_stringSize_0f7a4_19 (by decide) (by decide) ?_
  refine jx_iload_n hC dJ6_stringSize_0f7a4_22 rfl 2 rfl ?_
  refine jx_iload_n hC dJ6_stringSize_0f7a4_23 rfl 1 rfl ?_
  by_cases h5 : v < 100000
  · refine jx_leF hC 31 dJ6_stringSize_0f7a4_24 (by decide) (fun z => absurd ((sb_nle hv (by decide)).mp z) (by omega)) ?_
    refine jx_iload_n hC dJ6_stringSize_0f7a4_27 rfl 0 rfl ?_
    refine jx_iload_n hC dJ6_stringSize_0f7a4_28 rfl 3 rfl ?_
    refine jx_iadd (v := nI 5) hC dJ6_stringSize_0f7a4_29 (by decide) ?_
    exact jx_iret hC hr ⟨by rw [show sb_dg v = 5 from by unfold sb_dg; (repeat' split) <;> omega], rfl⟩ (Nat.le_refl _) (Nat.le_refl _) dJ6_stringSize_0f7a4_30
  refine jx_leT hC 31 dJ6_stringSize_0f7a4_24 (by decide) ((sb_nle hv (by decide)).mpr (by omega)) ?_
  refine jx_bipush (v := 10) hC dJ6_stringSize_0f7a4_31 (by decide) ?_
  refine jx_iload_n hC dJ6_stringSize_0f7a4_33 rfl 1 rfl ?_
  refine jx_imul (v := -nI 1000000) hC dJ6_stringSize_0f7a4_34 (by decide) ?_
  refine jx_istore_n hC dJ6_stringSize_0f7a4_35 rfl (by decide) (lv1 := [(2, .int (-nI 1000000)), (3, .int (nI 5)), (0, .int (-nI v)), (1, .int 0)]) rfl ?_
  refine jx_iinc hC dJ6_stringSize_0f7a4_36 1 rfl (v := (nI 6)) (by decide) (by decide) (lv1 := [(3, .int (nI 6)), (2, .int (-nI 1000000)), (0, .int (-nI v)), (1, .int 0)]) rfl ?_
  refine jx_goto hC 16 dJ6_stringSize_0f7a4_39 (by decide) ?_
  refine jx_iload_n hC dJ6_stringSize_0f7a4_16 rfl 0 rfl ?_
  refine jx_bipush (v := nI 10) hC dJ6_stringSize_0f7a4_17 (by decide) ?_
  refine jx_geF hC 42 dJ6_stringSize_0f7a4_19 (by decide) (by decide) ?_
  refine jx_iload_n hC dJ6_stringSize_0f7a4_22 rfl 2 rfl ?_
  refine jx_iload_n hC dJ6_stringSize_0f7a4_23 rfl 1 rfl ?_
  by_cases h6 : v < 1000000
  · refine jx_leF hC 31 dJ6_stringSize_0f7a4_24 (by decide) (fun z => absurd ((sb_nle hv (by decide)).mp z) (by omega)) ?_
    refine jx_iload_n hC dJ6_stringSize_0f7a4_27 rfl 0 rfl ?_
    refine jx_iload_n hC dJ6_stringSize_0f7a4_28 rfl 3 rfl ?_
    refine jx_iadd (v := nI 6) hC dJ6_stringSize_0f7a4_29 (by decide) ?_
    exact jx_iret hC hr ⟨by rw [show sb_dg v = 6 from by unfold sb_dg; (repeat' split) <;> omega], rfl⟩ (Nat.le_refl _) (Nat.le_refl _) dJ6_stringSize_0f7a4_30
  refine jx_leT hC 31 dJ6_stringSize_0f7a4_24 (by decide) ((sb_nle hv (by decide)).mpr (by omega)) ?_
  refine jx_bipush (v := 10) hC dJ6_stringSize_0f7a4_31 (by decide) ?_
  refine jx_iload_n hC dJ6_stringSize_0f7a4_33 rfl 1 rfl ?_
  refine jx_imul (v := -nI 10000000) hC dJ6_stringSize_0f7a4_34 (by decide) ?_
  refine jx_istore_n hC dJ6_stringSize_0f7a4_35 rfl (by decide) (lv1 := [(2, .int (-nI 10000000)), (3, .int (nI 6)), (0, .int (-nI v)), (1, .int 0)]) rfl ?_
  refine jx_iinc hC dJ6_stringSize_0f7a4_36 1 rfl (v := (nI 7)) (by decide) (by decide) (lv1 := [(3, .int (nI 7)), (2, .int (-nI 10000000)), (0, .int (-nI v)), (1, .int 0)]) rfl ?_
  refine jx_goto hC 16 dJ6_stringSize_0f7a4_39 (by decide) ?_
  refine jx_iload_n hC dJ6_stringSize_0f7a4_16 rfl 0 rfl ?_
  refine jx_bipush (v := nI 10) hC dJ6_stringSize_0f7a4_17 (by decide) ?_
  refine jx_geF hC 42 dJ6_stringSize_0f7a4_19 (by decide) (by decide) ?_
  refine jx_iload_n hC dJ6_stringSize_0f7a4_22 rfl 2 rfl ?_
  refine jx_iload_n hC dJ6_stringSize_0f7a4_23 rfl 1 rfl ?_
  by_cases h7 : v < 10000000
  · refine jx_leF hC 31 dJ6_stringSize_0f7a4_24 (by decide) (fun z => absurd ((sb_nle hv (by decide)).mp z) (by omega)) ?_
    refine jx_iload_n hC dJ6_stringSize_0f7a4_27 rfl 0 rfl ?_
    refine jx_iload_n hC dJ6_stringSize_0f7a4_28 rfl 3 rfl ?_
    refine jx_iadd (v := nI 7) hC dJ6_stringSize_0f7a4_29 (by decide) ?_
    exact jx_iret hC hr ⟨by rw [show sb_dg v = 7 from by unfold sb_dg; (repeat' split) <;> omega], rfl⟩ (Nat.le_refl _) (Nat.le_refl _) dJ6_stringSize_0f7a4_30
  refine jx_leT hC 31 dJ6_stringSize_0f7a4_24 (by decide) ((sb_nle hv (by decide)).mpr (by omega)) ?_
  refine jx_bipush (v := 10) hC dJ6_stringSize_0f7a4_31 (by decide) ?_
  refine jx_iload_n hC dJ6_stringSize_0f7a4_33 rfl 1 rfl ?_
  refine jx_imul (v := -nI 100000000) hC dJ6_stringSize_0f7a4_34 (by decide) ?_
  refine jx_istore_n hC dJ6_stringSize_0f7a4_35 rfl (by decide) (lv1 := [(2, .int (-nI 100000000)), (3, .int (nI 7)), (0, .int (-nI v)), (1, .int 0)]) rfl ?_
  refine jx_iinc hC dJ6_stringSize_0f7a4_36 1 rfl (v := (nI 8)) (by decide) (by decide) (lv1 := [(3, .int (nI 8)), (2, .int (-nI 100000000)), (0, .int (-nI v)), (1, .int 0)]) rfl ?_
  refine jx_goto hC 16 dJ6_stringSize_0f7a4_39 (by decide) ?_
  refine jx_iload_n hC dJ6_stringSize_0f7a4_16 rfl 0 rfl ?_
  refine jx_bipush (v := nI 10) hC dJ6_stringSize_0f7a4_17 (by decide) ?_
  refine jx_geF hC 42 dJ6_stringSize_0f7a4_19 (by decide) (by decide) ?_
  refine jx_iload_n hC dJ6_stringSize_0f7a4_22 rfl 2 rfl ?_
  refine jx_iload_n hC dJ6_stringSize_0f7a4_23 rfl 1 rfl ?_
  by_cases h8 : v < 100000000
  · refine jx_leF hC 31 dJ6_stringSize_0f7a4_24 (by decide) (fun z => absurd ((sb_nle hv (by decide)).mp z) (by omega)) ?_
    refine jx_iload_n hC dJ6_stringSize_0f7a4_27 rfl 0 rfl ?_
    refine jx_iload_n hC dJ6_stringSize_0f7a4_28 rfl 3 rfl ?_
    refine jx_iadd (v := nI 8) hC dJ6_stringSize_0f7a4_29 (by decide) ?_
    exact jx_iret hC hr ⟨by rw [show sb_dg v = 8 from by unfold sb_dg; (repeat' split) <;> omega], rfl⟩ (Nat.le_refl _) (Nat.le_refl _) dJ6_stringSize_0f7a4_30
  refine jx_leT hC 31 dJ6_stringSize_0f7a4_24 (by decide) ((sb_nle hv (by decide)).mpr (by omega)) ?_
  refine jx_bipush (v := 10) hC dJ6_stringSize_0f7a4_31 (by decide) ?_
  refine jx_iload_n hC dJ6_stringSize_0f7a4_33 rfl 1 rfl ?_
  refine jx_imul (v := -nI 1000000000) hC dJ6_stringSize_0f7a4_34 (by decide) ?_
  refine jx_istore_n hC dJ6_stringSize_0f7a4_35 rfl (by decide) (lv1 := [(2, .int (-nI 1000000000)), (3, .int (nI 8)), (0, .int (-nI v)), (1, .int 0)]) rfl ?_
  refine jx_iinc hC dJ6_stringSize_0f7a4_36 1 rfl (v := (nI 9)) (by decide) (by decide) (lv1 := [(3, .int (nI 9)), (2, .int (-nI 1000000000)), (0, .int (-nI v)), (1, .int 0)]) rfl ?_
  refine jx_goto hC 16 dJ6_stringSize_0f7a4_39 (by decide) ?_
  refine jx_iload_n hC dJ6_stringSize_0f7a4_16 rfl 0 rfl ?_
  refine jx_bipush (v := nI 10) hC dJ6_stringSize_0f7a4_17 (by decide) ?_
  refine jx_geF hC 42 dJ6_stringSize_0f7a4_19 (by decide) (by decide) ?_
  refine jx_iload_n hC dJ6_stringSize_0f7a4_22 rfl 2 rfl ?_
  refine jx_iload_n hC dJ6_stringSize_0f7a4_23 rfl 1 rfl ?_
  by_cases h9 : v < 1000000000
  · refine jx_leF hC 31 dJ6_stringSize_0f7a4_24 (by decide) (fun z => absurd ((sb_nle hv (by decide)).mp z) (by omega)) ?_
    refine jx_iload_n hC dJ6_stringSize_0f7a4_27 rfl 0 rfl ?_
    refine jx_iload_n hC dJ6_stringSize_0f7a4_28 rfl 3 rfl ?_
    refine jx_iadd (v := nI 9) hC dJ6_stringSize_0f7a4_29 (by decide) ?_
    exact jx_iret hC hr ⟨by rw [show sb_dg v = 9 from by unfold sb_dg; (repeat' split) <;> omega], rfl⟩ (Nat.le_refl _) (Nat.le_refl _) dJ6_stringSize_0f7a4_30
  refine jx_leT hC 31 dJ6_stringSize_0f7a4_24 (by decide) ((sb_nle hv (by decide)).mpr (by omega)) ?_
  refine jx_bipush (v := 10) hC dJ6_stringSize_0f7a4_31 (by decide) ?_
  refine jx_iload_n hC dJ6_stringSize_0f7a4_33 rfl 1 rfl ?_
  refine jx_imul (v := 10 * -nI 1000000000) hC dJ6_stringSize_0f7a4_34 rfl ?_
  refine jx_istore_n hC dJ6_stringSize_0f7a4_35 rfl (by decide) (lv1 := [(2, .int (10 * -nI 1000000000)), (3, .int (nI 9)), (0, .int (-nI v)), (1, .int 0)]) rfl ?_
  refine jx_iinc hC dJ6_stringSize_0f7a4_36 1 rfl (v := (nI 10)) (by decide) (by decide) (lv1 := [(3, .int (nI 10)), (2, .int (10 * -nI 1000000000)), (0, .int (-nI v)), (1, .int 0)]) rfl ?_
  refine jx_goto hC 16 dJ6_stringSize_0f7a4_39 (by decide) ?_
  refine jx_iload_n hC dJ6_stringSize_0f7a4_16 rfl 0 rfl ?_
  refine jx_bipush (v := nI 10) hC dJ6_stringSize_0f7a4_17 (by decide) ?_
  refine jx_geT hC 42 dJ6_stringSize_0f7a4_19 (by decide) (by decide) ?_
  refine jx_bipush (v := nI 10) hC dJ6_stringSize_0f7a4_42 (by decide) ?_
  refine jx_iload_n hC dJ6_stringSize_0f7a4_44 rfl 3 rfl ?_
  refine jx_iadd (v := nI 10) hC dJ6_stringSize_0f7a4_45 (by decide) ?_
  exact jx_iret hC hr ⟨by rw [show sb_dg v = 10 from by unfold sb_dg; (repeat' split) <;> omega], rfl⟩ (Nat.le_refl _) (Nat.le_refl _) dJ6_stringSize_0f7a4_46
set_option maxHeartbeats 4000000 in
set_option maxRecDepth 20000 in
theorem kc_gcLoop {X : Cx} {V : Vx} {A : Nat → Prop} {R : Room} {adV : Nat → Nat} {q n m : Nat} {post : Option Value → va_W → Prop} (hC : Cok X V A RJ6 cJ6_getChars_ba4f3 7) (hJ : JW V adV A (xs X) (xs X).heap) (hr : (xh X).sig.returnType = some .int) (hm : m ≤ 100000) : ∀ (f w p : Nat) (a : Nat → Int32), w < f → w < 2 ^ 31 → p = n + sb_dg w → p ≤ m →
    (∀ g, (∀ j, j < n ∨ p ≤ j → g j = a j) → (∀ i, i < sb_dg w → g (p - 1 - i) = sb_b (48 + w / 10 ^ i % 10)) → (sb_Fit a → sb_Fit g) → post (some (.int (nI n))) [(q, .inl (V.2.1 3, (m, .inl g)))]) →
    JX X V A R 7 (MQ (xb X) (KQ V A post) (xa X) (xs X) 0 0 A) 22 [(0, .int (-nI w)), (5, .int (nI p)), (2, .ref q), (6, .int 0)] [] [(q, .inl (V.2.1 3, (m, .inl a)))] 0 0 := by
  obtain ⟨-, -, -, ⟨dO, hZO, hTO⟩, dT, hZT, hTT⟩ := hJ
  intro f
  induction f with
  | zero =>
    intro w p a h
    omega
  | succ f ih =>
    intro w p a hwf hw hp hpm hP
    have hd1 := (sb_dg_in w).1
    have e1 : -(-nI w) = nI w := Int32.neg_neg
    have ew : (nI w).toNatClampNeg = w := nI_clamp hw
    refine jx_iload_n hC dJ6_getChars_ba4f3_22 rfl 0 rfl ?_
    refine jx_bipush (v := -nI 100) hC dJ6_getChars_ba4f3_23 (by decide) ?_
    by_cases h100 : w < 100
    · refine jx_gtT hC 72 dJ6_getChars_ba4f3_25 (by decide) ((sb_nlt (by decide) hw).mpr h100) ?_
      refine jx_aload_n hC dJ6_getChars_ba4f3_72 rfl 2 rfl ?_
      refine jx_iinc hC dJ6_getChars_ba4f3_73 1 rfl (v := (nI (p - 1))) (sb_m1 (by omega)) (by decide) (lv1 := [(5, .int (nI (p - 1))), (0, .int (-nI w)), (2, .ref q), (6, .int 0)]) rfl ?_
      refine jx_iload hC dJ6_getChars_ba4f3_76 0 rfl ?_
      refine jx_gets hC hZO jw832 dJ6_getChars_ba4f3_78 ?_
      refine jx_iload_n hC dJ6_getChars_ba4f3_81 rfl 1 rfl ?_
      refine jx_ineg (v := nI w) hC dJ6_getChars_ba4f3_82 e1 ?_
      refine jx_tb (v := .int (sb_b (48 + w % 10))) hC hTO (vp_in_nI (by omega) (by decide)) (by rw [ew]) dJ6_getChars_ba4f3_83 ?_
      refine jx_bast (g := upd a (p - 1) (sb_b (48 + w % 10))) hC 0 rfl (vp_in_nI (by omega) (by omega)) (by rw [nI_clamp (by omega), nar_sb]) dJ6_getChars_ba4f3_84 ?_
      refine jx_ws (ws1 := [(q, .inl (V.2.1 3, (m, .inl (upd a (p - 1) (sb_b (48 + w % 10))))))]) rfl ?_
      refine jx_iload_n hC dJ6_getChars_ba4f3_85 rfl 1 rfl ?_
      refine jx_bipush (v := -nI 9) hC dJ6_getChars_ba4f3_86 (by decide) ?_
      by_cases h9 : w < 10
      · refine jx_geT hC 104 dJ6_getChars_ba4f3_88 (by decide) ((sb_nle (by decide) hw).mpr (by omega)) ?_
        have hd : sb_dg w = 1 := if_pos h9
        refine jx_iload hC dJ6_getChars_ba4f3_104 3 rfl ?_
        refine jx_zeqT hC 118 dJ6_getChars_ba4f3_106 (by decide) rfl ?_
        refine jx_iload hC dJ6_getChars_ba4f3_118 0 rfl ?_
        rw [show p - 1 = n from by omega]
        refine jx_iret hC hr (hP _ (fun j hj => ?_) (fun i hi => ?_) (fun hf => sb_fitU hf (sb_fitB _))) (Nat.le_refl _) (Nat.le_refl _) dJ6_getChars_ba4f3_120
        · exact pk_un (by omega)
        · obtain rfl : i = 0 := by omega
          rw [Nat.sub_zero, show p - 1 = n from by omega, pk_us, Nat.pow_zero, Nat.div_one]
      · refine jx_geF hC 104 dJ6_getChars_ba4f3_88 (by decide) (fun z => absurd ((sb_nle (by decide) hw).mp z) (by omega)) ?_
        have hd : sb_dg w = 2 := by rw [sb_dg, if_neg h9, if_pos h100]
        have d2 : w / 10 % 10 = w / 10 := by omega
        refine jx_aload_n hC dJ6_getChars_ba4f3_91 rfl 2 rfl ?_
        refine jx_iinc hC dJ6_getChars_ba4f3_92 0 rfl (v := (nI (p - 1 - 1))) (sb_m1 (by omega)) (by decide) (lv1 := [(5, .int (nI (p - 1 - 1))), (0, .int (-nI w)), (2, .ref q), (6, .int 0)]) rfl ?_
        refine jx_iload hC dJ6_getChars_ba4f3_95 0 rfl ?_
        refine jx_gets hC hZT jw834 dJ6_getChars_ba4f3_97 ?_
        refine jx_iload_n hC dJ6_getChars_ba4f3_100 rfl 1 rfl ?_
        refine jx_ineg (v := nI w) hC dJ6_getChars_ba4f3_101 e1 ?_
        refine jx_tb (v := .int (sb_b (48 + w / 10))) hC hTT (vp_in_nI (by omega) (by decide)) (by rw [ew]) dJ6_getChars_ba4f3_102 ?_
        refine jx_bast (g := upd (upd a (p - 1) (sb_b (48 + w % 10))) (p - 1 - 1) (sb_b (48 + w / 10))) hC 0 rfl (vp_in_nI (by omega) (by omega)) (by rw [nI_clamp (by omega), nar_sb]) dJ6_getChars_ba4f3_103 ?_
        refine jx_ws (ws1 := [(q, .inl (V.2.1 3, (m, .inl (upd (upd a (p - 1) (sb_b (48 + w % 10))) (p - 1 - 1) (sb_b (48 + w / 10))))))]) rfl ?_
        refine jx_iload hC dJ6_getChars_ba4f3_104 3 rfl ?_
        refine jx_zeqT hC 118 dJ6_getChars_ba4f3_106 (by decide) rfl ?_
        refine jx_iload hC dJ6_getChars_ba4f3_118 0 rfl ?_
        rw [show nI (p - 1 - 1) = nI n from congrArg nI (by omega)]
        refine jx_iret hC hr (hP _ (fun j hj => ?_) (fun i hi => ?_) (fun hf => sb_fitU (sb_fitU hf (sb_fitB _)) (sb_fitB _))) (Nat.le_refl _) (Nat.le_refl _) dJ6_getChars_ba4f3_120
        · rw [pk_un (by omega), pk_un (by omega)]
        · obtain rfl | rfl : i = 0 ∨ i = 1 := by omega
          · rw [Nat.sub_zero, pk_un (by omega), pk_us, Nat.pow_zero, Nat.div_one]
          · rw [pk_us, Nat.pow_one, d2]
    · refine jx_gtF hC 72 dJ6_getChars_ba4f3_25 (by decide) (fun z => h100 ((sb_nlt (by decide) hw).mp z)) ?_
      have hd := sb_dg100 (w := w) (by omega) hw
      have hd2 := (sb_dg_in (w / 100)).1
      have er : (nI (w % 100)).toNatClampNeg = w % 100 := nI_clamp (by omega)
      refine jx_iload_n hC dJ6_getChars_ba4f3_28 rfl 0 rfl ?_
      refine jx_bipush (v := 100) hC dJ6_getChars_ba4f3_29 (by decide) ?_
      refine jx_idiv (v := -nI (w / 100)) hC dJ6_getChars_ba4f3_31 (by decide) (sb_ndiv hw) ?_
      refine jx_istore_n hC dJ6_getChars_ba4f3_32 rfl (by decide) (lv1 := [(3, .int (-nI (w / 100))), (0, .int (-nI w)), (5, .int (nI p)), (2, .ref q), (6, .int 0)]) rfl ?_
      refine jx_iload_n hC dJ6_getChars_ba4f3_33 rfl 0 rfl ?_
      refine jx_bipush (v := 100) hC dJ6_getChars_ba4f3_34 (by decide) ?_
      refine jx_imul (v := (-nI (w / 100)) * 100) hC dJ6_getChars_ba4f3_36 rfl ?_
      refine jx_iload_n hC dJ6_getChars_ba4f3_37 rfl 1 rfl ?_
      refine jx_isub (v := nI (w % 100)) hC dJ6_getChars_ba4f3_38 (sb_nrem hw) ?_
      refine jx_istore hC dJ6_getChars_ba4f3_39 (by decide) (lv1 := [(4, .int (nI (w % 100))), (3, .int (-nI (w / 100))), (0, .int (-nI w)), (5, .int (nI p)), (2, .ref q), (6, .int 0)]) rfl ?_
      refine jx_iload_n hC dJ6_getChars_ba4f3_41 rfl 1 rfl ?_
      refine jx_istore_n hC dJ6_getChars_ba4f3_42 rfl (by decide) (lv1 := [(0, .int (-nI (w / 100))), (4, .int (nI (w % 100))), (3, .int (-nI (w / 100))), (5, .int (nI p)), (2, .ref q), (6, .int 0)]) rfl ?_
      refine jx_aload_n hC dJ6_getChars_ba4f3_43 rfl 4 rfl ?_
      refine jx_iinc hC dJ6_getChars_ba4f3_44 3 rfl (v := (nI (p - 1))) (sb_m1 (by omega)) (by decide) (lv1 := [(5, .int (nI (p - 1))), (0, .int (-nI (w / 100))), (4, .int (nI (w % 100))), (3, .int (-nI (w / 100))), (2, .ref q), (6, .int 0)]) rfl ?_
      refine jx_iload hC dJ6_getChars_ba4f3_47 0 rfl ?_
      refine jx_gets hC hZO jw832 dJ6_getChars_ba4f3_49 ?_
      refine jx_iload hC dJ6_getChars_ba4f3_52 2 rfl ?_
      refine jx_tb (v := .int (sb_b (48 + w % 10))) hC hTO (vp_in_nI (by omega) (by decide)) (by rw [er, show w % 100 % 10 = w % 10 from by omega]) dJ6_getChars_ba4f3_54 ?_
      refine jx_bast (g := upd a (p - 1) (sb_b (48 + w % 10))) hC 0 rfl (vp_in_nI (by omega) (by omega)) (by rw [nI_clamp (by omega), nar_sb]) dJ6_getChars_ba4f3_55 ?_
      refine jx_ws (ws1 := [(q, .inl (V.2.1 3, (m, .inl (upd a (p - 1) (sb_b (48 + w % 10))))))]) rfl ?_
      refine jx_aload_n hC dJ6_getChars_ba4f3_56 rfl 4 rfl ?_
      refine jx_iinc hC dJ6_getChars_ba4f3_57 0 rfl (v := (nI (p - 1 - 1))) (sb_m1 (by omega)) (by decide) (lv1 := [(5, .int (nI (p - 1 - 1))), (0, .int (-nI (w / 100))), (4, .int (nI (w % 100))), (3, .int (-nI (w / 100))), (2, .ref q), (6, .int 0)]) rfl ?_
      refine jx_iload hC dJ6_getChars_ba4f3_60 0 rfl ?_
      refine jx_gets hC hZT jw834 dJ6_getChars_ba4f3_62 ?_
      refine jx_iload hC dJ6_getChars_ba4f3_65 2 rfl ?_
      refine jx_tb (v := .int (sb_b (48 + w / 10 % 10))) hC hTT (vp_in_nI (by omega) (by decide)) (by rw [er, show w % 100 / 10 = w / 10 % 10 from by omega]) dJ6_getChars_ba4f3_67 ?_
      refine jx_bast (g := upd (upd a (p - 1) (sb_b (48 + w % 10))) (p - 1 - 1) (sb_b (48 + w / 10 % 10))) hC 0 rfl (vp_in_nI (by omega) (by omega)) (by rw [nI_clamp (by omega), nar_sb]) dJ6_getChars_ba4f3_68 ?_
      refine jx_ws (ws1 := [(q, .inl (V.2.1 3, (m, .inl (upd (upd a (p - 1) (sb_b (48 + w % 10))) (p - 1 - 1) (sb_b (48 + w / 10 % 10))))))]) rfl ?_
      refine jx_goto hC 22 dJ6_getChars_ba4f3_69 (by decide) ?_
      refine jx_lsub [1, 0, 4, 5] (lv1 := [(0, .int (-nI (w / 100))), (5, .int (nI (p - 1 - 1))), (2, .ref q), (6, .int 0)]) rfl ?_
      refine ih (w / 100) (p - 1 - 1) _ (by omega) (by omega) (by omega) (by omega) (fun g h1 h2 h3 => ?_)
      refine hP g (fun j hj => by rw [h1 j (by omega), pk_un (by omega), pk_un (by omega)]) (fun i hi => ?_) (fun hf => h3 (sb_fitU (sb_fitU hf (sb_fitB _)) (sb_fitB _)))
      match i, hi with
      | 0, _ => rw [Nat.sub_zero, h1 _ (by omega), pk_un (by omega), pk_us, Nat.pow_zero, Nat.div_one]
      | 1, _ => rw [h1 _ (by omega), pk_us, Nat.pow_one]
      | k + 2, hi =>
        rw [show p - 1 - (k + 2) = p - 1 - 1 - 1 - k by omega, h2 k (by omega), Nat.div_div_eq_div_mul, show 100 * 10 ^ k = 10 ^ (k + 2) by rw [show k + 2 = k + 1 + 1 from rfl, Nat.pow_succ, Nat.pow_succ]; omega]
set_option maxHeartbeats 4000000 in
set_option maxRecDepth 20000 in
theorem kc_getChars (l : Launch) (V : Vx) (adV : Nat → Nat) {w q n m : Nat} {a : Nat → Int32} (hw : w < 2 ^ 31) (hm : m ≤ 100000) (hp : n + sb_dg w ≤ m) (hf : sb_Fit a) : KC l yJ6_getChars_ba4f3 (.code yJ6_getChars_ba4f3 cJ6_getChars_ba4f3 7 (some .int)) 0 0 0 0 [.int (nI w), .int (nI (n + sb_dg w)), .ref q] V adV [(q, .inl (V.2.1 3, (m, .inl a)))] (fun r w1 => ∃ g : Nat → Int32, r = some (.int (nI n)) ∧ w1 = [(q, .inl (V.2.1 3, (m, .inl g)))] ∧ (∀ j, j < n → g j = a j) ∧ (∀ i, i < sb_dg w → g (n + i) = sb_b (sb_dec w i)) ∧ sb_Fit g) := by
  refine kc_of (by decide) (Nat.le_of_ble_eq_true rfl) (fun X A hxl hC hJ hr => ?_)
  subst hxl
  refine jx_lv (lv1 := [(0, .int (nI w)), (1, .int (nI (n + sb_dg w))), (2, .ref q)]) rfl ?_
  refine jx_iload_n hC dJ6_getChars_ba4f3_0 rfl 1 rfl ?_
  refine jx_istore hC dJ6_getChars_ba4f3_1 (by decide) (lv1 := [(5, .int (nI (n + sb_dg w))), (0, .int (nI w)), (1, .int (nI (n + sb_dg w))), (2, .ref q)]) rfl ?_
  refine jx_iload_n hC dJ6_getChars_ba4f3_3 rfl 1 rfl ?_
  refine jx_zgeT hC 11 dJ6_getChars_ba4f3_4 (by decide) (nI_pos' hw) ?_
  refine jx_iconst (v := 0) hC dJ6_getChars_ba4f3_11 (by decide) ?_
  refine jx_istore hC dJ6_getChars_ba4f3_12 (by decide) (lv1 := [(6, .int 0), (5, .int (nI (n + sb_dg w))), (0, .int (nI w)), (1, .int (nI (n + sb_dg w))), (2, .ref q)]) rfl ?_
  refine jx_iload hC dJ6_getChars_ba4f3_14 0 rfl ?_
  refine jx_zneF hC 22 dJ6_getChars_ba4f3_16 (by decide) rfl ?_
  refine jx_iload_n hC dJ6_getChars_ba4f3_19 rfl 2 rfl ?_
  refine jx_ineg (v := -nI w) hC dJ6_getChars_ba4f3_20 rfl ?_
  refine jx_istore_n hC dJ6_getChars_ba4f3_21 rfl (by decide) (lv1 := [(0, .int (-nI w)), (6, .int 0), (5, .int (nI (n + sb_dg w))), (1, .int (nI (n + sb_dg w))), (2, .ref q)]) rfl ?_
  refine jx_lsub [0, 2, 4, 1] (lv1 := [(0, .int (-nI w)), (5, .int (nI (n + sb_dg w))), (2, .ref q), (6, .int 0)]) rfl ?_
  have hd := sb_dg_in w
  refine kc_gcLoop (n := n) hC hJ hr hm (w + 1) w _ a (by omega) hw rfl hp (fun g h1 h2 h3 => ⟨g, rfl, rfl, fun j hj => h1 j (Or.inl hj), fun i hi => ?_, h3 hf⟩)
  have h9 := h2 (sb_dg w - 1 - i) (by omega)
  rw [show n + sb_dg w - 1 - (sb_dg w - 1 - i) = n + i by omega] at h9
  exact h9
set_option maxHeartbeats 4000000 in
set_option maxRecDepth 20000 in
theorem kc_appI5 (l : Launch) (V : Vx) (adV : Nat → Nat) {b v n m c : Nat} {z : Int32} {a : Nat → Int32} (hnm : n ≤ m) (hn : n ≤ 30000) (hm : m ≤ 65536) (hf : sb_Fit a) (hc : c < 2 ^ 31) : KC l yJ5_append_c97b9 (.code yJ5_append_c97b9 cJ5_append_c97b9 4 (some (.object "java/lang/AbstractStringBuilder"))) 4 140 (jmc (n + sb_dg c) m) (jms (n + sb_dg c) m) [.ref b, .int (nI c)] V adV [(b, .inr (0, [.ref v, .int 0, .int z, .int (nI n)])), (v, .inl (V.2.1 3, (m, .inl a)))] (fun r w => ∃ (u : Nat) (g : Nat → Int32), r = some (.ref b) ∧ w = [(b, .inr (0, [.ref u, .int 0, .int z, .int (nI (n + sb_dg c))])), (u, .inl (V.2.1 3, (jcap (n + sb_dg c) m, .inl g)))] ∧ (∀ j, j < n → g j = a j) ∧ (∀ i, i < sb_dg c → g (n + i) = sb_b (sb_dec c i)) ∧ sb_Fit g) := by
  refine kc_of (by decide) (Nat.le_of_ble_eq_true rfl) (fun X A hxl hC hJ hr => ?_)
  subst hxl
  refine jx_lv (lv1 := [(0, .ref b), (1, .int (nI c))]) rfl ?_
  have hd := sb_dg_in c
  have hcap := jcap_in (q := n + sb_dg c) (m := m) (by omega) hm
  refine jx_aload_n hC dJ5_append_c97b9_0 rfl 0 rfl ?_
  refine jx_getf (ci := 0) hC jinJ4 0 rfl rfl 3 (by decide) jw236 rfl dJ5_append_c97b9_1 ?_
  refine jx_istore_n hC dJ5_append_c97b9_4 rfl (by decide) (lv1 := [(2, .int (nI n)), (0, .ref b), (1, .int (nI c))]) rfl ?_
  refine jx_iload_n hC dJ5_append_c97b9_5 rfl 0 rfl ?_
  refine jx_iload_n hC dJ5_append_c97b9_6 rfl 2 rfl ?_
  refine jx_callS (rest := [.int (nI n)]) (wr := [(b, .inr (0, [.ref v, .int 0, .int z, .int (nI n)])), (v, .inl (V.2.1 3, (m, .inl a)))]) hC hJ (kc_stringSize (xl X) V adV hc) jw828 jw49 jw826 jw827 jd_J6_stringSize_0f7a4 (Nat.le_of_ble_eq_true rfl) (Nat.le_of_ble_eq_true rfl) (Nat.le_of_ble_eq_true rfl) (by first | (dsimp only; omega) | omega | decide) (by first | (dsimp only; omega) | omega | decide) [] [0, 1] rfl rfl rfl rfl (by decide) rfl dJ5_append_c97b9_7 (fun r1 w1 hp => ?_)
  obtain ⟨rfl, rfl⟩ := hp
  refine jx_ws (ws1 := [(b, .inr (0, [.ref v, .int 0, .int z, .int (nI n)])), (v, .inl (V.2.1 3, (m, .inl a)))]) rfl ?_
  refine jx_iadd (v := nI (n + sb_dg c)) hC dJ5_append_c97b9_10 (nI_add _ _) ?_
  refine jx_istore_n hC dJ5_append_c97b9_11 rfl (by decide) (lv1 := [(3, .int (nI (n + sb_dg c))), (2, .int (nI n)), (0, .ref b), (1, .int (nI c))]) rfl ?_
  refine jx_aload_n hC dJ5_append_c97b9_12 rfl 2 rfl ?_
  refine jx_iload_n hC dJ5_append_c97b9_13 rfl 0 rfl ?_
  refine jx_callU (ci := 0) (q0 := 0) (rest := []) (wr := []) hC hJ (kc_ensure (q := n + sb_dg c) (xl X) V adV hm (by omega) hf) rfl rfl jw715 jw27 jw712 jw1476 jw714 jse_J5_ensureCapacityInternal_d00df jd_J5_ensureCapacityInternal_d00df (Nat.le_of_ble_eq_true rfl) (Nat.le_of_ble_eq_true rfl) (Nat.le_of_ble_eq_true rfl) (by first | (dsimp only; omega) | omega | decide) (by first | (dsimp only; omega) | omega | decide) [0, 1] [] rfl rfl rfl rfl (by decide) rfl dJ5_append_c97b9_14 (fun r1 w1 hp => ?_)
  obtain ⟨rfl, u, g, rfl, hg1, hg2⟩ := hp
  refine jx_ws (ws1 := [(b, .inr (0, [.ref u, .int 0, .int z, .int (nI n)])), (u, .inl (V.2.1 3, (jcap (n + sb_dg c) m, .inl g)))]) rfl ?_
  refine jx_aload_n hC dJ5_append_c97b9_17 rfl 2 rfl ?_
  refine jx_callU (ci := 0) (q0 := 0) (rest := []) (wr := []) hC hJ (kc_isLatin1 (xl X) V adV) rfl rfl jw749 jw27 jw745 jw747 jw746 jw748 jd_J5_isLatin1_aae02 (Nat.le_of_ble_eq_true rfl) (Nat.le_of_ble_eq_true rfl) (Nat.le_of_ble_eq_true rfl) (by first | (dsimp only; omega) | omega | decide) (by first | (dsimp only; omega) | omega | decide) [0, 1] [] rfl rfl rfl rfl (by decide) rfl dJ5_append_c97b9_18 (fun r1 w1 hp => ?_)
  obtain ⟨rfl, rfl⟩ := hp
  refine jx_ws (ws1 := [(b, .inr (0, [.ref u, .int 0, .int z, .int (nI n)])), (u, .inl (V.2.1 3, (jcap (n + sb_dg c) m, .inl g)))]) rfl ?_
  refine jx_zeqF hC 37 dJ5_append_c97b9_21 (by decide) (by decide) ?_
  refine jx_iload_n hC dJ5_append_c97b9_24 rfl 3 rfl ?_
  refine jx_iload_n hC dJ5_append_c97b9_25 rfl 0 rfl ?_
  refine jx_aload_n hC dJ5_append_c97b9_26 rfl 2 rfl ?_
  refine jx_getf (ci := 0) hC jinJ4 0 rfl rfl 0 (by decide) jw232 rfl dJ5_append_c97b9_27 ?_
  refine jx_callS (rest := []) (wr := [(b, .inr (0, [.ref u, .int 0, .int z, .int (nI n)]))]) hC hJ (kc_getChars (n := n) (xl X) V adV hc hcap.2 hcap.1 hg2) jw831 jw49 jw829 jw830 jd_J6_getChars_ba4f3 (Nat.le_of_ble_eq_true rfl) (Nat.le_of_ble_eq_true rfl) (Nat.le_of_ble_eq_true rfl) (by first | (dsimp only; omega) | omega | decide) (by first | (dsimp only; omega) | omega | decide) [1] [0] rfl rfl rfl rfl (by decide) rfl dJ5_append_c97b9_30 (fun r1 w1 hp => ?_)
  obtain ⟨g2, rfl, rfl, hq1, hq2, hq3⟩ := hp
  refine jx_pop hC dJ5_append_c97b9_33 rfl ?_
  refine jx_goto hC 48 dJ5_append_c97b9_34 (by decide) ?_
  refine jx_aload_n hC dJ5_append_c97b9_48 rfl 2 rfl ?_
  refine jx_iload_n hC dJ5_append_c97b9_49 rfl 0 rfl ?_
  refine jx_put (ci := 0) hC jinJ4 tyJ4 tyJ4_ok nmJ4 0 rfl rfl 3 (by decide) jw236 rfl rfl rfl (Nat.le_of_ble_eq_true rfl) dJ5_append_c97b9_50 ?_
  refine jx_ws (ws1 := [(b, .inr (0, [.ref u, .int 0, .int z, .int (nI (n + sb_dg c))])), (u, .inl (V.2.1 3, (jcap (n + sb_dg c) m, .inl g2)))]) rfl ?_
  refine jx_aload_n hC dJ5_append_c97b9_53 rfl 2 rfl ?_
  exact jx_aret hC hr (Or.inl ⟨_, rfl⟩) ⟨u, g2, rfl, rfl, fun j hj => by rw [hq1 j hj]; exact hg1 j (by omega), hq2, hq3⟩ (by omega) (by omega) dJ5_append_c97b9_54
set_option maxHeartbeats 4000000 in
set_option maxRecDepth 20000 in
theorem kc_appI (l : Launch) (V : Vx) (adV : Nat → Nat) {b v n m c : Nat} {z : Int32} {a : Nat → Int32} (hnm : n ≤ m) (hn : n ≤ 30000) (hm : m ≤ 65536) (hf : sb_Fit a) (hc : c < 2 ^ 31) : KC l yJ4_append_bf812 (.code yJ4_append_bf812 cJ4_append_bf812 2 (some (.object "java/lang/StringBuilder"))) 5 170 (jmc (n + sb_dg c) m) (jms (n + sb_dg c) m) [.ref b, .int (nI c)] V adV [(b, .inr (0, [.ref v, .int 0, .int z, .int (nI n)])), (v, .inl (V.2.1 3, (m, .inl a)))] (fun r w => ∃ (u : Nat) (g : Nat → Int32), r = some (.ref b) ∧ w = [(b, .inr (0, [.ref u, .int 0, .int z, .int (nI (n + sb_dg c))])), (u, .inl (V.2.1 3, (jcap (n + sb_dg c) m, .inl g)))] ∧ (∀ j, j < n → g j = a j) ∧ (∀ i, i < sb_dg c → g (n + i) = sb_b (sb_dec c i)) ∧ sb_Fit g) := by
  refine kc_of (by decide) (Nat.le_of_ble_eq_true rfl) (fun X A hxl hC hJ hr => ?_)
  subst hxl
  refine jx_lv (lv1 := [(0, .ref b), (1, .int (nI c))]) rfl ?_
  refine jx_aload_n hC dJ4_append_bf812_0 rfl 0 rfl ?_
  refine jx_iload_n hC dJ4_append_bf812_1 rfl 1 rfl ?_
  refine jx_callSU (ci := 0) (q0 := 0) (rest := []) (wr := []) hC hJ (kc_appI5 (xl X) V adV hnm hn hm hf hc) rfl rfl jw825 jw27 jw823 jw1481 jw245 jw824 js_J5_append_c97b9 (Nat.le_of_ble_eq_true rfl) (Nat.le_of_ble_eq_true rfl) (Nat.le_of_ble_eq_true rfl) (by first | (dsimp only; omega) | omega | decide) (by first | (dsimp only; omega) | omega | decide) [0, 1] [] rfl rfl rfl rfl (by decide) rfl dJ4_append_bf812_2 (fun r1 w1 hp => ?_)
  obtain ⟨u, g, rfl, rfl, hg⟩ := hp
  refine jx_pop hC dJ4_append_bf812_5 rfl ?_
  refine jx_aload_n hC dJ4_append_bf812_6 rfl 0 rfl ?_
  exact jx_aret hC hr (Or.inl ⟨_, rfl⟩) ⟨u, g, rfl, rfl, hg⟩ (by first | (dsimp only; omega) | omega) (by first | (dsimp only; omega) | omega) dJ4_append_bf812_7
set_option maxHeartbeats 4000000 in
set_option maxRecDepth 20000 in
theorem kc_setL5 (l : Launch) (V : Vx) (adV : Nat → Nat) {b v n m : Nat} {z : Int32} {a : Nat → Int32} (hn : n < 2 ^ 31) (hm : m ≤ 65536) (hf : sb_Fit a) : KC l yJ5_setLength_d00df (.code yJ5_setLength_d00df cJ5_setLength_d00df 2 none) 4 140 0 0 [.ref b, .int (nI 0)] V adV [(b, .inr (0, [.ref v, .int 0, .int z, .int (nI n)])), (v, .inl (V.2.1 3, (m, .inl a)))] (fun r w => r = none ∧ ∃ (u : Nat) (z2 : Int32) (g : Nat → Int32), w = [(b, .inr (0, [.ref u, .int 0, .int z2, .int (nI 0)])), (u, .inl (V.2.1 3, (m, .inl g)))] ∧ sb_Fit g) := by
  refine kc_of (by decide) (Nat.le_of_ble_eq_true rfl) (fun X A hxl hC hJ hr => ?_)
  subst hxl
  refine jx_lv (lv1 := [(0, .ref b), (1, .int (nI 0))]) rfl ?_
  have e0 : jcap 0 m = m := if_pos (Nat.zero_le _)
  have e1 : jmc 0 m = 0 := if_pos (Nat.zero_le _)
  have e2 : jms 0 m = 0 := if_pos (Nat.zero_le _)
  have hE := kc_ensure (b := b) (v := v) (n := n) (q := 0) (z := z) (xl X) V adV hm (by omega) hf
  rw [e0, e1, e2] at hE
  refine jx_iload_n hC dJ5_setLength_d00df_0 rfl 1 rfl ?_
  refine jx_zgeT hC 13 dJ5_setLength_d00df_1 (by decide) (by decide) ?_
  refine jx_aload_n hC dJ5_setLength_d00df_13 rfl 0 rfl ?_
  refine jx_iload_n hC dJ5_setLength_d00df_14 rfl 1 rfl ?_
  refine jx_callU (ci := 0) (q0 := 0) (rest := []) (wr := []) hC hJ hE rfl rfl jw715 jw27 jw712 jw1476 jw714 jse_J5_ensureCapacityInternal_d00df jd_J5_ensureCapacityInternal_d00df (Nat.le_of_ble_eq_true rfl) (Nat.le_of_ble_eq_true rfl) (Nat.le_of_ble_eq_true rfl) (by first | (dsimp only; omega) | omega | decide) (by first | (dsimp only; omega) | omega | decide) [0, 1] [] rfl rfl rfl rfl (by decide) rfl dJ5_setLength_d00df_15 (fun r1 w1 hp => ?_)
  obtain ⟨rfl, u, g, rfl, hg1, hg2⟩ := hp
  refine jx_ws (ws1 := [(b, .inr (0, [.ref u, .int 0, .int z, .int (nI n)])), (u, .inl (V.2.1 3, (m, .inl g)))]) rfl ?_
  refine jx_aload_n hC dJ5_setLength_d00df_18 rfl 0 rfl ?_
  refine jx_getf (ci := 0) hC jinJ4 0 rfl rfl 3 (by decide) jw236 rfl dJ5_setLength_d00df_19 ?_
  refine jx_iload_n hC dJ5_setLength_d00df_22 rfl 1 rfl ?_
  refine jx_geT hC 63 dJ5_setLength_d00df_23 (by decide) (nI_pos' hn) ?_
  refine jx_aload_n hC dJ5_setLength_d00df_63 rfl 0 rfl ?_
  refine jx_getf (ci := 0) hC jinJ4 0 rfl rfl 3 (by decide) jw236 rfl dJ5_setLength_d00df_64 ?_
  refine jx_iload_n hC dJ5_setLength_d00df_67 rfl 1 rfl ?_
  by_cases h : n = 0
  · subst h
    refine jx_leT hC 76 dJ5_setLength_d00df_68 (by decide) (by decide) ?_
    refine jx_aload_n hC dJ5_setLength_d00df_76 rfl 0 rfl ?_
    refine jx_iload_n hC dJ5_setLength_d00df_77 rfl 1 rfl ?_
    refine jx_put (ci := 0) hC jinJ4 tyJ4 tyJ4_ok nmJ4 0 rfl rfl 3 (by decide) jw236 rfl rfl rfl (Nat.le_of_ble_eq_true rfl) dJ5_setLength_d00df_78 ?_
    refine jx_ws (ws1 := [(b, .inr (0, [.ref u, .int 0, .int z, .int (nI 0)])), (u, .inl (V.2.1 3, (m, .inl g)))]) rfl ?_
    exact jx_vret hC hr ⟨rfl, u, z, g, rfl, hg2⟩ (by omega) (by omega) dJ5_setLength_d00df_81
  · refine jx_leF hC 76 dJ5_setLength_d00df_68 (by decide) (nI_nle (by omega) hn) ?_
    refine jx_aload_n hC dJ5_setLength_d00df_71 rfl 0 rfl ?_
    refine jx_iconst (v := 1) hC dJ5_setLength_d00df_72 (by decide) ?_
    refine jx_put (ci := 0) hC jinJ4 tyJ4 tyJ4_ok nmJ4 0 rfl rfl 2 (by decide) jw234 rfl rfl rfl (Nat.le_of_ble_eq_true rfl) dJ5_setLength_d00df_73 ?_
    refine jx_ws (ws1 := [(b, .inr (0, [.ref u, .int 0, .int 1, .int (nI n)])), (u, .inl (V.2.1 3, (m, .inl g)))]) rfl ?_
    refine jx_aload_n hC dJ5_setLength_d00df_76 rfl 0 rfl ?_
    refine jx_iload_n hC dJ5_setLength_d00df_77 rfl 1 rfl ?_
    refine jx_put (ci := 0) hC jinJ4 tyJ4 tyJ4_ok nmJ4 0 rfl rfl 3 (by decide) jw236 rfl rfl rfl (Nat.le_of_ble_eq_true rfl) dJ5_setLength_d00df_78 ?_
    refine jx_ws (ws1 := [(b, .inr (0, [.ref u, .int 0, .int 1, .int (nI 0)])), (u, .inl (V.2.1 3, (m, .inl g)))]) rfl ?_
    exact jx_vret hC hr ⟨rfl, u, 1, g, rfl, hg2⟩ (by omega) (by omega) dJ5_setLength_d00df_81
set_option maxHeartbeats 4000000 in
set_option maxRecDepth 20000 in
theorem kc_setL (l : Launch) (V : Vx) (adV : Nat → Nat) {b v n m : Nat} {z : Int32} {a : Nat → Int32} (hn : n < 2 ^ 31) (hm : m ≤ 65536) (hf : sb_Fit a) : KC l yJ4_setLength_d00df (.code yJ4_setLength_d00df cJ4_setLength_d00df 2 none) 5 170 0 0 [.ref b, .int (nI 0)] V adV [(b, .inr (0, [.ref v, .int 0, .int z, .int (nI n)])), (v, .inl (V.2.1 3, (m, .inl a)))] (fun r w => r = none ∧ ∃ (u : Nat) (z2 : Int32) (g : Nat → Int32), w = [(b, .inr (0, [.ref u, .int 0, .int z2, .int (nI 0)])), (u, .inl (V.2.1 3, (m, .inl g)))] ∧ sb_Fit g) := by
  refine kc_of (by decide) (Nat.le_of_ble_eq_true rfl) (fun X A hxl hC hJ hr => ?_)
  subst hxl
  refine jx_lv (lv1 := [(0, .ref b), (1, .int (nI 0))]) rfl ?_
  refine jx_aload_n hC dJ4_setLength_d00df_0 rfl 0 rfl ?_
  refine jx_iload_n hC dJ4_setLength_d00df_1 rfl 1 rfl ?_
  refine jx_callSU (ci := 0) (q0 := 0) (rest := []) (wr := []) hC hJ (kc_setL5 (xl X) V adV hn hm hf) rfl rfl jw692 jw27 jw690 jw1473 jw245 jw691 js_J5_setLength_d00df (Nat.le_of_ble_eq_true rfl) (Nat.le_of_ble_eq_true rfl) (Nat.le_of_ble_eq_true rfl) (by first | (dsimp only; omega) | omega | decide) (by first | (dsimp only; omega) | omega | decide) [0, 1] [] rfl rfl rfl rfl (by decide) rfl dJ4_setLength_d00df_2 (fun r1 w1 hp => ?_)
  obtain ⟨rfl, hg⟩ := hp
  exact jx_vret hC hr ⟨rfl, hg⟩ (by first | (dsimp only; omega) | omega) (by first | (dsimp only; omega) | omega) dJ4_setLength_d00df_5
set_option maxHeartbeats 4000000 in
set_option maxRecDepth 20000 in
theorem kc_len5 (l : Launch) (V : Vx) (adV : Nat → Nat) {b v n m : Nat} {z : Int32} {a : Nat → Int32}  : KC l yJ5_length_8abf5 (.code yJ5_length_8abf5 cJ5_length_8abf5 1 (some .int)) 0 0 0 0 [.ref b] V adV [(b, .inr (0, [.ref v, .int 0, .int z, .int (nI n)])), (v, .inl (V.2.1 3, (m, .inl a)))] (fun r w => r = some (.int (nI n)) ∧ w = [(b, .inr (0, [.ref v, .int 0, .int z, .int (nI n)])), (v, .inl (V.2.1 3, (m, .inl a)))]) := by
  refine kc_of (by decide) (Nat.le_of_ble_eq_true rfl) (fun X A hxl hC hJ hr => ?_)
  subst hxl
  refine jx_lv (lv1 := [(0, .ref b)]) rfl ?_
  refine jx_aload_n hC dJ5_length_8abf5_0 rfl 0 rfl ?_
  refine jx_getf (ci := 0) hC jinJ4 0 rfl rfl 3 (by decide) jw236 rfl dJ5_length_8abf5_1 ?_
  exact jx_iret hC hr ⟨rfl, rfl⟩ (by decide) (by decide) dJ5_length_8abf5_4
set_option maxHeartbeats 4000000 in
set_option maxRecDepth 20000 in
theorem kc_len (l : Launch) (V : Vx) (adV : Nat → Nat) {b v n m : Nat} {z : Int32} {a : Nat → Int32}  : KC l yJ4_length_8abf5 (.code yJ4_length_8abf5 cJ4_length_8abf5 1 (some .int)) 1 40 0 0 [.ref b] V adV [(b, .inr (0, [.ref v, .int 0, .int z, .int (nI n)])), (v, .inl (V.2.1 3, (m, .inl a)))] (fun r w => r = some (.int (nI n)) ∧ w = [(b, .inr (0, [.ref v, .int 0, .int z, .int (nI n)])), (v, .inl (V.2.1 3, (m, .inl a)))]) := by
  refine kc_of (by decide) (Nat.le_of_ble_eq_true rfl) (fun X A hxl hC hJ hr => ?_)
  subst hxl
  refine jx_lv (lv1 := [(0, .ref b)]) rfl ?_
  refine jx_aload_n hC dJ4_length_8abf5_0 rfl 0 rfl ?_
  refine jx_callSU (ci := 0) (q0 := 0) (rest := []) (wr := []) hC hJ (kc_len5 (xl X) V adV) rfl rfl jw868 jw27 jw867 jw863 jw245 jw862 js_J5_length_8abf5 (Nat.le_of_ble_eq_true rfl) (Nat.le_of_ble_eq_true rfl) (Nat.le_of_ble_eq_true rfl) (by first | (dsimp only; omega) | omega | decide) (by first | (dsimp only; omega) | omega | decide) [0, 1] [] rfl rfl rfl rfl (by decide) rfl dJ4_length_8abf5_1 (fun r1 w1 hp => ?_)
  obtain ⟨rfl, rfl⟩ := hp
  exact jx_iret hC hr ⟨rfl, rfl⟩ (by decide) (by decide) dJ4_length_8abf5_4
set_option maxHeartbeats 4000000 in
set_option maxRecDepth 20000 in
theorem kc_check3 (l : Launch) (V : Vx) (adV : Nat → Nat) {i n : Nat} {v : Value} (hi : i < n) (hn : n < 2 ^ 31) (hv : v.category = 1) : KC l yJ3_checkIndex_8e157 (.code yJ3_checkIndex_8e157 cJ3_checkIndex_8e157 3 (some .int)) 0 0 0 0 [.int (nI i), .int (nI n), v] V adV [] (fun r w => r = some (.int (nI i)) ∧ w = []) := by
  refine kc_of (by decide) (by show 1 + (1 + (v.category + 0)) ≤ 3; omega) (fun X A hxl hC hJ hr => ?_)
  subst hxl
  refine jx_lv (lv1 := [(0, .int (nI i)), (1, .int (nI n)), (2, v)]) rfl ?_
  refine jx_iload_n hC dJ3_checkIndex_8e157_0 rfl 0 rfl ?_
  refine jx_zltF hC 9 dJ3_checkIndex_8e157_1 (by decide) (nI_pos (by omega)) ?_
  refine jx_iload_n hC dJ3_checkIndex_8e157_4 rfl 0 rfl ?_
  refine jx_iload_n hC dJ3_checkIndex_8e157_5 rfl 1 rfl ?_
  refine jx_ltT hC 16 dJ3_checkIndex_8e157_6 (by decide) ((nI_ltI (by omega) hn).mpr hi) ?_
  refine jx_iload_n hC dJ3_checkIndex_8e157_16 rfl 0 rfl ?_
  exact jx_iret hC hr ⟨rfl, rfl⟩ (by decide) (by decide) dJ3_checkIndex_8e157_17
set_option maxHeartbeats 4000000 in
set_option maxRecDepth 20000 in
theorem kc_check (l : Launch) (V : Vx) (adV : Nat → Nat) {i n : Nat} (hi : i < n) (hn : n < 2 ^ 31) : KC l yJ0_checkIndex_df160 (.code yJ0_checkIndex_df160 cJ0_checkIndex_df160 2 none) 1 40 0 0 [.int (nI i), .int (nI n)] V adV [] (fun r w => r = none ∧ w = []) := by
  refine kc_of (by decide) (Nat.le_of_ble_eq_true rfl) (fun X A hxl hC hJ hr => ?_)
  subst hxl
  refine jx_lv (lv1 := [(0, .int (nI i)), (1, .int (nI n))]) rfl ?_
  have key : ∀ v : Value, v.category = 1 → va_Z "jdk/internal/util/Preconditions" "SIOOBE_FORMATTER" "Ljava/util/function/BiFunction;" v A (xs X) (xs X).heap → JX X V A { frames := 1, cells := 0, slots := 0, locals := 40 } 2 (MQ (xb X) (KQ V A (fun r w => r = none ∧ w = [])) (xa X) (xs X) 0 0 A) 0 [(0, .int (nI i)), (1, .int (nI n))] [] [] 0 0 := by
    intro v hv hZ
    refine jx_iload_n hC dJ0_checkIndex_df160_0 rfl 0 rfl ?_
    refine jx_iload_n hC dJ0_checkIndex_df160_1 rfl 1 rfl ?_
    refine jx_gets hC hZ jw762 dJ0_checkIndex_df160_2 ?_
    refine jx_callS (rest := []) (wr := []) hC hJ (kc_check3 (v := v) (xl X) V adV hi hn hv) jw963 jw46 jw961 jw962 jd_J3_checkIndex_8e157 (Nat.le_of_ble_eq_true rfl) (Nat.le_of_ble_eq_true rfl) (Nat.le_of_ble_eq_true rfl) (by first | (dsimp only; omega) | omega | decide) (by first | (dsimp only; omega) | omega | decide) [] [] rfl rfl rfl rfl (by decide) rfl dJ0_checkIndex_df160_5 (fun r1 w1 hp => ?_)
    obtain ⟨rfl, rfl⟩ := hp
    refine jx_pop hC dJ0_checkIndex_df160_8 rfl ?_
    exact jx_vret hC hr ⟨rfl, rfl⟩ (by decide) (by decide) dJ0_checkIndex_df160_9
  rcases hJ.2.2.1 with h | ⟨t, h⟩
  · exact key _ rfl h
  · exact key _ rfl h
set_option maxHeartbeats 4000000 in
set_option maxRecDepth 20000 in
theorem kc_ch5 (l : Launch) (V : Vx) (adV : Nat → Nat) {b v n m i : Nat} {z : Int32} {a : Nat → Int32} {t : Nat → Nat} (hnm : n ≤ m) (hm : m ≤ 65536) (hL : sb_Lat t n a) (hi : i < n) : KC l yJ5_charAt_5068e (.code yJ5_charAt_5068e cJ5_charAt_5068e 5 (some .char)) 2 70 0 0 [.ref b, .int (nI i)] V adV [(b, .inr (0, [.ref v, .int 0, .int z, .int (nI n)])), (v, .inl (V.2.1 3, (m, .inl a)))] (fun r w => r = some (.int (nI (t i))) ∧ w = [(b, .inr (0, [.ref v, .int 0, .int z, .int (nI n)])), (v, .inl (V.2.1 3, (m, .inl a)))]) := by
  refine kc_of (by decide) (Nat.le_of_ble_eq_true rfl) (fun X A hxl hC hJ hr => ?_)
  subst hxl
  refine jx_lv (lv1 := [(0, .ref b), (1, .int (nI i))]) rfl ?_
  obtain ⟨ht, ha⟩ := hL i hi
  obtain ⟨y1, y2, y3⟩ := sb_byte (t i) ht
  refine jx_aload_n hC dJ5_charAt_5068e_0 rfl 0 rfl ?_
  refine jx_getf (ci := 0) hC jinJ4 0 rfl rfl 1 (by decide) jw233 rfl dJ5_charAt_5068e_1 ?_
  refine jx_istore_n hC dJ5_charAt_5068e_4 rfl (by decide) (lv1 := [(2, .int 0), (0, .ref b), (1, .int (nI i))]) rfl ?_
  refine jx_aload_n hC dJ5_charAt_5068e_5 rfl 1 rfl ?_
  refine jx_getf (ci := 0) hC jinJ4 0 rfl rfl 0 (by decide) jw232 rfl dJ5_charAt_5068e_6 ?_
  refine jx_astore_n hC dJ5_charAt_5068e_9 rfl (by decide) (lv1 := [(3, .ref v), (2, .int 0), (0, .ref b), (1, .int (nI i))]) rfl ?_
  refine jx_aload_n hC dJ5_charAt_5068e_10 rfl 2 rfl ?_
  refine jx_getf (ci := 0) hC jinJ4 0 rfl rfl 3 (by decide) jw236 rfl dJ5_charAt_5068e_11 ?_
  refine jx_aload_n hC dJ5_charAt_5068e_14 rfl 0 rfl ?_
  refine jx_alen hC 1 3 rfl rfl rfl dJ5_charAt_5068e_15 ?_
  refine jx_iload_n hC dJ5_charAt_5068e_16 rfl 1 rfl ?_
  refine jx_ishr (v := nI m) hC dJ5_charAt_5068e_17 (sb_shr0 _) ?_
  refine jx_mmin (a := n) (b := m) hC jw986 jw535 jw40 jw536 (Nat.le_of_ble_eq_true rfl) (Nat.le_of_ble_eq_true rfl) (by first | (dsimp only; omega) | omega) (by first | (dsimp only; omega) | omega) (by omega) (by omega) dJ5_charAt_5068e_18 ?_
  refine jx_ws (ws1 := [(b, .inr (0, [.ref v, .int 0, .int z, .int (nI n)])), (v, .inl (V.2.1 3, (m, .inl a)))]) rfl ?_
  rw [show min n m = n from by omega]
  refine jx_istore hC dJ5_charAt_5068e_21 (by decide) (lv1 := [(4, .int (nI n)), (3, .ref v), (2, .int 0), (0, .ref b), (1, .int (nI i))]) rfl ?_
  refine jx_iload_n hC dJ5_charAt_5068e_23 rfl 4 rfl ?_
  refine jx_iload hC dJ5_charAt_5068e_24 0 rfl ?_
  refine jx_callS (rest := []) (wr := [(b, .inr (0, [.ref v, .int 0, .int z, .int (nI n)])), (v, .inl (V.2.1 3, (m, .inl a)))]) hC hJ (kc_check (xl X) V adV hi (by omega)) jw960 jw29 jw987 jw959 jd_J0_checkIndex_df160 (Nat.le_of_ble_eq_true rfl) (Nat.le_of_ble_eq_true rfl) (Nat.le_of_ble_eq_true rfl) (by first | (dsimp only; omega) | omega | decide) (by first | (dsimp only; omega) | omega | decide) [] [0, 1] rfl rfl rfl rfl (by decide) rfl dJ5_charAt_5068e_26 (fun r1 w1 hp => ?_)
  obtain ⟨rfl, rfl⟩ := hp
  refine jx_ws (ws1 := [(b, .inr (0, [.ref v, .int 0, .int z, .int (nI n)])), (v, .inl (V.2.1 3, (m, .inl a)))]) rfl ?_
  refine jx_iload_n hC dJ5_charAt_5068e_29 rfl 2 rfl ?_
  refine jx_zneF hC 42 dJ5_charAt_5068e_30 (by decide) rfl ?_
  refine jx_aload_n hC dJ5_charAt_5068e_33 rfl 1 rfl ?_
  refine jx_iload_n hC dJ5_charAt_5068e_34 rfl 4 rfl ?_
  refine jx_bald (v := sb_b (t i)) hC 1 rfl (vp_in_nI (by omega) (by omega)) (by rw [nI_clamp (by omega)]; exact ha) dJ5_charAt_5068e_35 ?_
  refine jx_sipush (v := 255) hC dJ5_charAt_5068e_36 (by decide) ?_
  refine jx_iand (v := nI (t i)) hC dJ5_charAt_5068e_39 y1 ?_
  refine jx_i2c (v := nI (t i)) hC dJ5_charAt_5068e_40 y2 ?_
  exact jx_zret hC hr (pk_charN (by omega)).1 ⟨rfl, rfl⟩ (by decide) (by decide) dJ5_charAt_5068e_41
set_option maxHeartbeats 4000000 in
set_option maxRecDepth 20000 in
theorem kc_ch (l : Launch) (V : Vx) (adV : Nat → Nat) {b v n m i : Nat} {z : Int32} {a : Nat → Int32} {t : Nat → Nat} (hnm : n ≤ m) (hm : m ≤ 65536) (hL : sb_Lat t n a) (hi : i < n) : KC l yJ4_charAt_5068e (.code yJ4_charAt_5068e cJ4_charAt_5068e 2 (some .char)) 3 100 0 0 [.ref b, .int (nI i)] V adV [(b, .inr (0, [.ref v, .int 0, .int z, .int (nI n)])), (v, .inl (V.2.1 3, (m, .inl a)))] (fun r w => r = some (.int (nI (t i))) ∧ w = [(b, .inr (0, [.ref v, .int 0, .int z, .int (nI n)])), (v, .inl (V.2.1 3, (m, .inl a)))]) := by
  refine kc_of (by decide) (Nat.le_of_ble_eq_true rfl) (fun X A hxl hC hJ hr => ?_)
  subst hxl
  refine jx_lv (lv1 := [(0, .ref b), (1, .int (nI i))]) rfl ?_
  refine jx_aload_n hC dJ4_charAt_5068e_0 rfl 0 rfl ?_
  refine jx_iload_n hC dJ4_charAt_5068e_1 rfl 1 rfl ?_
  refine jx_callSU (ci := 0) (q0 := 0) (rest := []) (wr := []) hC hJ (kc_ch5 (xl X) V adV hnm hm hL hi) rfl rfl jw985 jw27 jw983 jw1484 jw245 jw984 js_J5_charAt_5068e (Nat.le_of_ble_eq_true rfl) (Nat.le_of_ble_eq_true rfl) (Nat.le_of_ble_eq_true rfl) (by first | (dsimp only; omega) | omega | decide) (by first | (dsimp only; omega) | omega | decide) [0, 1] [] rfl rfl rfl rfl (by decide) rfl dJ4_charAt_5068e_2 (fun r1 w1 hp => ?_)
  obtain ⟨rfl, rfl⟩ := hp
  exact jx_zret hC hr (pk_charN (by have := (hL i hi).1; omega)).1 ⟨rfl, rfl⟩ (by decide) (by decide) dJ4_charAt_5068e_5
set_option maxHeartbeats 4000000 in
set_option maxRecDepth 20000 in
theorem kc_coder (l : Launch) (V : Vx) (adV : Nat → Nat) {i : Nat} (hi : i < strL.length) : KC l yJ0_coder_7d493 (.code yJ0_coder_7d493 cJ0_coder_7d493 1 (some .byte)) 0 0 0 0 [.ref (V.2.2 (3000 + i))] V adV [] (fun r w => r = some (.int 0) ∧ w = []) := by
  refine kc_of (by decide) (Nat.le_of_ble_eq_true rfl) (fun X A hxl hC hJ hr => ?_)
  subst hxl
  refine jx_lv (lv1 := [(0, .ref (V.2.2 (3000 + i)))]) rfl ?_
  refine jx_gets hC hJ.2.1 jw784 dJ0_coder_7d493_0 ?_
  refine jx_zeqF hC 13 dJ0_coder_7d493_3 (by decide) (by decide) ?_
  refine jx_aload_n hC dJ0_coder_7d493_6 rfl 0 rfl ?_
  refine jx_getE hC (hJ.1 i hi).2.1 jw901 dJ0_coder_7d493_7 ?_
  refine jx_goto hC 14 dJ0_coder_7d493_10 (by decide) ?_
  exact jx_zret hC hr rfl ⟨rfl, rfl⟩ (by decide) (by decide) dJ0_coder_7d493_14
set_option maxHeartbeats 4000000 in
set_option maxRecDepth 20000 in
theorem kc_slen (l : Launch) (V : Vx) (adV : Nat → Nat) {i : Nat} (hi : i < strL.length) : KC l yJ0_length_8abf5 (.code yJ0_length_8abf5 cJ0_length_8abf5 1 (some .int)) 1 40 0 0 [.ref (V.2.2 (3000 + i))] V adV [] (fun r w => r = some (.int (nI (txL.getD i []).length)) ∧ w = []) := by
  refine kc_of (by decide) (Nat.le_of_ble_eq_true rfl) (fun X A hxl hC hJ hr => ?_)
  subst hxl
  refine jx_lv (lv1 := [(0, .ref (V.2.2 (3000 + i)))]) rfl ?_
  refine jx_aload_n hC dJ0_length_8abf5_0 rfl 0 rfl ?_
  refine jx_getE hC (hJ.1 i hi).2.2.1 jw900 dJ0_length_8abf5_1 ?_
  refine jx_tlen hC (hJ.1 i hi).2.2.2 rfl dJ0_length_8abf5_4 ?_
  refine jx_aload_n hC dJ0_length_8abf5_5 rfl 0 rfl ?_
  refine jx_callV (b := (V.2.2 (3000 + i))) (C := RJ0) (rest := [.int (nI (txL.getD i []).length)]) (wr := []) hC hJ (kc_coder (xl X) V adV hi) (fun H _ locs hS => va_Orecv (hJ.1 i hi).1 hS) jw783 jw29 jw780 jw781 jw782 jd_J0_coder_7d493 (Nat.le_of_ble_eq_true rfl) (Nat.le_of_ble_eq_true rfl) (Nat.le_of_ble_eq_true rfl) (Nat.le_of_ble_eq_true rfl) (Nat.le_of_ble_eq_true rfl) [] [] rfl rfl rfl rfl (by decide) rfl dJ0_length_8abf5_6 (fun r1 w1 hp => ?_)
  obtain ⟨rfl, rfl⟩ := hp
  refine jx_ishr (v := nI (txL.getD i []).length) hC dJ0_length_8abf5_9 (sb_shr0 _) ?_
  exact jx_iret hC hr ⟨rfl, rfl⟩ (by decide) (by decide) dJ0_length_8abf5_10
set_option maxHeartbeats 4000000 in
set_option maxRecDepth 20000 in
theorem kc_sLat (l : Launch) (V : Vx) (adV : Nat → Nat) {i : Nat} (hi : i < strL.length) : KC l yJ0_isLatin1_aae02 (.code yJ0_isLatin1_aae02 cJ0_isLatin1_aae02 1 (some .boolean)) 0 0 0 0 [.ref (V.2.2 (3000 + i))] V adV [] (fun r w => r = some (.int 1) ∧ w = []) := by
  refine kc_of (by decide) (Nat.le_of_ble_eq_true rfl) (fun X A hxl hC hJ hr => ?_)
  subst hxl
  refine jx_lv (lv1 := [(0, .ref (V.2.2 (3000 + i)))]) rfl ?_
  refine jx_gets hC hJ.2.1 jw784 dJ0_isLatin1_aae02_0 ?_
  refine jx_zeqF hC 17 dJ0_isLatin1_aae02_3 (by decide) (by decide) ?_
  refine jx_aload_n hC dJ0_isLatin1_aae02_6 rfl 0 rfl ?_
  refine jx_getE hC (hJ.1 i hi).2.1 jw901 dJ0_isLatin1_aae02_7 ?_
  refine jx_zneF hC 17 dJ0_isLatin1_aae02_10 (by decide) rfl ?_
  refine jx_iconst (v := 1) hC dJ0_isLatin1_aae02_13 (by decide) ?_
  refine jx_goto hC 18 dJ0_isLatin1_aae02_14 (by decide) ?_
  exact jx_zret hC hr rfl ⟨rfl, rfl⟩ (by decide) (by decide) dJ0_isLatin1_aae02_18
set_option maxHeartbeats 4000000 in
set_option maxRecDepth 20000 in
theorem kc_lch (l : Launch) (V : Vx) (adV : Nat → Nat) {i k t : Nat} (hi : i < strL.length) (hk : k < (txL.getD i []).length) (hn : (txL.getD i []).length < 2 ^ 31) (ht : t < 256) (hb : (txL.getD i []).getD k 0 = sb_b t) : KC l yJ1_charAt_3b067 (.code yJ1_charAt_3b067 cJ1_charAt_3b067 2 (some .char)) 2 70 0 0 [.ref (adV i), .int (nI k)] V adV [] (fun r w => r = some (.int (nI t)) ∧ w = []) := by
  refine kc_of (by decide) (Nat.le_of_ble_eq_true rfl) (fun X A hxl hC hJ hr => ?_)
  subst hxl
  refine jx_lv (lv1 := [(0, .ref (adV i)), (1, .int (nI k))]) rfl ?_
  obtain ⟨y1, y2, y3⟩ := sb_byte t ht
  refine jx_iload_n hC dJ1_charAt_3b067_0 rfl 1 rfl ?_
  refine jx_aload_n hC dJ1_charAt_3b067_1 rfl 0 rfl ?_
  refine jx_tlen hC (hJ.1 i hi).2.2.2 rfl dJ1_charAt_3b067_2 ?_
  refine jx_callS (rest := []) (wr := []) hC hJ (kc_check (i := k) (xl X) V adV hk hn) jw960 jw29 jw1135 jw959 jd_J0_checkIndex_df160 (Nat.le_of_ble_eq_true rfl) (Nat.le_of_ble_eq_true rfl) (Nat.le_of_ble_eq_true rfl) (by first | (dsimp only; omega) | omega | decide) (by first | (dsimp only; omega) | omega | decide) [] [] rfl rfl rfl rfl (by decide) rfl dJ1_charAt_3b067_3 (fun r1 w1 hp => ?_)
  obtain ⟨rfl, rfl⟩ := hp
  refine jx_aload_n hC dJ1_charAt_3b067_6 rfl 0 rfl ?_
  refine jx_iload_n hC dJ1_charAt_3b067_7 rfl 1 rfl ?_
  refine jx_tb (v := .int (sb_b t)) hC (hJ.1 i hi).2.2.2 (vp_in_nI hk hn) (by rw [nI_clamp (by omega), hb]) dJ1_charAt_3b067_8 ?_
  refine jx_sipush (v := 255) hC dJ1_charAt_3b067_9 (by decide) ?_
  refine jx_iand (v := nI t) hC dJ1_charAt_3b067_12 y1 ?_
  refine jx_i2c (v := nI t) hC dJ1_charAt_3b067_13 y2 ?_
  exact jx_zret hC hr (pk_charN (by omega)).1 ⟨rfl, rfl⟩ (by decide) (by decide) dJ1_charAt_3b067_14
set_option maxHeartbeats 4000000 in
set_option maxRecDepth 20000 in
theorem kc_sch (l : Launch) (V : Vx) (adV : Nat → Nat) {i k t : Nat} (hi : i < strL.length) (hk : k < (txL.getD i []).length) (hn : (txL.getD i []).length < 2 ^ 31) (ht : t < 256) (hb : (txL.getD i []).getD k 0 = sb_b t) : KC l yJ0_charAt_5068e (.code yJ0_charAt_5068e cJ0_charAt_5068e 2 (some .char)) 3 100 0 0 [.ref (V.2.2 (3000 + i)), .int (nI k)] V adV [] (fun r w => r = some (.int (nI t)) ∧ w = []) := by
  refine kc_of (by decide) (Nat.le_of_ble_eq_true rfl) (fun X A hxl hC hJ hr => ?_)
  subst hxl
  refine jx_lv (lv1 := [(0, .ref (V.2.2 (3000 + i))), (1, .int (nI k))]) rfl ?_
  refine jx_aload_n hC dJ0_charAt_5068e_0 rfl 0 rfl ?_
  refine jx_callV (b := (V.2.2 (3000 + i))) (C := RJ0) (rest := []) (wr := []) hC hJ (kc_sLat (xl X) V adV hi) (fun H _ locs hS => va_Orecv (hJ.1 i hi).1 hS) jw1131 jw29 jw1128 jw1129 jw1130 jd_J0_isLatin1_aae02 (Nat.le_of_ble_eq_true rfl) (Nat.le_of_ble_eq_true rfl) (Nat.le_of_ble_eq_true rfl) (Nat.le_of_ble_eq_true rfl) (Nat.le_of_ble_eq_true rfl) [] [] rfl rfl rfl rfl (by decide) rfl dJ0_charAt_5068e_1 (fun r1 w1 hp => ?_)
  obtain ⟨rfl, rfl⟩ := hp
  refine jx_zeqF hC 16 dJ0_charAt_5068e_4 (by decide) (by decide) ?_
  refine jx_aload_n hC dJ0_charAt_5068e_7 rfl 0 rfl ?_
  refine jx_getE hC (hJ.1 i hi).2.2.1 jw900 dJ0_charAt_5068e_8 ?_
  refine jx_iload_n hC dJ0_charAt_5068e_11 rfl 1 rfl ?_
  refine jx_callS (rest := []) (wr := []) hC hJ (kc_lch (xl X) V adV hi hk hn ht hb) jw1134 jw47 jw1132 jw1133 jd_J1_charAt_3b067 (Nat.le_of_ble_eq_true rfl) (Nat.le_of_ble_eq_true rfl) (Nat.le_of_ble_eq_true rfl) (by first | (dsimp only; omega) | omega | decide) (by first | (dsimp only; omega) | omega | decide) [] [] rfl rfl rfl rfl (by decide) rfl dJ0_charAt_5068e_12 (fun r1 w1 hp => ?_)
  obtain ⟨rfl, rfl⟩ := hp
  exact jx_zret hC hr (pk_charN (by omega)).1 ⟨rfl, rfl⟩ (by decide) (by decide) dJ0_charAt_5068e_15
