/-! ===== the words of the law's own methods ===== -/
theorem ciL : Cond.initialized RL ∈ gw := gwt1 (List.mem_of_getElem? (i := 0) rfl) (by decide +kernel)
theorem wd278 : Cond.methodLink "EchoCensusLaw" 93 ⟨"EchoCensus", "echoCount", "()I"⟩ ∈ gw := gwt2 (List.mem_of_getElem? (i := 18) rfl) (by decide +kernel)
theorem wd286 : Cond.methodLink "EchoCensusLaw" 222 ⟨"EchoCensus", "undoableCount", "()I"⟩ ∈ gw := gwt2 (List.mem_of_getElem? (i := 26) rfl) (by decide +kernel)
theorem wd290 : Cond.methodLink "EchoCensusLaw" 228 ⟨"EchoCensus", "save", "()I"⟩ ∈ gw := gwt2 (List.mem_of_getElem? (i := 30) rfl) (by decide +kernel)
theorem wd302 : Cond.methodLink "EchoCensusLaw" 280 ⟨"EchoCensusLaw", "addRow", "(LEchoCensus;I)J"⟩ ∈ gw := gwt2 (List.mem_of_getElem? (i := 42) rfl) (by decide +kernel)
theorem wd579 : Cond.methodLink "EchoCensusLaw" 282 ⟨"EchoCensusLaw", "addPhantoms", "(LEchoCensus;II)J"⟩ ∈ gw := gwt3 (List.mem_of_getElem? (i := 79) rfl) (by decide +kernel)
theorem wd608 : Cond.methodLink "EchoCensusLaw" 287 ⟨"EchoCensusLaw", "add", "(LEchoCensus;II)J"⟩ ∈ gw := gwt3 (List.mem_of_getElem? (i := 108) rfl) (by decide +kernel)
theorem wd615 : Cond.methodLink "EchoCensusLaw" 329 ⟨"EchoCensusLaw", "undo", "(LEchoCensus;)J"⟩ ∈ gw := gwt3 (List.mem_of_getElem? (i := 115) rfl) (by decide +kernel)
theorem wd627 : Cond.methodLink "EchoCensusLaw" 380 ⟨"EchoCensusLaw", "restore", "(LEchoCensus;)J"⟩ ∈ gw := gwt3 (List.mem_of_getElem? (i := 127) rfl) (by decide +kernel)
theorem wd642 : Cond.methodLink "EchoCensusLaw" 277 ⟨"EchoCensusLaw", "chosen", "(II)I"⟩ ∈ gw := gwt3 (List.mem_of_getElem? (i := 142) rfl) (by decide +kernel)
theorem wd645 : Cond.constant "EchoCensusLaw" 234 (2147483647 : Int32) ∈ gw := gwt3 (List.mem_of_getElem? (i := 145) rfl) (by decide +kernel)
theorem wd646 : Cond.methodLink "EchoCensusLaw" 318 ⟨"EchoCensusLaw", "mark", "(LEchoCensus;)J"⟩ ∈ gw := gwt3 (List.mem_of_getElem? (i := 146) rfl) (by decide +kernel)
theorem wd651 : Cond.methodLink "EchoCensusLaw" 158 ⟨"EchoCensus", "moveCount", "()I"⟩ ∈ gw := gwt3 (List.mem_of_getElem? (i := 151) rfl) (by decide +kernel)
theorem wd656 : Cond.methodLink "EchoCensusLaw" 161 ⟨"EchoCensus", "removeCount", "()I"⟩ ∈ gw := gwt3 (List.mem_of_getElem? (i := 156) rfl) (by decide +kernel)
theorem wd661 : Cond.methodLink "EchoCensusLaw" 164 ⟨"EchoCensus", "addedLoudness", "()J"⟩ ∈ gw := gwt3 (List.mem_of_getElem? (i := 161) rfl) (by decide +kernel)
theorem wd666 : Cond.methodLink "EchoCensusLaw" 168 ⟨"EchoCensus", "lostLoudness", "()J"⟩ ∈ gw := gwt3 (List.mem_of_getElem? (i := 166) rfl) (by decide +kernel)
theorem wd670 : Cond.methodLink "EchoCensusLaw" 64 ⟨"EchoCensus", "rowCount", "()I"⟩ ∈ gw := gwt3 (List.mem_of_getElem? (i := 170) rfl) (by decide +kernel)
theorem wd674 : Cond.methodLink "EchoCensusLaw" 259 ⟨"EchoCensusLaw", "formatRow", "(LEchoCensus;I)J"⟩ ∈ gw := gwt3 (List.mem_of_getElem? (i := 174) rfl) (by decide +kernel)
theorem wd971 : Cond.methodLink "EchoCensusLaw" 264 ⟨"EchoCensusLaw", "lineChar", "(LEchoCensus;I)J"⟩ ∈ gw := gwt4 (List.mem_of_getElem? (i := 231) rfl) (by decide +kernel)
theorem wd989 : Cond.methodLink "EchoCensusLaw" 266 ⟨"EchoCensusLaw", "boxCount", "(LEchoCensus;I)J"⟩ ∈ gw := gwt5 (List.mem_of_getElem? (i := 9) rfl) (by decide +kernel)
theorem wd1000 : Cond.methodLink "EchoCensusLaw" 268 ⟨"EchoCensusLaw", "idByRank", "(LEchoCensus;I)J"⟩ ∈ gw := gwt5 (List.mem_of_getElem? (i := 20) rfl) (by decide +kernel)
theorem wd1021 : Cond.methodLink "EchoCensusLaw" 270 ⟨"EchoCensusLaw", "formatEcho", "(LEchoCensus;I)J"⟩ ∈ gw := gwt5 (List.mem_of_getElem? (i := 41) rfl) (by decide +kernel)
theorem wd1033 : Cond.methodLink "EchoCensusLaw" 272 ⟨"EchoCensusLaw", "namedRow", "(LEchoCensus;C)J"⟩ ∈ gw := gwt5 (List.mem_of_getElem? (i := 53) rfl) (by decide +kernel)
theorem wd1048 : Cond.methodLink "EchoCensusLaw" 371 ⟨"EchoCensusLaw", "acts", "(LEchoCensus;I)J"⟩ ∈ gw := gwt5 (List.mem_of_getElem? (i := 68) rfl) (by decide +kernel)
theorem wd1051 : Cond.constant "EchoCensusLaw" 276 (100000 : Int32) ∈ gw := gwt5 (List.mem_of_getElem? (i := 71) rfl) (by decide +kernel)
theorem wd1052 : Cond.methodLink "EchoCensusLaw" 285 ⟨"EchoCensusLaw", "removePhantoms", "(LEchoCensus;II)J"⟩ ∈ gw := gwt5 (List.mem_of_getElem? (i := 72) rfl) (by decide +kernel)
theorem wd1059 : Cond.methodLink "EchoCensusLaw" 289 ⟨"EchoCensusLaw", "anId", "(LEchoCensus;I)I"⟩ ∈ gw := gwt5 (List.mem_of_getElem? (i := 79) rfl) (by decide +kernel)
theorem wd1062 : Cond.methodLink "EchoCensusLaw" 293 ⟨"EchoCensusLaw", "move", "(LEchoCensus;II)J"⟩ ∈ gw := gwt5 (List.mem_of_getElem? (i := 82) rfl) (by decide +kernel)
theorem wd1069 : Cond.methodLink "EchoCensusLaw" 295 ⟨"EchoCensusLaw", "remove", "(LEchoCensus;I)J"⟩ ∈ gw := gwt5 (List.mem_of_getElem? (i := 89) rfl) (by decide +kernel)
theorem wd1076 : Cond.methodLink "EchoCensusLaw" 297 ⟨"EchoCensusLaw", "setHeir", "(LEchoCensus;II)J"⟩ ∈ gw := gwt5 (List.mem_of_getElem? (i := 96) rfl) (by decide +kernel)
theorem wd1083 : Cond.methodLink "EchoCensusLaw" 299 ⟨"EchoCensusLaw", "clearHeir", "(LEchoCensus;I)J"⟩ ∈ gw := gwt5 (List.mem_of_getElem? (i := 103) rfl) (by decide +kernel)
theorem wd1090 : Cond.methodLink "EchoCensusLaw" 301 ⟨"EchoCensusLaw", "lock", "(LEchoCensus;I)J"⟩ ∈ gw := gwt5 (List.mem_of_getElem? (i := 110) rfl) (by decide +kernel)
theorem wd1097 : Cond.methodLink "EchoCensusLaw" 303 ⟨"EchoCensusLaw", "unlock", "(LEchoCensus;I)J"⟩ ∈ gw := gwt5 (List.mem_of_getElem? (i := 117) rfl) (by decide +kernel)
theorem wd1104 : Cond.methodLink "EchoCensusLaw" 305 ⟨"EchoCensusLaw", "nameRow", "(LEchoCensus;CI)J"⟩ ∈ gw := gwt5 (List.mem_of_getElem? (i := 124) rfl) (by decide +kernel)
theorem wd1111 : Cond.methodLink "EchoCensusLaw" 308 ⟨"EchoCensusLaw", "spread", "(LEchoCensus;I)J"⟩ ∈ gw := gwt5 (List.mem_of_getElem? (i := 131) rfl) (by decide +kernel)
theorem wd1118 : Cond.fieldLink "EchoCensusLaw" 310 "EchoCensusLaw" "TEXTS" "[Ljava/lang/String;" ∈ gw := gwt5 (List.mem_of_getElem? (i := 138) rfl) (by decide +kernel)
theorem wd1120 : Cond.methodLink "EchoCensusLaw" 314 ⟨"EchoCensusLaw", "runs", "(LEchoCensus;Ljava/lang/String;)J"⟩ ∈ gw := gwt5 (List.mem_of_getElem? (i := 140) rfl) (by decide +kernel)
theorem wd1123 : Cond.methodLink "EchoCensusLaw" 235 ⟨"java/lang/String", "length", "()I"⟩ ∈ gw := gwt5 (List.mem_of_getElem? (i := 143) rfl) (by decide +kernel)
theorem wd1124 : Cond.methodLink "EchoCensusLaw" 240 ⟨"java/lang/String", "charAt", "(I)C"⟩ ∈ gw := gwt5 (List.mem_of_getElem? (i := 144) rfl) (by decide +kernel)
theorem wd1139 : Cond.methodLink "EchoCensusLaw" 243 ⟨"EchoCensusLaw", "append", "(LEchoCensus;C)J"⟩ ∈ gw := gwt5 (List.mem_of_getElem? (i := 159) rfl) (by decide +kernel)
theorem wd1148 : Cond.methodLink "EchoCensusLaw" 246 ⟨"EchoCensusLaw", "run", "(LEchoCensus;)J"⟩ ∈ gw := gwt5 (List.mem_of_getElem? (i := 168) rfl) (by decide +kernel)
theorem wd1229 : Cond.methodLink "EchoCensusLaw" 382 ⟨"EchoCensusLaw", "fits", "(LEchoCensus;I)Z"⟩ ∈ gw := gwt6 (List.mem_of_getElem? (i := 9) rfl) (by decide +kernel)
theorem wd1232 : Cond.methodLink "EchoCensusLaw" 196 ⟨"EchoCensus", "isConsistent", "()Z"⟩ ∈ gw := gwt6 (List.mem_of_getElem? (i := 12) rfl) (by decide +kernel)
theorem wd1301 : Cond.methodLink "EchoCensusLaw" 345 ⟨"EchoCensusLaw", "spreads", "(LEchoCensus;I)Z"⟩ ∈ gw := gwt6 (List.mem_of_getElem? (i := 81) rfl) (by decide +kernel)
theorem wd1304 : Cond.methodLink "EchoCensusLaw" 321 ⟨"EchoCensusLaw", "occupancy", "(LEchoCensus;I)J"⟩ ∈ gw := gwt6 (List.mem_of_getElem? (i := 84) rfl) (by decide +kernel)
theorem wd1311 : Cond.methodLink "EchoCensusLaw" 323 ⟨"EchoCensusLaw", "isLocked", "(LEchoCensus;I)J"⟩ ∈ gw := gwt6 (List.mem_of_getElem? (i := 91) rfl) (by decide +kernel)
theorem wd1318 : Cond.methodLink "EchoCensusLaw" 325 ⟨"EchoCensusLaw", "capacity", "(LEchoCensus;I)J"⟩ ∈ gw := gwt6 (List.mem_of_getElem? (i := 98) rfl) (by decide +kernel)
theorem wd1325 : Cond.methodLink "EchoCensusLaw" 327 ⟨"EchoCensusLaw", "isCrowded", "(LEchoCensus;I)J"⟩ ∈ gw := gwt6 (List.mem_of_getElem? (i := 105) rfl) (by decide +kernel)
theorem wd1333 : Cond.methodLink "EchoCensusLaw" 349 ⟨"EchoCensusLaw", "idByRankByTree", "(LEchoCensus;I)J"⟩ ∈ gw := gwt6 (List.mem_of_getElem? (i := 113) rfl) (by decide +kernel)
theorem wd1340 : Cond.methodLink "EchoCensusLaw" 351 ⟨"EchoCensusLaw", "rank", "(LEchoCensus;I)J"⟩ ∈ gw := gwt6 (List.mem_of_getElem? (i := 120) rfl) (by decide +kernel)
theorem wd1356 : Cond.methodLink "EchoCensusLaw" 343 ⟨"EchoCensusLaw", "rowOf", "(LEchoCensus;I)J"⟩ ∈ gw := gwt6 (List.mem_of_getElem? (i := 136) rfl) (by decide +kernel)
theorem wd1363 : Cond.methodLink "EchoCensusLaw" 353 ⟨"EchoCensusLaw", "positionInRow", "(LEchoCensus;I)J"⟩ ∈ gw := gwt6 (List.mem_of_getElem? (i := 143) rfl) (by decide +kernel)
theorem wd1371 : Cond.methodLink "EchoCensusLaw" 355 ⟨"EchoCensusLaw", "idInRow", "(LEchoCensus;II)J"⟩ ∈ gw := gwt6 (List.mem_of_getElem? (i := 151) rfl) (by decide +kernel)
theorem wd1379 : Cond.methodLink "EchoCensusLaw" 357 ⟨"EchoCensusLaw", "removes", "(LEchoCensus;I)Z"⟩ ∈ gw := gwt6 (List.mem_of_getElem? (i := 159) rfl) (by decide +kernel)
theorem wd1382 : Cond.methodLink "EchoCensusLaw" 331 ⟨"EchoCensusLaw", "loudness", "(LEchoCensus;I)J"⟩ ∈ gw := gwt6 (List.mem_of_getElem? (i := 162) rfl) (by decide +kernel)
theorem wd1389 : Cond.methodLink "EchoCensusLaw" 333 ⟨"EchoCensusLaw", "heir", "(LEchoCensus;I)J"⟩ ∈ gw := gwt6 (List.mem_of_getElem? (i := 169) rfl) (by decide +kernel)
theorem wd1397 : Cond.methodLink "EchoCensusLaw" 335 ⟨"EchoCensusLaw", "stepsToLastHeir", "(LEchoCensus;I)J"⟩ ∈ gw := gwt6 (List.mem_of_getElem? (i := 177) rfl) (by decide +kernel)
theorem wd1408 : Cond.methodLink "EchoCensusLaw" 337 ⟨"EchoCensusLaw", "bequeathers", "(LEchoCensus;I)J"⟩ ∈ gw := gwt6 (List.mem_of_getElem? (i := 188) rfl) (by decide +kernel)
theorem wd1419 : Cond.methodLink "EchoCensusLaw" 339 ⟨"EchoCensusLaw", "lastHeir", "(LEchoCensus;I)J"⟩ ∈ gw := gwt6 (List.mem_of_getElem? (i := 199) rfl) (by decide +kernel)
theorem wd1426 : Cond.methodLink "EchoCensusLaw" 341 ⟨"EchoCensusLaw", "lastHeirByDoubling", "(LEchoCensus;I)J"⟩ ∈ gw := gwt6 (List.mem_of_getElem? (i := 206) rfl) (by decide +kernel)
theorem wd1433 : Cond.methodLink "EchoCensusLaw" 96 ⟨"EchoCensus", "isActive", "(I)Z"⟩ ∈ gw := gwt6 (List.mem_of_getElem? (i := 213) rfl) (by decide +kernel)
theorem wd1437 : Cond.methodLink "EchoCensusLaw" 171 ⟨"EchoCensus", "activeLoudness", "()J"⟩ ∈ gw := gwt6 (List.mem_of_getElem? (i := 217) rfl) (by decide +kernel)
theorem wd1441 : Cond.methodLink "EchoCensusLaw" 360 ⟨"EchoCensusLaw", "countInRows", "(LEchoCensus;II)J"⟩ ∈ gw := gwt6 (List.mem_of_getElem? (i := 221) rfl) (by decide +kernel)
theorem wd1453 : Cond.methodLink "EchoCensusLaw" 362 ⟨"EchoCensusLaw", "countInRowsByTree", "(LEchoCensus;II)J"⟩ ∈ gw := gwt6 (List.mem_of_getElem? (i := 233) rfl) (by decide +kernel)
theorem wd1460 : Cond.methodLink "EchoCensusLaw" 364 ⟨"EchoCensusLaw", "loudest", "(LEchoCensus;)J"⟩ ∈ gw := gwt7 (List.mem_of_getElem? (i := 0) rfl) (by decide +kernel)
theorem wd1469 : Cond.methodLink "EchoCensusLaw" 374 ⟨"java/lang/Math", "min", "(JJ)J"⟩ ∈ gw := gwt7 (List.mem_of_getElem? (i := 9) rfl) (by decide +kernel)
theorem wd1470 : Cond.static ⟨"java/lang/Math", "min", "(JJ)J"⟩ ∈ gw := gwt7 (List.mem_of_getElem? (i := 10) rfl) (by decide +kernel)
theorem wd1471 : Cond.code ⟨"java/lang/Math", "min", "(JJ)J"⟩ prog_23_method_70_code 4 (Option.some FieldType.long) ∈ gw := gwt7 (List.mem_of_getElem? (i := 11) rfl) (by decide +kernel)
theorem cw_L_acts : Cond.code yL_acts cL_acts 4 (some .long) ∈ gw := gwt5 (List.mem_of_getElem? (i := 70) rfl) (by decide +kernel)
theorem ci_L_acts : Cond.initialized yL_acts.cls ∈ gw := gwt1 (List.mem_of_getElem? (i := 0) rfl) (by decide +kernel)
theorem cs_L_acts : Cond.static yL_acts ∈ gw := gwt5 (List.mem_of_getElem? (i := 69) rfl) (by decide +kernel)
theorem cd_L_acts : yL_acts.cls ≠ "java/lang/invoke/MethodHandle" ∧ yL_acts.cls ≠ "java/lang/invoke/VarHandle" ∧ (parseMethodDescriptor yL_acts.desc).map (fun d => d.parameters.length) = some 2 := ⟨by decide, by decide, by decide +kernel⟩
theorem cw_L_anId : Cond.code yL_anId cL_anId 2 (some .int) ∈ gw := gwt5 (List.mem_of_getElem? (i := 81) rfl) (by decide +kernel)
theorem ci_L_anId : Cond.initialized yL_anId.cls ∈ gw := gwt1 (List.mem_of_getElem? (i := 0) rfl) (by decide +kernel)
theorem cs_L_anId : Cond.static yL_anId ∈ gw := gwt5 (List.mem_of_getElem? (i := 80) rfl) (by decide +kernel)
theorem cd_L_anId : yL_anId.cls ≠ "java/lang/invoke/MethodHandle" ∧ yL_anId.cls ≠ "java/lang/invoke/VarHandle" ∧ (parseMethodDescriptor yL_anId.desc).map (fun d => d.parameters.length) = some 2 := ⟨by decide, by decide, by decide +kernel⟩
theorem cw_L_chosen : Cond.code yL_chosen cL_chosen 2 (some .int) ∈ gw := gwt3 (List.mem_of_getElem? (i := 144) rfl) (by decide +kernel)
theorem ci_L_chosen : Cond.initialized yL_chosen.cls ∈ gw := gwt1 (List.mem_of_getElem? (i := 0) rfl) (by decide +kernel)
theorem cs_L_chosen : Cond.static yL_chosen ∈ gw := gwt3 (List.mem_of_getElem? (i := 143) rfl) (by decide +kernel)
theorem cd_L_chosen : yL_chosen.cls ≠ "java/lang/invoke/MethodHandle" ∧ yL_chosen.cls ≠ "java/lang/invoke/VarHandle" ∧ (parseMethodDescriptor yL_chosen.desc).map (fun d => d.parameters.length) = some 2 := ⟨by decide, by decide, by decide +kernel⟩
theorem cw_L_fits : Cond.code yL_fits cL_fits 4 (some .boolean) ∈ gw := gwt6 (List.mem_of_getElem? (i := 11) rfl) (by decide +kernel)
theorem ci_L_fits : Cond.initialized yL_fits.cls ∈ gw := gwt1 (List.mem_of_getElem? (i := 0) rfl) (by decide +kernel)
theorem cs_L_fits : Cond.static yL_fits ∈ gw := gwt6 (List.mem_of_getElem? (i := 10) rfl) (by decide +kernel)
theorem cd_L_fits : yL_fits.cls ≠ "java/lang/invoke/MethodHandle" ∧ yL_fits.cls ≠ "java/lang/invoke/VarHandle" ∧ (parseMethodDescriptor yL_fits.desc).map (fun d => d.parameters.length) = some 2 := ⟨by decide, by decide, by decide +kernel⟩
theorem cw_L_mark : Cond.code yL_mark cL_mark 7 (some .long) ∈ gw := gwt3 (List.mem_of_getElem? (i := 148) rfl) (by decide +kernel)
theorem ci_L_mark : Cond.initialized yL_mark.cls ∈ gw := gwt1 (List.mem_of_getElem? (i := 0) rfl) (by decide +kernel)
theorem cs_L_mark : Cond.static yL_mark ∈ gw := gwt3 (List.mem_of_getElem? (i := 147) rfl) (by decide +kernel)
theorem cd_L_mark : yL_mark.cls ≠ "java/lang/invoke/MethodHandle" ∧ yL_mark.cls ≠ "java/lang/invoke/VarHandle" ∧ (parseMethodDescriptor yL_mark.desc).map (fun d => d.parameters.length) = some 1 := ⟨by decide, by decide, by decide +kernel⟩
theorem cw_L_removes : Cond.code yL_removes cL_removes 17 (some .boolean) ∈ gw := gwt6 (List.mem_of_getElem? (i := 161) rfl) (by decide +kernel)
theorem ci_L_removes : Cond.initialized yL_removes.cls ∈ gw := gwt1 (List.mem_of_getElem? (i := 0) rfl) (by decide +kernel)
theorem cs_L_removes : Cond.static yL_removes ∈ gw := gwt6 (List.mem_of_getElem? (i := 160) rfl) (by decide +kernel)
theorem cd_L_removes : yL_removes.cls ≠ "java/lang/invoke/MethodHandle" ∧ yL_removes.cls ≠ "java/lang/invoke/VarHandle" ∧ (parseMethodDescriptor yL_removes.desc).map (fun d => d.parameters.length) = some 2 := ⟨by decide, by decide, by decide +kernel⟩
theorem cw_L_runs : Cond.code yL_runs cL_runs 3 (some .long) ∈ gw := gwt5 (List.mem_of_getElem? (i := 142) rfl) (by decide +kernel)
theorem ci_L_runs : Cond.initialized yL_runs.cls ∈ gw := gwt1 (List.mem_of_getElem? (i := 0) rfl) (by decide +kernel)
theorem cs_L_runs : Cond.static yL_runs ∈ gw := gwt5 (List.mem_of_getElem? (i := 141) rfl) (by decide +kernel)
theorem cd_L_runs : yL_runs.cls ≠ "java/lang/invoke/MethodHandle" ∧ yL_runs.cls ≠ "java/lang/invoke/VarHandle" ∧ (parseMethodDescriptor yL_runs.desc).map (fun d => d.parameters.length) = some 2 := ⟨by decide, by decide, by decide +kernel⟩
theorem cw_L_spreads : Cond.code yL_spreads cL_spreads 10 (some .boolean) ∈ gw := gwt6 (List.mem_of_getElem? (i := 83) rfl) (by decide +kernel)
theorem ci_L_spreads : Cond.initialized yL_spreads.cls ∈ gw := gwt1 (List.mem_of_getElem? (i := 0) rfl) (by decide +kernel)
theorem cs_L_spreads : Cond.static yL_spreads ∈ gw := gwt6 (List.mem_of_getElem? (i := 82) rfl) (by decide +kernel)
theorem cd_L_spreads : yL_spreads.cls ≠ "java/lang/invoke/MethodHandle" ∧ yL_spreads.cls ≠ "java/lang/invoke/VarHandle" ∧ (parseMethodDescriptor yL_spreads.desc).map (fun d => d.parameters.length) = some 2 := ⟨by decide, by decide, by decide +kernel⟩
theorem cw_X7_activeLoudness : Cond.code yX7_activeLoudness cX7_activeLoudness 1 (some .long) ∈ gw := gwt6 (List.mem_of_getElem? (i := 220) rfl) (by decide +kernel)
theorem ci_X7_activeLoudness : Cond.initialized yX7_activeLoudness.cls ∈ gw := gwt1 (List.mem_of_getElem? (i := 1) rfl) (by decide +kernel)
theorem cs_X7_activeLoudness : Cond.instanceMethod yX7_activeLoudness ∈ gw := gwt6 (List.mem_of_getElem? (i := 218) rfl) (by decide +kernel)
theorem ce_X7_activeLoudness : Cond.selects RX7 yX7_activeLoudness yX7_activeLoudness ∈ gw := gwt6 (List.mem_of_getElem? (i := 219) rfl) (by decide +kernel)
theorem cd_X7_activeLoudness : yX7_activeLoudness.cls ≠ "java/lang/invoke/MethodHandle" ∧ yX7_activeLoudness.cls ≠ "java/lang/invoke/VarHandle" ∧ (parseMethodDescriptor yX7_activeLoudness.desc).map (fun d => d.parameters.length) = some 0 := ⟨by decide, by decide, by decide +kernel⟩
theorem cw_X7_addedLoudness : Cond.code yX7_addedLoudness cX7_addedLoudness 1 (some .long) ∈ gw := gwt3 (List.mem_of_getElem? (i := 164) rfl) (by decide +kernel)
theorem ci_X7_addedLoudness : Cond.initialized yX7_addedLoudness.cls ∈ gw := gwt1 (List.mem_of_getElem? (i := 1) rfl) (by decide +kernel)
theorem cs_X7_addedLoudness : Cond.instanceMethod yX7_addedLoudness ∈ gw := gwt3 (List.mem_of_getElem? (i := 162) rfl) (by decide +kernel)
theorem ce_X7_addedLoudness : Cond.selects RX7 yX7_addedLoudness yX7_addedLoudness ∈ gw := gwt3 (List.mem_of_getElem? (i := 163) rfl) (by decide +kernel)
theorem cd_X7_addedLoudness : yX7_addedLoudness.cls ≠ "java/lang/invoke/MethodHandle" ∧ yX7_addedLoudness.cls ≠ "java/lang/invoke/VarHandle" ∧ (parseMethodDescriptor yX7_addedLoudness.desc).map (fun d => d.parameters.length) = some 0 := ⟨by decide, by decide, by decide +kernel⟩
theorem cw_X7_echoCount : Cond.code yX7_echoCount cX7_echoCount 1 (some .int) ∈ gw := gwt2 (List.mem_of_getElem? (i := 21) rfl) (by decide +kernel)
theorem ci_X7_echoCount : Cond.initialized yX7_echoCount.cls ∈ gw := gwt1 (List.mem_of_getElem? (i := 1) rfl) (by decide +kernel)
theorem cs_X7_echoCount : Cond.instanceMethod yX7_echoCount ∈ gw := gwt2 (List.mem_of_getElem? (i := 19) rfl) (by decide +kernel)
theorem ce_X7_echoCount : Cond.selects RX7 yX7_echoCount yX7_echoCount ∈ gw := gwt2 (List.mem_of_getElem? (i := 20) rfl) (by decide +kernel)
theorem cd_X7_echoCount : yX7_echoCount.cls ≠ "java/lang/invoke/MethodHandle" ∧ yX7_echoCount.cls ≠ "java/lang/invoke/VarHandle" ∧ (parseMethodDescriptor yX7_echoCount.desc).map (fun d => d.parameters.length) = some 0 := ⟨by decide, by decide, by decide +kernel⟩
theorem cw_X7_isActive : Cond.code yX7_isActive cX7_isActive 2 (some .boolean) ∈ gw := gwt6 (List.mem_of_getElem? (i := 216) rfl) (by decide +kernel)
theorem ci_X7_isActive : Cond.initialized yX7_isActive.cls ∈ gw := gwt1 (List.mem_of_getElem? (i := 1) rfl) (by decide +kernel)
theorem cs_X7_isActive : Cond.instanceMethod yX7_isActive ∈ gw := gwt6 (List.mem_of_getElem? (i := 214) rfl) (by decide +kernel)
theorem ce_X7_isActive : Cond.selects RX7 yX7_isActive yX7_isActive ∈ gw := gwt6 (List.mem_of_getElem? (i := 215) rfl) (by decide +kernel)
theorem cd_X7_isActive : yX7_isActive.cls ≠ "java/lang/invoke/MethodHandle" ∧ yX7_isActive.cls ≠ "java/lang/invoke/VarHandle" ∧ (parseMethodDescriptor yX7_isActive.desc).map (fun d => d.parameters.length) = some 1 := ⟨by decide, by decide, by decide +kernel⟩
theorem cw_X7_isConsistent : Cond.code yX7_isConsistent cX7_isConsistent 2 (some .boolean) ∈ gw := gwt6 (List.mem_of_getElem? (i := 15) rfl) (by decide +kernel)
theorem ci_X7_isConsistent : Cond.initialized yX7_isConsistent.cls ∈ gw := gwt1 (List.mem_of_getElem? (i := 1) rfl) (by decide +kernel)
theorem cs_X7_isConsistent : Cond.instanceMethod yX7_isConsistent ∈ gw := gwt6 (List.mem_of_getElem? (i := 13) rfl) (by decide +kernel)
theorem ce_X7_isConsistent : Cond.selects RX7 yX7_isConsistent yX7_isConsistent ∈ gw := gwt6 (List.mem_of_getElem? (i := 14) rfl) (by decide +kernel)
theorem cd_X7_isConsistent : yX7_isConsistent.cls ≠ "java/lang/invoke/MethodHandle" ∧ yX7_isConsistent.cls ≠ "java/lang/invoke/VarHandle" ∧ (parseMethodDescriptor yX7_isConsistent.desc).map (fun d => d.parameters.length) = some 0 := ⟨by decide, by decide, by decide +kernel⟩
theorem cw_X7_lostLoudness : Cond.code yX7_lostLoudness cX7_lostLoudness 1 (some .long) ∈ gw := gwt3 (List.mem_of_getElem? (i := 169) rfl) (by decide +kernel)
theorem ci_X7_lostLoudness : Cond.initialized yX7_lostLoudness.cls ∈ gw := gwt1 (List.mem_of_getElem? (i := 1) rfl) (by decide +kernel)
theorem cs_X7_lostLoudness : Cond.instanceMethod yX7_lostLoudness ∈ gw := gwt3 (List.mem_of_getElem? (i := 167) rfl) (by decide +kernel)
theorem ce_X7_lostLoudness : Cond.selects RX7 yX7_lostLoudness yX7_lostLoudness ∈ gw := gwt3 (List.mem_of_getElem? (i := 168) rfl) (by decide +kernel)
theorem cd_X7_lostLoudness : yX7_lostLoudness.cls ≠ "java/lang/invoke/MethodHandle" ∧ yX7_lostLoudness.cls ≠ "java/lang/invoke/VarHandle" ∧ (parseMethodDescriptor yX7_lostLoudness.desc).map (fun d => d.parameters.length) = some 0 := ⟨by decide, by decide, by decide +kernel⟩
theorem cw_X7_moveCount : Cond.code yX7_moveCount cX7_moveCount 1 (some .int) ∈ gw := gwt3 (List.mem_of_getElem? (i := 154) rfl) (by decide +kernel)
theorem ci_X7_moveCount : Cond.initialized yX7_moveCount.cls ∈ gw := gwt1 (List.mem_of_getElem? (i := 1) rfl) (by decide +kernel)
theorem cs_X7_moveCount : Cond.instanceMethod yX7_moveCount ∈ gw := gwt3 (List.mem_of_getElem? (i := 152) rfl) (by decide +kernel)
theorem ce_X7_moveCount : Cond.selects RX7 yX7_moveCount yX7_moveCount ∈ gw := gwt3 (List.mem_of_getElem? (i := 153) rfl) (by decide +kernel)
theorem cd_X7_moveCount : yX7_moveCount.cls ≠ "java/lang/invoke/MethodHandle" ∧ yX7_moveCount.cls ≠ "java/lang/invoke/VarHandle" ∧ (parseMethodDescriptor yX7_moveCount.desc).map (fun d => d.parameters.length) = some 0 := ⟨by decide, by decide, by decide +kernel⟩
theorem cw_X7_removeCount : Cond.code yX7_removeCount cX7_removeCount 1 (some .int) ∈ gw := gwt3 (List.mem_of_getElem? (i := 159) rfl) (by decide +kernel)
theorem ci_X7_removeCount : Cond.initialized yX7_removeCount.cls ∈ gw := gwt1 (List.mem_of_getElem? (i := 1) rfl) (by decide +kernel)
theorem cs_X7_removeCount : Cond.instanceMethod yX7_removeCount ∈ gw := gwt3 (List.mem_of_getElem? (i := 157) rfl) (by decide +kernel)
theorem ce_X7_removeCount : Cond.selects RX7 yX7_removeCount yX7_removeCount ∈ gw := gwt3 (List.mem_of_getElem? (i := 158) rfl) (by decide +kernel)
theorem cd_X7_removeCount : yX7_removeCount.cls ≠ "java/lang/invoke/MethodHandle" ∧ yX7_removeCount.cls ≠ "java/lang/invoke/VarHandle" ∧ (parseMethodDescriptor yX7_removeCount.desc).map (fun d => d.parameters.length) = some 0 := ⟨by decide, by decide, by decide +kernel⟩
theorem cw_X7_rowCount : Cond.code yX7_rowCount cX7_rowCount 1 (some .int) ∈ gw := gwt3 (List.mem_of_getElem? (i := 173) rfl) (by decide +kernel)
theorem ci_X7_rowCount : Cond.initialized yX7_rowCount.cls ∈ gw := gwt1 (List.mem_of_getElem? (i := 1) rfl) (by decide +kernel)
theorem cs_X7_rowCount : Cond.instanceMethod yX7_rowCount ∈ gw := gwt3 (List.mem_of_getElem? (i := 171) rfl) (by decide +kernel)
theorem ce_X7_rowCount : Cond.selects RX7 yX7_rowCount yX7_rowCount ∈ gw := gwt3 (List.mem_of_getElem? (i := 172) rfl) (by decide +kernel)
theorem cd_X7_rowCount : yX7_rowCount.cls ≠ "java/lang/invoke/MethodHandle" ∧ yX7_rowCount.cls ≠ "java/lang/invoke/VarHandle" ∧ (parseMethodDescriptor yX7_rowCount.desc).map (fun d => d.parameters.length) = some 0 := ⟨by decide, by decide, by decide +kernel⟩
theorem cw_X7_save : Cond.code yX7_save cX7_save 1 (some .int) ∈ gw := gwt2 (List.mem_of_getElem? (i := 33) rfl) (by decide +kernel)
theorem ci_X7_save : Cond.initialized yX7_save.cls ∈ gw := gwt1 (List.mem_of_getElem? (i := 1) rfl) (by decide +kernel)
theorem cs_X7_save : Cond.instanceMethod yX7_save ∈ gw := gwt2 (List.mem_of_getElem? (i := 31) rfl) (by decide +kernel)
theorem ce_X7_save : Cond.selects RX7 yX7_save yX7_save ∈ gw := gwt2 (List.mem_of_getElem? (i := 32) rfl) (by decide +kernel)
theorem cd_X7_save : yX7_save.cls ≠ "java/lang/invoke/MethodHandle" ∧ yX7_save.cls ≠ "java/lang/invoke/VarHandle" ∧ (parseMethodDescriptor yX7_save.desc).map (fun d => d.parameters.length) = some 0 := ⟨by decide, by decide, by decide +kernel⟩
theorem cw_X7_undoableCount : Cond.code yX7_undoableCount cX7_undoableCount 1 (some .int) ∈ gw := gwt2 (List.mem_of_getElem? (i := 29) rfl) (by decide +kernel)
theorem ci_X7_undoableCount : Cond.initialized yX7_undoableCount.cls ∈ gw := gwt1 (List.mem_of_getElem? (i := 1) rfl) (by decide +kernel)
theorem cs_X7_undoableCount : Cond.instanceMethod yX7_undoableCount ∈ gw := gwt2 (List.mem_of_getElem? (i := 27) rfl) (by decide +kernel)
theorem ce_X7_undoableCount : Cond.selects RX7 yX7_undoableCount yX7_undoableCount ∈ gw := gwt2 (List.mem_of_getElem? (i := 28) rfl) (by decide +kernel)
theorem cd_X7_undoableCount : yX7_undoableCount.cls ≠ "java/lang/invoke/MethodHandle" ∧ yX7_undoableCount.cls ≠ "java/lang/invoke/VarHandle" ∧ (parseMethodDescriptor yX7_undoableCount.desc).map (fun d => d.parameters.length) = some 0 := ⟨by decide, by decide, by decide +kernel⟩
def m_L_chosen (p0 : Int32) (p1 : Int32) (s : Mem) : Option Int32 := if ¬ p1 = 0 then some ((p0 &&& 2147483647) - (p0 &&& 2147483647) / p1 * p1) else none
def m_L_runs_b2 (q1 : Nat) (s : Mem) (kf2 : (Int32 × Mem) → Res Int64) (w2 : Int32) : Res Int64 := if nI (strN q1) ≤ w2 then (bindR (m_L_run s) (fun v3 s2 => some (.inl v3, s2))) else (if ib w2 (strN q1) then bindR (m_L_append (nI (strC q1 w2.toNatClampNeg)) s) (fun v5 s4 => vl (w2 + 1) (fun y6 => kf2 (y6, s4))) else none)
def m_L_runs (p1 : Nat) (s : Mem) : Res Int64 := lp (fun kf2 a => m_L_runs_b2 p1 a.2 kf2 a.1) FUEL (0, s)
def m_L_mark_b170 (s : Mem) (kf170 : (Int64 × Int32 × Mem) → Res Int64) (w1 : Int64) (w3 : Int32) : Res Int64 := if 104 < w3 then (some (.inl w1, s)) else (bindR (m_L_namedRow w3 s) (fun v8 s7 => vl (((w3 + 1).toUInt32 % 65536).toInt32) (fun y9 => kf170 ((31 * w1) + (v8 - v8 / 1000 * 1000), y9, s7))))
def m_L_mark_b133 (x14 : Int32) (x15 : Int64) (s : Mem) (kf110 : (Int64 × Int32 × Mem) → Res Int64) (kf133 : (Int64 × Int32 × Mem) → Res Int64) (w1 : Int64) (w6 : Int32) : Res Int64 := if 0 ≤ lg_cmp w6.toInt64 x15 then (vl (x14 + 1) (fun y16 => kf110 (w1, y16, s))) else (bindR (m_L_lineChar w6 s) (fun v18 s17 => vl (w6 + 1) (fun y19 => kf133 ((31 * w1) + v18, y19, s17))))
def m_L_mark_b110 (s : Mem) (kf110 : (Int64 × Int32 × Mem) → Res Int64) (w1 : Int64) (w3 : Int32) : Res Int64 := bindP (m_X7_echoCount s) (fun v6 => if v6 ≤ w3 then (lp (fun kf170 a => m_L_mark_b170 a.2.2 kf170 a.1 a.2.1) FUEL (w1, 97, s)) else (bindR (m_L_idByRank w3 s) (fun v11 s10 => bindR (m_L_formatEcho (Int64.toInt32 v11) s10) (fun v13 s12 => lp (fun kf133 a => m_L_mark_b133 w3 v13 a.2.2 kf110 kf133 a.1 a.2.1) FUEL (w1, 0, s12)))))
def m_L_mark_b62 (x22 : Int32) (x23 : Int64) (s : Mem) (kf44 : (Int64 × Int32 × Mem) → Res Int64) (kf62 : (Int64 × Int32 × Mem) → Res Int64) (w1 : Int64) (w6 : Int32) : Res Int64 := if 0 ≤ lg_cmp w6.toInt64 x23 then (bindR (m_L_boxCount x22 s) (fun v25 s24 => vl (x22 + 1) (fun y26 => kf44 ((31 * w1) + v25, y26, s24)))) else (bindR (m_L_lineChar w6 s) (fun v28 s27 => vl (w6 + 1) (fun y29 => kf62 ((31 * w1) + v28, y29, s27))))
def m_L_mark_b44 (s : Mem) (kf44 : (Int64 × Int32 × Mem) → Res Int64) (w1 : Int64) (w3 : Int32) : Res Int64 := bindP (m_X7_rowCount s) (fun v5 => if v5 ≤ w3 then (lp (fun kf110 a => m_L_mark_b110 a.2.2 kf110 a.1 a.2.1) FUEL (w1, 0, s)) else (bindR (m_L_formatRow w3 s) (fun v21 s20 => lp (fun kf62 a => m_L_mark_b62 w3 v21 a.2.2 kf44 kf62 a.1 a.2.1) FUEL (w1, 0, s20))))
def m_L_mark (s : Mem) : Res Int64 := bindP (m_X7_moveCount s) (fun v1 => bindP (m_X7_removeCount s) (fun v2 => bindP (m_X7_addedLoudness s) (fun v3 => bindP (m_X7_lostLoudness s) (fun v4 => lp (fun kf44 a => m_L_mark_b44 a.2.2 kf44 a.1 a.2.1) FUEL ((((17 + (3 * v1.toInt64)) + (5 * v2.toInt64)) + (7 * v3)) + (11 * v4), 0, s)))))
def m_L_anId (p1 : Int32) (s : Mem) : Res Int32 := bindP (m_X7_echoCount s) (fun v1 => if ¬ v1 = 0 then (bindP (m_X7_echoCount s) (fun v2 => if ¬ v2 = 0 then bindR (m_L_idByRank (p1 - p1 / v2 * v2) s) (fun v5 s4 => some (.inl (Int64.toInt32 v5), s4)) else none)) else (some (.inl 0, s)))
def m_L_acts (p1 : Int32) (s : Mem) : Res Int64 := bindP (m_L_chosen (p1 >>> (8 &&& 31)) 100000 s) (fun v1 => bindP (m_X7_rowCount s) (fun v2 => bindP (m_L_chosen p1 24 s) (fun v3 => if v3 = 0 then (bindR (m_L_addRow (1 + (v1 - v1 / 12 * 12)) s) (fun v6 s5 => some (.inl v6, s5))) else if v3 = 1 then (if ¬ v2 = 0 then bindR (m_L_addPhantoms (v1 - v1 / v2 * v2) (1 + ((v1 / 8) - (v1 / 8) / 3 * 3)) s) (fun v10 s9 => some (.inl v10, s9)) else none) else if v3 = 2 then (if ¬ v2 = 0 then bindR (m_L_addPhantoms (v1 - v1 / v2 * v2) (1 + ((v1 / 8) - (v1 / 8) / 3 * 3)) s) (fun v14 s13 => some (.inl v14, s13)) else none) else if v3 = 3 then (if ¬ v2 = 0 then bindR (m_L_removePhantoms (v1 - v1 / v2 * v2) (1 + ((v1 / 8) - (v1 / 8) / 3 * 3)) s) (fun v18 s17 => some (.inl v18, s17)) else none) else if v3 = 4 then (if ¬ v2 = 0 then bindR (m_L_add (v1 - v1 / v2 * v2) (1 + ((v1 / 8) - (v1 / 8) / 999 * 999)) s) (fun v22 s21 => some (.inl v22, s21)) else none) else if v3 = 5 then (if ¬ v2 = 0 then bindR (m_L_add (v1 - v1 / v2 * v2) (1 + ((v1 / 8) - (v1 / 8) / 999 * 999)) s) (fun v26 s25 => some (.inl v26, s25)) else none) else if v3 = 6 then (if ¬ v2 = 0 then bindR (m_L_add (v1 - v1 / v2 * v2) (1 + ((v1 / 8) - (v1 / 8) / 999 * 999)) s) (fun v30 s29 => some (.inl v30, s29)) else none) else if v3 = 7 then (if ¬ v2 = 0 then bindR (m_L_add (v1 - v1 / v2 * v2) (1 + ((v1 / 8) - (v1 / 8) / 999 * 999)) s) (fun v34 s33 => some (.inl v34, s33)) else none) else if v3 = 8 then (if ¬ v2 = 0 then bindR (m_L_add (v1 - v1 / v2 * v2) (1 + ((v1 / 8) - (v1 / 8) / 999 * 999)) s) (fun v38 s37 => some (.inl v38, s37)) else none) else if v3 = 9 then (bindR (m_L_anId (v1 / 8) s) (fun v40 s41 => if ¬ v2 = 0 then bindR (m_L_move v40 (v1 - v1 / v2 * v2) s41) (fun v44 s43 => some (.inl v44, s43)) else none)) else if v3 = 10 then (bindR (m_L_anId (v1 / 8) s) (fun v46 s47 => if ¬ v2 = 0 then bindR (m_L_move v46 (v1 - v1 / v2 * v2) s47) (fun v50 s49 => some (.inl v50, s49)) else none)) else if v3 = 11 then (bindR (m_L_anId v1 s) (fun v52 s53 => bindR (m_L_remove v52 s53) (fun v55 s54 => some (.inl v55, s54)))) else if v3 = 12 then (bindR (m_L_anId v1 s) (fun v57 s58 => bindR (m_L_anId (v1 / 24) s58) (fun v59 s60 => bindR (m_L_setHeir v57 v59 s60) (fun v62 s61 => some (.inl v62, s61))))) else if v3 = 13 then (bindR (m_L_anId v1 s) (fun v64 s65 => bindR (m_L_anId (v1 / 24) s65) (fun v66 s67 => bindR (m_L_setHeir v64 v66 s67) (fun v69 s68 => some (.inl v69, s68))))) else if v3 = 14 then (bindR (m_L_anId v1 s) (fun v71 s72 => bindR (m_L_anId (v1 / 24) s72) (fun v73 s74 => bindR (m_L_setHeir v71 v73 s74) (fun v76 s75 => some (.inl v76, s75))))) else if v3 = 15 then (bindR (m_L_anId v1 s) (fun v78 s79 => bindR (m_L_clearHeir v78 s79) (fun v81 s80 => some (.inl v81, s80)))) else if v3 = 16 then (if ¬ v1 - v1 / 2 * 2 = 0 then (if ¬ v2 = 0 then bindR (m_L_unlock ((v1 / 2) - (v1 / 2) / v2 * v2) s) (fun v85 s84 => some (.inl v85, s84)) else none) else (if ¬ v2 = 0 then bindR (m_L_lock ((v1 / 2) - (v1 / 2) / v2 * v2) s) (fun v88 s87 => some (.inl v88, s87)) else none)) else if v3 = 17 then (if ¬ v2 = 0 then bindR (m_L_nameRow (((97 + (v1 - v1 / 8 * 8)).toUInt32 % 65536).toInt32) ((v1 / 8) - (v1 / 8) / v2 * v2) s) (fun v92 s91 => some (.inl v92, s91)) else none) else if v3 = 18 then (if ¬ v2 = 0 then bindR (m_L_spread (v1 - v1 / v2 * v2) s) (fun v96 s95 => some (.inl v96, s95)) else none) else (if ib (v1 - v1 / 8 * 8) 8 then bindR (m_L_runs (3046 + (v1 - v1 / 8 * 8).toNatClampNeg) s) (fun v98 s99 => some (.inl v98, s99)) else none))))
def m_L_spreads_j150 (x15 : Int64) (x16 : Int32) (s : Mem) : Res Int32 := bindR (m_L_undo s) (fun v18 s17 => if x16 = 0 then (some (.inl 0, s17)) else (bindR (m_L_mark s17) (fun v19 s20 => if ¬ lg_cmp v19 x15 = 0 then (some (.inl 0, s20)) else (some (.inl 1, s20)))))
def m_L_spreads_j149 (x14 : Int64) (s : Mem) : Res Int32 := m_L_spreads_j150 x14 0 s 
def m_L_spreads_j138 (x26 : Int64) (s : Mem) : Res Int32 := bindR (m_X7_isConsistent s) (fun v27 s28 => if v27 = 0 then (m_L_spreads_j149 x26 s28 ) else (m_L_spreads_j150 x26 1 s28 ))
def m_L_spreads_b57 (x7 : Int32) (x8 : Int64) (x9 : Int64) (x10 : Int64) (s : Mem) (kf57 : (Int32 × Int32 × Mem) → Res Int32) (w8 : Int32) (w9 : Int32) : Res Int32 := bindP (m_X7_rowCount s) (fun v11 => if v11 ≤ w9 then (bindR (m_L_occupancy x7 s) (fun v13 s12 => if ¬ lg_cmp v13 (x9 - x10) = 0 then (m_L_spreads_j149 x8 s12 ) else (bindR (m_L_isCrowded x7 s12) (fun v25 s24 => if lg_cmp v25 0 = 0 then (m_L_spreads_j138 x8 s24 ) else (if ¬ w8 = 0 then (m_L_spreads_j149 x8 s24 ) else (m_L_spreads_j138 x8 s24 )))))) else (bindR (m_L_isLocked w9 s) (fun v36 s35 => if ¬ lg_cmp v36 0 = 0 then (vl (w8 ||| 0) (fun y37 => vl (w9 + 1) (fun y38 => kf57 (y37, y38, s35)))) else (bindR (m_L_occupancy w9 s35) (fun v40 s39 => bindR (m_L_capacity w9 s39) (fun v42 s41 => if 0 ≤ lg_cmp v40 v42 then (vl (w8 ||| 0) (fun y43 => vl (w9 + 1) (fun y44 => kf57 (y43, y44, s41)))) else (vl (w8 ||| 1) (fun y45 => vl (w9 + 1) (fun y46 => kf57 (y45, y46, s41))))))))))
def m_L_spreads (p1 : Int32) (s : Mem) : Res Int32 := bindR (m_L_mark s) (fun v1 s2 => bindR (m_L_occupancy p1 s2) (fun v4 s3 => bindR (m_L_spread p1 s3) (fun v6 s5 => if 0 ≤ lg_cmp v6 0 then (lp (fun kf57 a => m_L_spreads_b57 p1 v1 v4 v6 a.2.2 kf57 a.1 a.2.1) FUEL (0, 0, s5)) else (bindR (m_L_isLocked p1 s5) (fun v48 s47 => if ¬ lg_cmp v48 1 = 0 then (some (.inl 0, s47)) else (bindR (m_L_mark s47) (fun v49 s50 => if ¬ lg_cmp v49 v1 = 0 then (some (.inl 0, s50)) else (some (.inl 1, s50)))))))))
def m_L_removes_j255 (x60 : Int64) (x61 : Int32) (x62 : Int32) (s : Mem) : Res Int32 := vl (x62 &&& x61) (fun y63 => bindR (m_L_undo s) (fun v65 s64 => if y63 = 0 then (some (.inl 0, s64)) else (bindR (m_L_mark s64) (fun v66 s67 => if ¬ lg_cmp v66 x60 = 0 then (some (.inl 0, s67)) else (some (.inl 1, s67))))))
def m_L_removes_j254 (x58 : Int64) (x59 : Int32) (s : Mem) : Res Int32 := m_L_removes_j255 x58 0 x59 s 
def m_L_removes_j221 (x54 : Int32) (x55 : Int64) (x56 : Int32) (s : Mem) : Res Int32 := bindP (m_X7_isActive x54 s) (fun v57 => if ¬ v57 = 0 then (m_L_removes_j254 x55 x56 s ) else (bindP (m_X7_addedLoudness s) (fun v73 => bindP (m_X7_activeLoudness s) (fun v74 => bindP (m_X7_lostLoudness s) (fun v75 => if ¬ lg_cmp v73 (v74 + v75) = 0 then (m_L_removes_j254 x55 x56 s ) else (m_L_removes_j255 x55 1 x56 s ))))))
def m_L_removes_j220 (x52 : Int32) (x53 : Int64) (s : Mem) : Res Int32 := m_L_removes_j221 x52 x53 0 s 
def m_L_removes_j98 (x36 : Int32) (x37 : Int64) (x38 : Int64) (x39 : Int64) (x40 : Int64) (x41 : Int64) (x42 : Int32) (x43 : Int32) (s : Mem) : Res Int32 := if ¬ x43 = x42 then (some (.inl 0, s)) else (bindR (m_L_lastHeir x36 s) (fun v45 s44 => bindR (m_L_lastHeirByDoubling x36 s44) (fun v47 s46 => if lg_cmp v45 v47 = 0 then (bindR (m_L_remove x36 s46) (fun v49 s48 => if 0 ≤ lg_cmp v49 0 then (if 0 ≤ lg_cmp x39 0 then (bindR (m_L_loudness (Int64.toInt32 x39) s48) (fun v51 s50 => if ¬ lg_cmp v51 ((x40 + x38) - v49) = 0 then (m_L_removes_j220 x36 x37 s50 ) else (bindR (m_L_bequeathers (Int64.toInt32 x39) s50) (fun v87 s86 => if ¬ lg_cmp v87 x41 = 0 then (m_L_removes_j220 x36 x37 s86 ) else (m_L_removes_j221 x36 x37 1 s86 ))))) else (if ¬ lg_cmp v49 x38 = 0 then (m_L_removes_j221 x36 x37 0 s48 ) else (m_L_removes_j221 x36 x37 1 s48 ))) else (bindR (m_L_rowOf x36 s48) (fun v100 s99 => bindR (m_L_isLocked (Int64.toInt32 v100) s99) (fun v102 s101 => if ¬ lg_cmp v102 1 = 0 then (some (.inl 0, s101)) else (bindR (m_L_mark s101) (fun v103 s104 => if ¬ lg_cmp v103 x37 = 0 then (some (.inl 0, s104)) else (some (.inl 1, s104))))))))) else (some (.inl 0, s46)))))
def m_L_removes_j86 (x28 : Int32) (x29 : Int64) (x30 : Int64) (x31 : Int64) (x32 : Int64) (x33 : Int64) (x34 : Int64) (x35 : Int32) (s : Mem) : Res Int32 := if ¬ lg_cmp x32 0 = 0 then (m_L_removes_j98 x28 x29 x30 x31 x33 x34 0 x35 s ) else (m_L_removes_j98 x28 x29 x30 x31 x33 x34 1 x35 s )
def m_L_removes_j72 (x21 : Int32) (x22 : Int64) (x23 : Int64) (x24 : Int64) (x25 : Int64) (x26 : Int64) (x27 : Int64) (s : Mem) : Res Int32 := if 0 ≤ lg_cmp x24 0 then (m_L_removes_j86 x21 x22 x23 x24 x25 x26 x27 0 s ) else (m_L_removes_j86 x21 x22 x23 x24 x25 x26 x27 1 s )
def m_L_removes_j44 (x11 : Int32) (x12 : Int64) (x13 : Int64) (x14 : Int64) (x15 : Int64) (x16 : Int64) (s : Mem) : Res Int32 := if 0 ≤ lg_cmp x14 0 then (bindR (m_L_bequeathers (Int64.toInt32 x14) s) (fun v18 s17 => bindR (m_L_bequeathers x11 s17) (fun v20 s19 => m_L_removes_j72 x11 x12 x13 x14 x15 x16 ((v18 + v20) - 1) s19 ))) else (m_L_removes_j72 x11 x12 x13 x14 x15 x16 0 s )
def m_L_removes (p1 : Int32) (s : Mem) : Res Int32 := bindR (m_L_mark s) (fun v1 s2 => bindR (m_L_loudness p1 s2) (fun v4 s3 => bindR (m_L_heir p1 s3) (fun v6 s5 => bindR (m_L_stepsToLastHeir p1 s5) (fun v8 s7 => if 0 ≤ lg_cmp v6 0 then (bindR (m_L_loudness (Int64.toInt32 v6) s7) (fun v10 s9 => m_L_removes_j44 p1 v1 v4 v6 v8 v10 s9 )) else (m_L_removes_j44 p1 v1 v4 v6 v8 0 s7 )))))
def m_L_fits_b37 (x5 : Int32) (s : Mem) (kf37 : (Int32 × Mem) → Res Int32) (w2 : Int32) : Res Int32 := bindP (m_X7_echoCount s) (fun v6 => if v6 ≤ w2 then (bindP (m_X7_rowCount s) (fun v7 => bindP (m_L_chosen x5 v7 s) (fun v8 => bindP (m_X7_rowCount s) (fun v9 => vl (v9 - 1) (fun y10 => bindR (m_L_countInRows v8 y10 s) (fun v12 s11 => bindR (m_L_countInRowsByTree v8 y10 s11) (fun v14 s13 => if ¬ lg_cmp v12 v14 = 0 then (some (.inl 0, s13)) else (bindP (m_X7_echoCount s13) (fun v15 => if v15 = 0 then (some (.inl 1, s13)) else (bindR (m_L_loudest s13) (fun v17 s16 => bindR (m_L_loudness (Int64.toInt32 v17) s16) (fun v19 s18 => bindR (m_L_idByRank 0 s18) (fun v21 s20 => bindR (m_L_loudness (Int64.toInt32 v21) s20) (fun v23 s22 => if lg_cmp v19 v23 < 0 then (some (.inl 0, s22)) else (some (.inl 1, s22)))))))))))))))) else (bindR (m_L_idByRank w2 s) (fun v25 s24 => vl (Int64.toInt32 v25) (fun y26 => bindR (m_L_idByRankByTree w2 s24) (fun v28 s27 => if ¬ lg_cmp v28 y26.toInt64 = 0 then (some (.inl 0, s27)) else (bindR (m_L_rank y26 s27) (fun v30 s29 => if ¬ lg_cmp v30 w2.toInt64 = 0 then (some (.inl 0, s29)) else (bindR (m_L_rowOf y26 s29) (fun v32 s31 => bindR (m_L_positionInRow y26 s31) (fun v34 s33 => bindR (m_L_idInRow (Int64.toInt32 v32) (Int64.toInt32 v34) s33) (fun v36 s35 => if ¬ lg_cmp v36 y26.toInt64 = 0 then (some (.inl 0, s35)) else (bindR (m_L_removes y26 s35) (fun v37 s38 => if ¬ v37 = 0 then (vl (w2 + 1) (fun y39 => kf37 (y39, s38))) else (some (.inl 0, s38)))))))))))))))
def m_L_fits_b11 (x3 : Int32) (s : Mem) (kf11 : (Int32 × Mem) → Res Int32) (w2 : Int32) : Res Int32 := bindP (m_X7_rowCount s) (fun v4 => if v4 ≤ w2 then (lp (fun kf37 a => m_L_fits_b37 x3 a.2 kf37 a.1) FUEL (0, s)) else (bindR (m_L_spreads w2 s) (fun v40 s41 => if ¬ v40 = 0 then (vl (w2 + 1) (fun y42 => kf11 (y42, s41))) else (some (.inl 0, s41)))))
def m_L_fits (p1 : Int32) (s : Mem) : Res Int32 := bindR (m_X7_isConsistent s) (fun v1 s2 => if ¬ v1 = 0 then (lp (fun kf11 a => m_L_fits_b11 p1 a.2 kf11 a.1) FUEL (0, s2)) else (some (.inl 0, s2)))
set_option maxRecDepth 100000 in
set_option maxHeartbeats 4000000 in
theorem sat_L_chosen (l : Launch) (hl : l.stackTraces = false) (p0 : Int32) (p1 : Int32) (s : Mem) : Sat l yL_chosen (.code yL_chosen cL_chosen 2 (some .int)) 30 500 (fun x => some (.int x)) [.int p0, .int p1] s (pur s (m_L_chosen p0 p1 s)) := by
  refine sat_of hl (by decide) (Nat.le_of_ble_eq_true rfl) (fun X V A adV hxl hC hE hx hr => ?_) pur_mono
  subst hxl
  show LX X V A 30 500 (nC s) (nS s) _ 0 [(0, .int p0), (1, .int p1)] [] s _
  unfold m_L_chosen
  refine lx_iload_n hC dL_chosen_0 rfl 0 rfl ?_
  refine lx_ldc (v := 2147483647) hC wd645 dL_chosen_1 ?_
  refine lx_iand hC dL_chosen_3 ?_
  refine lx_iload_n hC dL_chosen_4 rfl 1 rfl ?_
  refine lq_g fun h1 => lx_irem hC dL_chosen_5 h1 ?_
  exact lx_iret hC rfl hr dL_chosen_6
set_option maxRecDepth 100000 in
set_option maxHeartbeats 4000000 in
theorem l_L_runs_b2 {X : Cx} {V : Vx} {A : Nat → Prop} {adV : Nat → Nat} {c0 s0 : Nat} (hC : Cok X V A yL_runs.cls cL_runs 3) (hE : Env0 V adV A (xs X) (xs X).heap) (hl : (xl X).stackTraces = false) (hx : ∀ x ∈ (xc X).exceptionTable.toList, False) (hr : (xh X).sig.returnType = some .long) (q1 : Nat) (hq1 : isStr q1) (s : Mem) (kf2 : (Int32 × Mem) → Res Int64) (hk2 : ∀ a, LX X V A 38 682 c0 s0 (FM X V A (fun x => some (.long x))) 2 [(0, .ref 0), (1, .ref q1), (2, .int a.1)] [] a.2 (kf2 a)) (w2 : Int32) : LX X V A 38 682 c0 s0 (FM X V A (fun x => some (.long x))) 2 [(0, .ref 0), (1, .ref q1), (2, .int w2)] [] s (m_L_runs_b2 q1 s kf2 w2 ) := by
  unfold m_L_runs_b2
  refine lx_iload_n hC dL_runs_2 rfl 2 rfl ?_
  refine lx_aload_n hC dL_runs_3 rfl 1 rfl ?_
  refine lx_stlen hC hE hq1 wd1123 (by decide) (by decide) (Nat.le_of_ble_eq_true rfl) dL_runs_4 ?_
  refine lx_icmp_ge hC 26 dL_runs_7 (by decide) ?_ ?_
  · skip
    refine lx_aload_n hC dL_runs_26 rfl 0 rfl ?_
    refine lx_callWR (as := [.ref 0]) (rest := []) hC hE (sat_L_run (xl X) hl s) (nt_wJ) cw_L_run ciL wd1148 cs_L_run cd_L_run (by decide) (Nat.le_of_ble_eq_true rfl) (Nat.le_of_ble_eq_true rfl) dL_runs_27 rfl (fun v3 s2 _ => ?_)
    exact lx_lret hC rfl hr dL_runs_30
  · skip
    refine lx_aload_n hC dL_runs_10 rfl 0 rfl ?_
    refine lx_aload_n hC dL_runs_11 rfl 1 rfl ?_
    refine lx_iload_n hC dL_runs_12 rfl 2 rfl ?_
    refine lx_stch hC hE hq1 wd1124 (by decide) (by decide) (Nat.le_of_ble_eq_true rfl) dL_runs_13 ?_
    refine lx_callWR (as := [.ref 0, .int (nI (strC q1 w2.toNatClampNeg))]) (rest := []) hC hE (sat_L_append (xl X) hl (nI (strC q1 w2.toNatClampNeg)) s) (nt_wJ) cw_L_append ciL wd1139 cs_L_append cd_L_append (by decide) (Nat.le_of_ble_eq_true rfl) (Nat.le_of_ble_eq_true rfl) dL_runs_16 rfl (fun v5 s4 _ => ?_)
    refine lx_pop2 hC dL_runs_19 ?_
    refine lx_iincN (v := 1) hC dL_runs_20 2 rfl (by decide) rfl (fun y6 => ?_)
    refine lx_goto hC 2 dL_runs_23 (by decide) ?_
    exact lx_sub [1, 2, 0] rfl (hk2 (y6, s4))
set_option maxRecDepth 100000 in
set_option maxHeartbeats 4000000 in
theorem n_L_runs_b2 (q1 : Nat) (s : Mem) (kf2 : (Int32 × Mem) → Res Int64) (hm2 : ∀ a, Mn a.2 (kf2 a)) (w2 : Int32) : Mn s (m_L_runs_b2 q1 s kf2 w2 ) := by
  unfold m_L_runs_b2
  refine mn_if ?_ ?_
  · skip
    refine mn_bind (n_L_run s) (fun v3 s2 => ?_)
    exact mn_some
  · skip
    refine mn_if ?_ mn_none
    refine mn_bind (n_L_append (nI (strC q1 w2.toNatClampNeg)) s) (fun v5 s4 => ?_)
    refine mn_vl (fun y6 => ?_)
    exact hm2 (y6, s4)
set_option maxRecDepth 100000 in
set_option maxHeartbeats 4000000 in
theorem n_L_runs (p1 : Nat) (s : Mem) : Mn s (m_L_runs p1 s) := by
  unfold m_L_runs
  exact mn_lp (sg := fun a => a.2) (fun kf hq a => n_L_runs_b2 p1 a.2 kf hq a.1) FUEL (0, s)
set_option maxRecDepth 100000 in
set_option maxHeartbeats 4000000 in
theorem sat_L_runs (l : Launch) (hl : l.stackTraces = false) (p1 : Nat) (hp1 : isStr p1) (s : Mem) : Sat l yL_runs (.code yL_runs cL_runs 3 (some .long)) 38 682 (fun x => some (.long x)) [.ref 0, .ref p1] s (m_L_runs p1 s) := by
  refine sat_of hl (by decide) (Nat.le_of_ble_eq_true rfl) (fun X V A adV hxl hC hE hx hr => ?_) (n_L_runs p1 s)
  subst hxl
  show LX X V A 38 682 (nC s) (nS s) _ 0 [(0, .ref 0), (1, .ref p1)] [] s _
  unfold m_L_runs
  refine lx_iconstv (v := 0) hC dL_runs_0 rfl ?_
  refine lx_istore_n hC dL_runs_1 rfl (by decide) ?_
  refine lx_sub [1, 2, 0] rfl ?_
  exact lx_lp (lv := fun a => [(0, .ref 0), (1, .ref p1), (2, .int a.1)]) (st := fun _ => []) (sg := fun a => a.2) (fun kf hq a => l_L_runs_b2 hC hE hl hx hr p1 hp1 a.2 kf hq a.1) FUEL (0, s)
set_option maxRecDepth 100000 in
set_option maxHeartbeats 4000000 in
theorem l_L_mark_b170 {X : Cx} {V : Vx} {A : Nat → Prop} {adV : Nat → Nat} {c0 s0 : Nat} (hC : Cok X V A yL_mark.cls cL_mark 7) (hE : Env0 V adV A (xs X) (xs X).heap) (hl : (xl X).stackTraces = false) (hx : ∀ x ∈ (xc X).exceptionTable.toList, False) (hr : (xh X).sig.returnType = some .long) (s : Mem) (kf170 : (Int64 × Int32 × Mem) → Res Int64) (hk170 : ∀ a, LX X V A 34 591 c0 s0 (FM X V A (fun x => some (.long x))) 170 [(0, .ref 0), (1, .long a.1), (3, .int a.2.1)] [] a.2.2 (kf170 a)) (w1 : Int64) (w3 : Int32) : LX X V A 34 591 c0 s0 (FM X V A (fun x => some (.long x))) 170 [(0, .ref 0), (1, .long w1), (3, .int w3)] [] s (m_L_mark_b170 s kf170 w1 w3 ) := by
  unfold m_L_mark_b170
  refine lx_iload_n hC dL_mark_170 rfl 2 rfl ?_
  refine lx_bipush (v := 104) hC dL_mark_171 (by decide) ?_
  refine lx_icmp_gt hC 200 dL_mark_173 (by decide) ?_ ?_
  · skip
    refine lx_lload_n hC dL_mark_200 rfl 1 rfl ?_
    exact lx_lret hC rfl hr dL_mark_201
  · skip
    refine lx_ldc2 (v := 31) hC wk262 dL_mark_176 ?_
    refine lx_lload_n hC dL_mark_179 rfl 1 rfl ?_
    refine lx_lmul hC dL_mark_180 ?_
    refine lx_aload_n hC dL_mark_181 rfl 0 rfl ?_
    refine lx_iload_n hC dL_mark_182 rfl 2 rfl ?_
    refine lx_callWR (as := [.ref 0, .int w3]) (rest := [.long (31 * w1)]) hC hE (sat_L_namedRow (xl X) hl w3 s) (nt_wJ) cw_L_namedRow ciL wd1033 cs_L_namedRow cd_L_namedRow (by decide) (Nat.le_of_ble_eq_true rfl) (Nat.le_of_ble_eq_true rfl) dL_mark_183 rfl (fun v8 s7 _ => ?_)
    refine lx_ldc2 (v := 1000) hC wk274 dL_mark_186 ?_
    refine lx_lrem hC dL_mark_189 (by decide) ?_
    refine lx_ladd hC dL_mark_190 ?_
    refine lx_lstore_n hC dL_mark_191 rfl (by decide) ?_
    refine lx_iload_n hC dL_mark_192 rfl 2 rfl ?_
    refine lx_iconstv (v := 1) hC dL_mark_193 rfl ?_
    refine lx_iadd hC dL_mark_194 ?_
    refine lx_i2c hC dL_mark_195 ?_
    refine lx_istore_nN hC dL_mark_196 rfl (by decide) (fun y9 => ?_)
    refine lx_goto hC 170 dL_mark_197 (by decide) ?_
    exact lx_sub [2, 1, 0] rfl (hk170 ((31 * w1) + (v8 - v8 / 1000 * 1000), y9, s7))
set_option maxRecDepth 100000 in
set_option maxHeartbeats 4000000 in
theorem n_L_mark_b170 (s : Mem) (kf170 : (Int64 × Int32 × Mem) → Res Int64) (hm170 : ∀ a, Mn a.2.2 (kf170 a)) (w1 : Int64) (w3 : Int32) : Mn s (m_L_mark_b170 s kf170 w1 w3 ) := by
  unfold m_L_mark_b170
  refine mn_if ?_ ?_
  · skip
    exact mn_some
  · skip
    refine mn_bind (n_L_namedRow w3 s) (fun v8 s7 => ?_)
    refine mn_vl (fun y9 => ?_)
    exact hm170 ((31 * w1) + (v8 - v8 / 1000 * 1000), y9, s7)
set_option maxRecDepth 100000 in
set_option maxHeartbeats 4000000 in
theorem l_L_mark_b133 {X : Cx} {V : Vx} {A : Nat → Prop} {adV : Nat → Nat} {c0 s0 : Nat} (hC : Cok X V A yL_mark.cls cL_mark 7) (hE : Env0 V adV A (xs X) (xs X).heap) (hl : (xl X).stackTraces = false) (hx : ∀ x ∈ (xc X).exceptionTable.toList, False) (hr : (xh X).sig.returnType = some .long) (x14 : Int32) (x15 : Int64) (s : Mem) (kf110 : (Int64 × Int32 × Mem) → Res Int64) (hk110 : ∀ a, LX X V A 34 591 c0 s0 (FM X V A (fun x => some (.long x))) 110 [(0, .ref 0), (1, .long a.1), (3, .int a.2.1)] [] a.2.2 (kf110 a)) (kf133 : (Int64 × Int32 × Mem) → Res Int64) (hk133 : ∀ a, LX X V A 34 591 c0 s0 (FM X V A (fun x => some (.long x))) 133 [(0, .ref 0), (1, .long a.1), (3, .int x14), (4, .long x15), (6, .int a.2.1)] [] a.2.2 (kf133 a)) (w1 : Int64) (w6 : Int32) : LX X V A 34 591 c0 s0 (FM X V A (fun x => some (.long x))) 133 [(0, .ref 0), (1, .long w1), (3, .int x14), (4, .long x15), (6, .int w6)] [] s (m_L_mark_b133 x14 x15 s kf110 kf133 w1 w6 ) := by
  unfold m_L_mark_b133
  refine lx_iload hC dL_mark_133 4 rfl ?_
  refine lx_i2l hC dL_mark_135 ?_
  refine lx_lload hC dL_mark_136 3 rfl ?_
  refine lx_lcmp hC dL_mark_138 ?_
  refine lx_if_ge hC 161 dL_mark_139 (by decide) ?_ ?_
  · skip
    refine lx_iincN (v := 1) hC dL_mark_161 2 rfl (by decide) rfl (fun y16 => ?_)
    refine lx_goto hC 110 dL_mark_164 (by decide) ?_
    exact lx_sub [1, 2, 0] rfl (hk110 (w1, y16, s))
  · skip
    refine lx_ldc2 (v := 31) hC wk262 dL_mark_142 ?_
    refine lx_lload_n hC dL_mark_145 rfl 1 rfl ?_
    refine lx_lmul hC dL_mark_146 ?_
    refine lx_aload_n hC dL_mark_147 rfl 0 rfl ?_
    refine lx_iload hC dL_mark_148 4 rfl ?_
    refine lx_callWR (as := [.ref 0, .int w6]) (rest := [.long (31 * w1)]) hC hE (sat_L_lineChar (xl X) hl w6 s) (nt_wJ) cw_L_lineChar ciL wd971 cs_L_lineChar cd_L_lineChar (by decide) (Nat.le_of_ble_eq_true rfl) (Nat.le_of_ble_eq_true rfl) dL_mark_150 rfl (fun v18 s17 _ => ?_)
    refine lx_ladd hC dL_mark_153 ?_
    refine lx_lstore_n hC dL_mark_154 rfl (by decide) ?_
    refine lx_iincN (v := 1) hC dL_mark_155 4 rfl (by decide) rfl (fun y19 => ?_)
    refine lx_goto hC 133 dL_mark_158 (by decide) ?_
    exact lx_sub [2, 1, 3, 4, 0] rfl (hk133 ((31 * w1) + v18, y19, s17))
set_option maxRecDepth 100000 in
set_option maxHeartbeats 4000000 in
theorem n_L_mark_b133 (x14 : Int32) (x15 : Int64) (s : Mem) (kf110 : (Int64 × Int32 × Mem) → Res Int64) (hm110 : ∀ a, Mn a.2.2 (kf110 a)) (kf133 : (Int64 × Int32 × Mem) → Res Int64) (hm133 : ∀ a, Mn a.2.2 (kf133 a)) (w1 : Int64) (w6 : Int32) : Mn s (m_L_mark_b133 x14 x15 s kf110 kf133 w1 w6 ) := by
  unfold m_L_mark_b133
  refine mn_if ?_ ?_
  · skip
    refine mn_vl (fun y16 => ?_)
    exact hm110 (w1, y16, s)
  · skip
    refine mn_bind (n_L_lineChar w6 s) (fun v18 s17 => ?_)
    refine mn_vl (fun y19 => ?_)
    exact hm133 ((31 * w1) + v18, y19, s17)
set_option maxRecDepth 100000 in
set_option maxHeartbeats 4000000 in
theorem l_L_mark_b110 {X : Cx} {V : Vx} {A : Nat → Prop} {adV : Nat → Nat} {c0 s0 : Nat} (hC : Cok X V A yL_mark.cls cL_mark 7) (hE : Env0 V adV A (xs X) (xs X).heap) (hl : (xl X).stackTraces = false) (hx : ∀ x ∈ (xc X).exceptionTable.toList, False) (hr : (xh X).sig.returnType = some .long) (s : Mem) (kf110 : (Int64 × Int32 × Mem) → Res Int64) (hk110 : ∀ a, LX X V A 34 591 c0 s0 (FM X V A (fun x => some (.long x))) 110 [(0, .ref 0), (1, .long a.1), (3, .int a.2.1)] [] a.2.2 (kf110 a)) (w1 : Int64) (w3 : Int32) : LX X V A 34 591 c0 s0 (FM X V A (fun x => some (.long x))) 110 [(0, .ref 0), (1, .long w1), (3, .int w3)] [] s (m_L_mark_b110 s kf110 w1 w3 ) := by
  unfold m_L_mark_b110
  refine lx_iload_n hC dL_mark_110 rfl 2 rfl ?_
  refine lx_aload_n hC dL_mark_111 rfl 0 rfl ?_
  refine lx_callP hC hx (sat_X7_echoCount (xl X) hl s) (run_V (as := []) (rest := [.int w3]) hC hE ly0 rfl cw_X7_echoCount ci_X7_echoCount wd278 cs_X7_echoCount ce_X7_echoCount cd_X7_echoCount (by decide) (by decide) (Nat.le_of_ble_eq_true rfl) dL_mark_112 rfl) (fun v6 _ => ?_)
  refine lx_icmp_ge hC 167 dL_mark_115 (by decide) ?_ ?_
  · skip
    refine lx_bipush (v := 97) hC dL_mark_167 (by decide) ?_
    refine lx_istore_n hC dL_mark_169 rfl (by decide) ?_
    refine lx_sub [1, 2, 0] rfl ?_
    exact lx_lp (lv := fun a => [(0, .ref 0), (1, .long a.1), (3, .int a.2.1)]) (st := fun _ => []) (sg := fun a => a.2.2) (fun kf hq a => l_L_mark_b170 hC hE hl hx hr a.2.2 kf hq a.1 a.2.1) FUEL (w1, 97, s)
  · skip
    refine lx_aload_n hC dL_mark_118 rfl 0 rfl ?_
    refine lx_aload_n hC dL_mark_119 rfl 0 rfl ?_
    refine lx_iload_n hC dL_mark_120 rfl 2 rfl ?_
    refine lx_callWR (as := [.ref 0, .int w3]) (rest := [.ref 0]) hC hE (sat_L_idByRank (xl X) hl w3 s) (nt_wJ) cw_L_idByRank ciL wd1000 cs_L_idByRank cd_L_idByRank (by decide) (Nat.le_of_ble_eq_true rfl) (Nat.le_of_ble_eq_true rfl) dL_mark_121 rfl (fun v11 s10 _ => ?_)
    refine lx_l2i hC dL_mark_124 ?_
    refine lx_callWR (as := [.ref 0, .int (Int64.toInt32 v11)]) (rest := []) hC hE (sat_L_formatEcho (xl X) hl (Int64.toInt32 v11) s10) (nt_wJ) cw_L_formatEcho ciL wd1021 cs_L_formatEcho cd_L_formatEcho (by decide) (Nat.le_of_ble_eq_true rfl) (Nat.le_of_ble_eq_true rfl) dL_mark_125 rfl (fun v13 s12 _ => ?_)
    refine lx_lstore hC dL_mark_128 (by decide) ?_
    refine lx_iconstv (v := 0) hC dL_mark_130 rfl ?_
    refine lx_istore hC dL_mark_131 (by decide) ?_
    refine lx_sub [2, 3, 4, 1, 0] rfl ?_
    exact lx_lp (lv := fun a => [(0, .ref 0), (1, .long a.1), (3, .int w3), (4, .long v13), (6, .int a.2.1)]) (st := fun _ => []) (sg := fun a => a.2.2) (fun kf hq a => l_L_mark_b133 hC hE hl hx hr w3 v13 a.2.2 kf110 hk110 kf hq a.1 a.2.1) FUEL (w1, 0, s12)
set_option maxRecDepth 100000 in
set_option maxHeartbeats 4000000 in
theorem n_L_mark_b110 (s : Mem) (kf110 : (Int64 × Int32 × Mem) → Res Int64) (hm110 : ∀ a, Mn a.2.2 (kf110 a)) (w1 : Int64) (w3 : Int32) : Mn s (m_L_mark_b110 s kf110 w1 w3 ) := by
  unfold m_L_mark_b110
  refine mn_bindP (fun v6 => ?_)
  refine mn_if ?_ ?_
  · skip
    exact mn_lp (sg := fun a => a.2.2) (fun kf hq a => n_L_mark_b170 a.2.2 kf hq a.1 a.2.1) FUEL (w1, 97, s)
  · skip
    refine mn_bind (n_L_idByRank w3 s) (fun v11 s10 => ?_)
    refine mn_bind (n_L_formatEcho (Int64.toInt32 v11) s10) (fun v13 s12 => ?_)
    exact mn_lp (sg := fun a => a.2.2) (fun kf hq a => n_L_mark_b133 w3 v13 a.2.2 kf110 hm110 kf hq a.1 a.2.1) FUEL (w1, 0, s12)
set_option maxRecDepth 100000 in
set_option maxHeartbeats 4000000 in
theorem l_L_mark_b62 {X : Cx} {V : Vx} {A : Nat → Prop} {adV : Nat → Nat} {c0 s0 : Nat} (hC : Cok X V A yL_mark.cls cL_mark 7) (hE : Env0 V adV A (xs X) (xs X).heap) (hl : (xl X).stackTraces = false) (hx : ∀ x ∈ (xc X).exceptionTable.toList, False) (hr : (xh X).sig.returnType = some .long) (x22 : Int32) (x23 : Int64) (s : Mem) (kf44 : (Int64 × Int32 × Mem) → Res Int64) (hk44 : ∀ a, LX X V A 34 591 c0 s0 (FM X V A (fun x => some (.long x))) 44 [(0, .ref 0), (1, .long a.1), (3, .int a.2.1)] [] a.2.2 (kf44 a)) (kf62 : (Int64 × Int32 × Mem) → Res Int64) (hk62 : ∀ a, LX X V A 34 591 c0 s0 (FM X V A (fun x => some (.long x))) 62 [(0, .ref 0), (1, .long a.1), (3, .int x22), (4, .long x23), (6, .int a.2.1)] [] a.2.2 (kf62 a)) (w1 : Int64) (w6 : Int32) : LX X V A 34 591 c0 s0 (FM X V A (fun x => some (.long x))) 62 [(0, .ref 0), (1, .long w1), (3, .int x22), (4, .long x23), (6, .int w6)] [] s (m_L_mark_b62 x22 x23 s kf44 kf62 w1 w6 ) := by
  unfold m_L_mark_b62
  refine lx_iload hC dL_mark_62 4 rfl ?_
  refine lx_i2l hC dL_mark_64 ?_
  refine lx_lload hC dL_mark_65 3 rfl ?_
  refine lx_lcmp hC dL_mark_67 ?_
  refine lx_if_ge hC 90 dL_mark_68 (by decide) ?_ ?_
  · skip
    refine lx_ldc2 (v := 31) hC wk262 dL_mark_90 ?_
    refine lx_lload_n hC dL_mark_93 rfl 1 rfl ?_
    refine lx_lmul hC dL_mark_94 ?_
    refine lx_aload_n hC dL_mark_95 rfl 0 rfl ?_
    refine lx_iload_n hC dL_mark_96 rfl 2 rfl ?_
    refine lx_callWR (as := [.ref 0, .int x22]) (rest := [.long (31 * w1)]) hC hE (sat_L_boxCount (xl X) hl x22 s) (nt_wJ) cw_L_boxCount ciL wd989 cs_L_boxCount cd_L_boxCount (by decide) (Nat.le_of_ble_eq_true rfl) (Nat.le_of_ble_eq_true rfl) dL_mark_97 rfl (fun v25 s24 _ => ?_)
    refine lx_ladd hC dL_mark_100 ?_
    refine lx_lstore_n hC dL_mark_101 rfl (by decide) ?_
    refine lx_iincN (v := 1) hC dL_mark_102 2 rfl (by decide) rfl (fun y26 => ?_)
    refine lx_goto hC 44 dL_mark_105 (by decide) ?_
    exact lx_sub [2, 1, 0] rfl (hk44 ((31 * w1) + v25, y26, s24))
  · skip
    refine lx_ldc2 (v := 31) hC wk262 dL_mark_71 ?_
    refine lx_lload_n hC dL_mark_74 rfl 1 rfl ?_
    refine lx_lmul hC dL_mark_75 ?_
    refine lx_aload_n hC dL_mark_76 rfl 0 rfl ?_
    refine lx_iload hC dL_mark_77 4 rfl ?_
    refine lx_callWR (as := [.ref 0, .int w6]) (rest := [.long (31 * w1)]) hC hE (sat_L_lineChar (xl X) hl w6 s) (nt_wJ) cw_L_lineChar ciL wd971 cs_L_lineChar cd_L_lineChar (by decide) (Nat.le_of_ble_eq_true rfl) (Nat.le_of_ble_eq_true rfl) dL_mark_79 rfl (fun v28 s27 _ => ?_)
    refine lx_ladd hC dL_mark_82 ?_
    refine lx_lstore_n hC dL_mark_83 rfl (by decide) ?_
    refine lx_iincN (v := 1) hC dL_mark_84 4 rfl (by decide) rfl (fun y29 => ?_)
    refine lx_goto hC 62 dL_mark_87 (by decide) ?_
    exact lx_sub [2, 1, 3, 4, 0] rfl (hk62 ((31 * w1) + v28, y29, s27))
set_option maxRecDepth 100000 in
set_option maxHeartbeats 4000000 in
theorem n_L_mark_b62 (x22 : Int32) (x23 : Int64) (s : Mem) (kf44 : (Int64 × Int32 × Mem) → Res Int64) (hm44 : ∀ a, Mn a.2.2 (kf44 a)) (kf62 : (Int64 × Int32 × Mem) → Res Int64) (hm62 : ∀ a, Mn a.2.2 (kf62 a)) (w1 : Int64) (w6 : Int32) : Mn s (m_L_mark_b62 x22 x23 s kf44 kf62 w1 w6 ) := by
  unfold m_L_mark_b62
  refine mn_if ?_ ?_
  · skip
    refine mn_bind (n_L_boxCount x22 s) (fun v25 s24 => ?_)
    refine mn_vl (fun y26 => ?_)
    exact hm44 ((31 * w1) + v25, y26, s24)
  · skip
    refine mn_bind (n_L_lineChar w6 s) (fun v28 s27 => ?_)
    refine mn_vl (fun y29 => ?_)
    exact hm62 ((31 * w1) + v28, y29, s27)
set_option maxRecDepth 100000 in
set_option maxHeartbeats 4000000 in
theorem l_L_mark_b44 {X : Cx} {V : Vx} {A : Nat → Prop} {adV : Nat → Nat} {c0 s0 : Nat} (hC : Cok X V A yL_mark.cls cL_mark 7) (hE : Env0 V adV A (xs X) (xs X).heap) (hl : (xl X).stackTraces = false) (hx : ∀ x ∈ (xc X).exceptionTable.toList, False) (hr : (xh X).sig.returnType = some .long) (s : Mem) (kf44 : (Int64 × Int32 × Mem) → Res Int64) (hk44 : ∀ a, LX X V A 34 591 c0 s0 (FM X V A (fun x => some (.long x))) 44 [(0, .ref 0), (1, .long a.1), (3, .int a.2.1)] [] a.2.2 (kf44 a)) (w1 : Int64) (w3 : Int32) : LX X V A 34 591 c0 s0 (FM X V A (fun x => some (.long x))) 44 [(0, .ref 0), (1, .long w1), (3, .int w3)] [] s (m_L_mark_b44 s kf44 w1 w3 ) := by
  unfold m_L_mark_b44
  refine lx_iload_n hC dL_mark_44 rfl 2 rfl ?_
  refine lx_aload_n hC dL_mark_45 rfl 0 rfl ?_
  refine lx_callP hC hx (sat_X7_rowCount (xl X) hl s) (run_V (as := []) (rest := [.int w3]) hC hE ly0 rfl cw_X7_rowCount ci_X7_rowCount wd670 cs_X7_rowCount ce_X7_rowCount cd_X7_rowCount (by decide) (by decide) (Nat.le_of_ble_eq_true rfl) dL_mark_46 rfl) (fun v5 _ => ?_)
  refine lx_icmp_ge hC 108 dL_mark_49 (by decide) ?_ ?_
  · skip
    refine lx_iconstv (v := 0) hC dL_mark_108 rfl ?_
    refine lx_istore_n hC dL_mark_109 rfl (by decide) ?_
    refine lx_sub [1, 2, 0] rfl ?_
    exact lx_lp (lv := fun a => [(0, .ref 0), (1, .long a.1), (3, .int a.2.1)]) (st := fun _ => []) (sg := fun a => a.2.2) (fun kf hq a => l_L_mark_b110 hC hE hl hx hr a.2.2 kf hq a.1 a.2.1) FUEL (w1, 0, s)
  · skip
    refine lx_aload_n hC dL_mark_52 rfl 0 rfl ?_
    refine lx_iload_n hC dL_mark_53 rfl 2 rfl ?_
    refine lx_callWR (as := [.ref 0, .int w3]) (rest := []) hC hE (sat_L_formatRow (xl X) hl w3 s) (nt_wJ) cw_L_formatRow ciL wd674 cs_L_formatRow cd_L_formatRow (by decide) (Nat.le_of_ble_eq_true rfl) (Nat.le_of_ble_eq_true rfl) dL_mark_54 rfl (fun v21 s20 _ => ?_)
    refine lx_lstore hC dL_mark_57 (by decide) ?_
    refine lx_iconstv (v := 0) hC dL_mark_59 rfl ?_
    refine lx_istore hC dL_mark_60 (by decide) ?_
    refine lx_sub [2, 3, 4, 1, 0] rfl ?_
    exact lx_lp (lv := fun a => [(0, .ref 0), (1, .long a.1), (3, .int w3), (4, .long v21), (6, .int a.2.1)]) (st := fun _ => []) (sg := fun a => a.2.2) (fun kf hq a => l_L_mark_b62 hC hE hl hx hr w3 v21 a.2.2 kf44 hk44 kf hq a.1 a.2.1) FUEL (w1, 0, s20)
set_option maxRecDepth 100000 in
set_option maxHeartbeats 4000000 in
theorem n_L_mark_b44 (s : Mem) (kf44 : (Int64 × Int32 × Mem) → Res Int64) (hm44 : ∀ a, Mn a.2.2 (kf44 a)) (w1 : Int64) (w3 : Int32) : Mn s (m_L_mark_b44 s kf44 w1 w3 ) := by
  unfold m_L_mark_b44
  refine mn_bindP (fun v5 => ?_)
  refine mn_if ?_ ?_
  · skip
    exact mn_lp (sg := fun a => a.2.2) (fun kf hq a => n_L_mark_b110 a.2.2 kf hq a.1 a.2.1) FUEL (w1, 0, s)
  · skip
    refine mn_bind (n_L_formatRow w3 s) (fun v21 s20 => ?_)
    exact mn_lp (sg := fun a => a.2.2) (fun kf hq a => n_L_mark_b62 w3 v21 a.2.2 kf44 hm44 kf hq a.1 a.2.1) FUEL (w1, 0, s20)
set_option maxRecDepth 100000 in
set_option maxHeartbeats 4000000 in
theorem n_L_mark (s : Mem) : Mn s (m_L_mark s) := by
  unfold m_L_mark
  refine mn_bindP (fun v1 => ?_)
  refine mn_bindP (fun v2 => ?_)
  refine mn_bindP (fun v3 => ?_)
  refine mn_bindP (fun v4 => ?_)
  exact mn_lp (sg := fun a => a.2.2) (fun kf hq a => n_L_mark_b44 a.2.2 kf hq a.1 a.2.1) FUEL ((((17 + (3 * v1.toInt64)) + (5 * v2.toInt64)) + (7 * v3)) + (11 * v4), 0, s)
set_option maxRecDepth 100000 in
set_option maxHeartbeats 4000000 in
theorem sat_L_mark (l : Launch) (hl : l.stackTraces = false) (s : Mem) : Sat l yL_mark (.code yL_mark cL_mark 7 (some .long)) 34 591 (fun x => some (.long x)) [.ref 0] s (m_L_mark s) := by
  refine sat_of hl (by decide) (Nat.le_of_ble_eq_true rfl) (fun X V A adV hxl hC hE hx hr => ?_) (n_L_mark s)
  subst hxl
  show LX X V A 34 591 (nC s) (nS s) _ 0 [(0, .ref 0)] [] s _
  unfold m_L_mark
  refine lx_ldc2 (v := 17) hC wk249 dL_mark_0 ?_
  refine lx_ldc2 (v := 3) hC wk251 dL_mark_3 ?_
  refine lx_aload_n hC dL_mark_6 rfl 0 rfl ?_
  refine lx_callP hC hx (sat_X7_moveCount (xl X) hl s) (run_V (as := []) (rest := [.long 3, .long 17]) hC hE ly0 rfl cw_X7_moveCount ci_X7_moveCount wd651 cs_X7_moveCount ce_X7_moveCount cd_X7_moveCount (by decide) (by decide) (Nat.le_of_ble_eq_true rfl) dL_mark_7 rfl) (fun v1 _ => ?_)
  refine lx_i2l hC dL_mark_10 ?_
  refine lx_lmul hC dL_mark_11 ?_
  refine lx_ladd hC dL_mark_12 ?_
  refine lx_ldc2 (v := 5) hC wk253 dL_mark_13 ?_
  refine lx_aload_n hC dL_mark_16 rfl 0 rfl ?_
  refine lx_callP hC hx (sat_X7_removeCount (xl X) hl s) (run_V (as := []) (rest := [.long 5, .long (17 + (3 * v1.toInt64))]) hC hE ly0 rfl cw_X7_removeCount ci_X7_removeCount wd656 cs_X7_removeCount ce_X7_removeCount cd_X7_removeCount (by decide) (by decide) (Nat.le_of_ble_eq_true rfl) dL_mark_17 rfl) (fun v2 _ => ?_)
  refine lx_i2l hC dL_mark_20 ?_
  refine lx_lmul hC dL_mark_21 ?_
  refine lx_ladd hC dL_mark_22 ?_
  refine lx_ldc2 (v := 7) hC wk255 dL_mark_23 ?_
  refine lx_aload_n hC dL_mark_26 rfl 0 rfl ?_
  refine lx_callP hC hx (sat_X7_addedLoudness (xl X) hl s) (run_V (as := []) (rest := [.long 7, .long ((17 + (3 * v1.toInt64)) + (5 * v2.toInt64))]) hC hE ly0 rfl cw_X7_addedLoudness ci_X7_addedLoudness wd661 cs_X7_addedLoudness ce_X7_addedLoudness cd_X7_addedLoudness (by decide) (by decide) (Nat.le_of_ble_eq_true rfl) dL_mark_27 rfl) (fun v3 _ => ?_)
  refine lx_lmul hC dL_mark_30 ?_
  refine lx_ladd hC dL_mark_31 ?_
  refine lx_ldc2 (v := 11) hC wk257 dL_mark_32 ?_
  refine lx_aload_n hC dL_mark_35 rfl 0 rfl ?_
  refine lx_callP hC hx (sat_X7_lostLoudness (xl X) hl s) (run_V (as := []) (rest := [.long 11, .long (((17 + (3 * v1.toInt64)) + (5 * v2.toInt64)) + (7 * v3))]) hC hE ly0 rfl cw_X7_lostLoudness ci_X7_lostLoudness wd666 cs_X7_lostLoudness ce_X7_lostLoudness cd_X7_lostLoudness (by decide) (by decide) (Nat.le_of_ble_eq_true rfl) dL_mark_36 rfl) (fun v4 _ => ?_)
  refine lx_lmul hC dL_mark_39 ?_
  refine lx_ladd hC dL_mark_40 ?_
  refine lx_lstore_n hC dL_mark_41 rfl (by decide) ?_
  refine lx_iconstv (v := 0) hC dL_mark_42 rfl ?_
  refine lx_istore_n hC dL_mark_43 rfl (by decide) ?_
  refine lx_sub [2, 1, 0] rfl ?_
  exact lx_lp (lv := fun a => [(0, .ref 0), (1, .long a.1), (3, .int a.2.1)]) (st := fun _ => []) (sg := fun a => a.2.2) (fun kf hq a => l_L_mark_b44 hC hE hl hx hr a.2.2 kf hq a.1 a.2.1) FUEL ((((17 + (3 * v1.toInt64)) + (5 * v2.toInt64)) + (7 * v3)) + (11 * v4), 0, s)
set_option maxRecDepth 100000 in
set_option maxHeartbeats 4000000 in
theorem n_L_anId (p1 : Int32) (s : Mem) : Mn s (m_L_anId p1 s) := by
  unfold m_L_anId
  refine mn_bindP (fun v1 => ?_)
  refine mn_if ?_ ?_
  · skip
    refine mn_bindP (fun v2 => ?_)
    refine mn_if ?_ mn_none
    refine mn_bind (n_L_idByRank (p1 - p1 / v2 * v2) s) (fun v5 s4 => ?_)
    exact mn_some
  · skip
    exact mn_some
set_option maxRecDepth 100000 in
set_option maxHeartbeats 4000000 in
theorem sat_L_anId (l : Launch) (hl : l.stackTraces = false) (p1 : Int32) (s : Mem) : Sat l yL_anId (.code yL_anId cL_anId 2 (some .int)) 34 591 (fun x => some (.int x)) [.ref 0, .int p1] s (m_L_anId p1 s) := by
  refine sat_of hl (by decide) (Nat.le_of_ble_eq_true rfl) (fun X V A adV hxl hC hE hx hr => ?_) (n_L_anId p1 s)
  subst hxl
  show LX X V A 34 591 (nC s) (nS s) _ 0 [(0, .ref 0), (1, .int p1)] [] s _
  unfold m_L_anId
  refine lx_aload_n hC dL_anId_0 rfl 0 rfl ?_
  refine lx_callP hC hx (sat_X7_echoCount (xl X) hl s) (run_V (as := []) (rest := []) hC hE ly0 rfl cw_X7_echoCount ci_X7_echoCount wd278 cs_X7_echoCount ce_X7_echoCount cd_X7_echoCount (by decide) (by decide) (Nat.le_of_ble_eq_true rfl) dL_anId_1 rfl) (fun v1 _ => ?_)
  refine lx_if_ne hC 11 dL_anId_4 (by decide) ?_ ?_
  · skip
    refine lx_aload_n hC dL_anId_11 rfl 0 rfl ?_
    refine lx_iload_n hC dL_anId_12 rfl 1 rfl ?_
    refine lx_aload_n hC dL_anId_13 rfl 0 rfl ?_
    refine lx_callP hC hx (sat_X7_echoCount (xl X) hl s) (run_V (as := []) (rest := [.int p1, .ref 0]) hC hE ly0 rfl cw_X7_echoCount ci_X7_echoCount wd278 cs_X7_echoCount ce_X7_echoCount cd_X7_echoCount (by decide) (by decide) (Nat.le_of_ble_eq_true rfl) dL_anId_14 rfl) (fun v2 _ => ?_)
    refine lx_if fun h3 => lx_irem hC dL_anId_17 h3 ?_
    refine lx_callWR (as := [.ref 0, .int (p1 - p1 / v2 * v2)]) (rest := []) hC hE (sat_L_idByRank (xl X) hl (p1 - p1 / v2 * v2) s) (nt_wJ) cw_L_idByRank ciL wd1000 cs_L_idByRank cd_L_idByRank (by decide) (Nat.le_of_ble_eq_true rfl) (Nat.le_of_ble_eq_true rfl) dL_anId_18 rfl (fun v5 s4 _ => ?_)
    refine lx_l2i hC dL_anId_21 ?_
    exact lx_iret hC rfl hr dL_anId_22
  · skip
    refine lx_iconstv (v := 0) hC dL_anId_7 rfl ?_
    refine lx_goto hC 22 dL_anId_8 (by decide) ?_
    exact lx_iret hC rfl hr dL_anId_22
