theorem dX0_carryOut_0 : decode cX0_carryOut 0 = .ok (.iload_n 1, 1) := by decide +kernel
theorem dX0_carryOut_1 : decode cX0_carryOut 1 = .ok (.tableswitch 154 0 10 #[59, 65, 72, 80, 87, 98, 108, 119, 130, 137, 144], 59) := by decide +kernel
theorem dX0_carryOut_60 : decode cX0_carryOut 60 = .ok (.aload_n 0, 1) := by decide +kernel
theorem dX0_carryOut_61 : decode cX0_carryOut 61 = .ok (.iload_n 2, 1) := by decide +kernel
theorem dX0_carryOut_62 : decode cX0_carryOut 62 = .ok (.invokestatic 9, 3) := by decide +kernel
theorem dX0_carryOut_65 : decode cX0_carryOut 65 = .ok (.ireturn, 1) := by decide +kernel
theorem dX0_carryOut_66 : decode cX0_carryOut 66 = .ok (.aload_n 0, 1) := by decide +kernel
theorem dX0_carryOut_67 : decode cX0_carryOut 67 = .ok (.iload_n 2, 1) := by decide +kernel
theorem dX0_carryOut_68 : decode cX0_carryOut 68 = .ok (.iload_n 3, 1) := by decide +kernel
theorem dX0_carryOut_69 : decode cX0_carryOut 69 = .ok (.invokestatic 15, 3) := by decide +kernel
theorem dX0_carryOut_72 : decode cX0_carryOut 72 = .ok (.ireturn, 1) := by decide +kernel
theorem dX0_carryOut_73 : decode cX0_carryOut 73 = .ok (.aload_n 0, 1) := by decide +kernel
theorem dX0_carryOut_74 : decode cX0_carryOut 74 = .ok (.iload_n 2, 1) := by decide +kernel
theorem dX0_carryOut_75 : decode cX0_carryOut 75 = .ok (.iload_n 3, 1) := by decide +kernel
theorem dX0_carryOut_76 : decode cX0_carryOut 76 = .ok (.ineg, 1) := by decide +kernel
theorem dX0_carryOut_77 : decode cX0_carryOut 77 = .ok (.invokestatic 15, 3) := by decide +kernel
theorem dX0_carryOut_80 : decode cX0_carryOut 80 = .ok (.ireturn, 1) := by decide +kernel
theorem dX0_carryOut_81 : decode cX0_carryOut 81 = .ok (.aload_n 0, 1) := by decide +kernel
theorem dX0_carryOut_82 : decode cX0_carryOut 82 = .ok (.iload_n 2, 1) := by decide +kernel
theorem dX0_carryOut_83 : decode cX0_carryOut 83 = .ok (.iload_n 3, 1) := by decide +kernel
theorem dX0_carryOut_84 : decode cX0_carryOut 84 = .ok (.invokestatic 19, 3) := by decide +kernel
theorem dX0_carryOut_87 : decode cX0_carryOut 87 = .ok (.ireturn, 1) := by decide +kernel
theorem dX0_carryOut_88 : decode cX0_carryOut 88 = .ok (.aload_n 0, 1) := by decide +kernel
theorem dX0_carryOut_89 : decode cX0_carryOut 89 = .ok (.aload_n 0, 1) := by decide +kernel
theorem dX0_carryOut_90 : decode cX0_carryOut 90 = .ok (.iload_n 2, 1) := by decide +kernel
theorem dX0_carryOut_91 : decode cX0_carryOut 91 = .ok (.invokevirtual 22, 3) := by decide +kernel
theorem dX0_carryOut_94 : decode cX0_carryOut 94 = .ok (.iload_n 3, 1) := by decide +kernel
theorem dX0_carryOut_95 : decode cX0_carryOut 95 = .ok (.invokestatic 28, 3) := by decide +kernel
theorem dX0_carryOut_98 : decode cX0_carryOut 98 = .ok (.ireturn, 1) := by decide +kernel
theorem dX0_carryOut_99 : decode cX0_carryOut 99 = .ok (.aload_n 0, 1) := by decide +kernel
theorem dX0_carryOut_100 : decode cX0_carryOut 100 = .ok (.aload_n 0, 1) := by decide +kernel
theorem dX0_carryOut_101 : decode cX0_carryOut 101 = .ok (.iload_n 2, 1) := by decide +kernel
theorem dX0_carryOut_102 : decode cX0_carryOut 102 = .ok (.invokevirtual 22, 3) := by decide +kernel
theorem dX0_carryOut_105 : decode cX0_carryOut 105 = .ok (.invokestatic 31, 3) := by decide +kernel
theorem dX0_carryOut_108 : decode cX0_carryOut 108 = .ok (.ireturn, 1) := by decide +kernel
theorem dX0_carryOut_109 : decode cX0_carryOut 109 = .ok (.aload_n 0, 1) := by decide +kernel
theorem dX0_carryOut_110 : decode cX0_carryOut 110 = .ok (.aload_n 0, 1) := by decide +kernel
theorem dX0_carryOut_111 : decode cX0_carryOut 111 = .ok (.iload_n 2, 1) := by decide +kernel
theorem dX0_carryOut_112 : decode cX0_carryOut 112 = .ok (.invokevirtual 22, 3) := by decide +kernel
theorem dX0_carryOut_115 : decode cX0_carryOut 115 = .ok (.iload_n 3, 1) := by decide +kernel
theorem dX0_carryOut_116 : decode cX0_carryOut 116 = .ok (.invokestatic 34, 3) := by decide +kernel
theorem dX0_carryOut_119 : decode cX0_carryOut 119 = .ok (.ireturn, 1) := by decide +kernel
theorem dX0_carryOut_120 : decode cX0_carryOut 120 = .ok (.aload_n 0, 1) := by decide +kernel
theorem dX0_carryOut_121 : decode cX0_carryOut 121 = .ok (.aload_n 0, 1) := by decide +kernel
theorem dX0_carryOut_122 : decode cX0_carryOut 122 = .ok (.iload_n 2, 1) := by decide +kernel
theorem dX0_carryOut_123 : decode cX0_carryOut 123 = .ok (.invokevirtual 22, 3) := by decide +kernel
theorem dX0_carryOut_126 : decode cX0_carryOut 126 = .ok (.iconst (-1), 1) := by decide +kernel
theorem dX0_carryOut_127 : decode cX0_carryOut 127 = .ok (.invokestatic 34, 3) := by decide +kernel
theorem dX0_carryOut_130 : decode cX0_carryOut 130 = .ok (.ireturn, 1) := by decide +kernel
theorem dX0_carryOut_131 : decode cX0_carryOut 131 = .ok (.aload_n 0, 1) := by decide +kernel
theorem dX0_carryOut_132 : decode cX0_carryOut 132 = .ok (.iload_n 2, 1) := by decide +kernel
theorem dX0_carryOut_133 : decode cX0_carryOut 133 = .ok (.iconst 1, 1) := by decide +kernel
theorem dX0_carryOut_134 : decode cX0_carryOut 134 = .ok (.invokestatic 37, 3) := by decide +kernel
theorem dX0_carryOut_137 : decode cX0_carryOut 137 = .ok (.ireturn, 1) := by decide +kernel
theorem dX0_carryOut_138 : decode cX0_carryOut 138 = .ok (.aload_n 0, 1) := by decide +kernel
theorem dX0_carryOut_139 : decode cX0_carryOut 139 = .ok (.iload_n 2, 1) := by decide +kernel
theorem dX0_carryOut_140 : decode cX0_carryOut 140 = .ok (.iconst 0, 1) := by decide +kernel
theorem dX0_carryOut_141 : decode cX0_carryOut 141 = .ok (.invokestatic 37, 3) := by decide +kernel
theorem dX0_carryOut_144 : decode cX0_carryOut 144 = .ok (.ireturn, 1) := by decide +kernel
theorem dX0_carryOut_145 : decode cX0_carryOut 145 = .ok (.aload_n 0, 1) := by decide +kernel
theorem dX0_carryOut_146 : decode cX0_carryOut 146 = .ok (.iload_n 2, 1) := by decide +kernel
theorem dX0_carryOut_147 : decode cX0_carryOut 147 = .ok (.bipush 97, 2) := by decide +kernel
theorem dX0_carryOut_149 : decode cX0_carryOut 149 = .ok (.isub, 1) := by decide +kernel
theorem dX0_carryOut_150 : decode cX0_carryOut 150 = .ok (.iload_n 3, 1) := by decide +kernel
theorem dX0_carryOut_151 : decode cX0_carryOut 151 = .ok (.invokestatic 41, 3) := by decide +kernel
theorem dX0_carryOut_154 : decode cX0_carryOut 154 = .ok (.ireturn, 1) := by decide +kernel
theorem dX0_carryOut_155 : decode cX0_carryOut 155 = .ok (.aload_n 0, 1) := by decide +kernel
theorem dX0_carryOut_156 : decode cX0_carryOut 156 = .ok (.iload_n 2, 1) := by decide +kernel
theorem dX0_carryOut_157 : decode cX0_carryOut 157 = .ok (.invokestatic 44, 3) := by decide +kernel
theorem dX0_carryOut_160 : decode cX0_carryOut 160 = .ok (.ireturn, 1) := by decide +kernel
theorem dX0_openRow_0 : decode cX0_openRow 0 = .ok (.aload_n 0, 1) := by decide +kernel
theorem dX0_openRow_1 : decode cX0_openRow 1 = .ok (.getfield 47, 3) := by decide +kernel
theorem dX0_openRow_4 : decode cX0_openRow 4 = .ok (.istore_n 2, 1) := by decide +kernel
theorem dX0_openRow_5 : decode cX0_openRow 5 = .ok (.aload_n 0, 1) := by decide +kernel
theorem dX0_openRow_6 : decode cX0_openRow 6 = .ok (.getfield 51, 3) := by decide +kernel
theorem dX0_openRow_9 : decode cX0_openRow 9 = .ok (.iload_n 2, 1) := by decide +kernel
theorem dX0_openRow_10 : decode cX0_openRow 10 = .ok (.iload_n 1, 1) := by decide +kernel
theorem dX0_openRow_11 : decode cX0_openRow 11 = .ok (.iastore, 1) := by decide +kernel
theorem dX0_openRow_12 : decode cX0_openRow 12 = .ok (.aload_n 0, 1) := by decide +kernel
theorem dX0_openRow_13 : decode cX0_openRow 13 = .ok (.dup, 1) := by decide +kernel
theorem dX0_openRow_14 : decode cX0_openRow 14 = .ok (.getfield 47, 3) := by decide +kernel
theorem dX0_openRow_17 : decode cX0_openRow 17 = .ok (.iconst 1, 1) := by decide +kernel
theorem dX0_openRow_18 : decode cX0_openRow 18 = .ok (.iadd, 1) := by decide +kernel
theorem dX0_openRow_19 : decode cX0_openRow 19 = .ok (.putfield 47, 3) := by decide +kernel
theorem dX0_openRow_22 : decode cX0_openRow 22 = .ok (.iload_n 2, 1) := by decide +kernel
theorem dX0_openRow_23 : decode cX0_openRow 23 = .ok (.ireturn, 1) := by decide +kernel
theorem dX0_changePhantoms_0 : decode cX0_changePhantoms 0 = .ok (.aload_n 0, 1) := by decide +kernel
theorem dX0_changePhantoms_1 : decode cX0_changePhantoms 1 = .ok (.getfield 55, 3) := by decide +kernel
theorem dX0_changePhantoms_4 : decode cX0_changePhantoms 4 = .ok (.iload_n 1, 1) := by decide +kernel
theorem dX0_changePhantoms_5 : decode cX0_changePhantoms 5 = .ok (.dup2, 1) := by decide +kernel
theorem dX0_changePhantoms_6 : decode cX0_changePhantoms 6 = .ok (.iaload, 1) := by decide +kernel
theorem dX0_changePhantoms_7 : decode cX0_changePhantoms 7 = .ok (.iload_n 2, 1) := by decide +kernel
theorem dX0_changePhantoms_8 : decode cX0_changePhantoms 8 = .ok (.iadd, 1) := by decide +kernel
theorem dX0_changePhantoms_9 : decode cX0_changePhantoms 9 = .ok (.iastore, 1) := by decide +kernel
theorem dX0_changePhantoms_10 : decode cX0_changePhantoms 10 = .ok (.aload_n 0, 1) := by decide +kernel
theorem dX0_changePhantoms_11 : decode cX0_changePhantoms 11 = .ok (.getfield 55, 3) := by decide +kernel
theorem dX0_changePhantoms_14 : decode cX0_changePhantoms 14 = .ok (.iload_n 1, 1) := by decide +kernel
theorem dX0_changePhantoms_15 : decode cX0_changePhantoms 15 = .ok (.iaload, 1) := by decide +kernel
theorem dX0_changePhantoms_16 : decode cX0_changePhantoms 16 = .ok (.ireturn, 1) := by decide +kernel
theorem dX0_addEcho_0 : decode cX0_addEcho 0 = .ok (.aload_n 0, 1) := by decide +kernel
theorem dX0_addEcho_1 : decode cX0_addEcho 1 = .ok (.getfield 58, 3) := by decide +kernel
theorem dX0_addEcho_4 : decode cX0_addEcho 4 = .ok (.istore_n 3, 1) := by decide +kernel
theorem dX0_addEcho_5 : decode cX0_addEcho 5 = .ok (.aload_n 0, 1) := by decide +kernel
theorem dX0_addEcho_6 : decode cX0_addEcho 6 = .ok (.getfield 61, 3) := by decide +kernel
theorem dX0_addEcho_9 : decode cX0_addEcho 9 = .ok (.istore 4, 2) := by decide +kernel
theorem dX0_addEcho_11 : decode cX0_addEcho 11 = .ok (.aload_n 0, 1) := by decide +kernel
theorem dX0_addEcho_12 : decode cX0_addEcho 12 = .ok (.getfield 64, 3) := by decide +kernel
theorem dX0_addEcho_15 : decode cX0_addEcho 15 = .ok (.iload_n 3, 1) := by decide +kernel
theorem dX0_addEcho_16 : decode cX0_addEcho 16 = .ok (.iload 4, 2) := by decide +kernel
theorem dX0_addEcho_18 : decode cX0_addEcho 18 = .ok (.iastore, 1) := by decide +kernel
theorem dX0_addEcho_19 : decode cX0_addEcho 19 = .ok (.aload_n 0, 1) := by decide +kernel
theorem dX0_addEcho_20 : decode cX0_addEcho 20 = .ok (.getfield 67, 3) := by decide +kernel
theorem dX0_addEcho_23 : decode cX0_addEcho 23 = .ok (.iload_n 3, 1) := by decide +kernel
theorem dX0_addEcho_24 : decode cX0_addEcho 24 = .ok (.iload_n 1, 1) := by decide +kernel
theorem dX0_addEcho_25 : decode cX0_addEcho 25 = .ok (.iastore, 1) := by decide +kernel
theorem dX0_addEcho_26 : decode cX0_addEcho 26 = .ok (.aload_n 0, 1) := by decide +kernel
theorem dX0_addEcho_27 : decode cX0_addEcho 27 = .ok (.getfield 70, 3) := by decide +kernel
theorem dX0_addEcho_30 : decode cX0_addEcho 30 = .ok (.iload_n 3, 1) := by decide +kernel
theorem dX0_addEcho_31 : decode cX0_addEcho 31 = .ok (.iload_n 2, 1) := by decide +kernel
theorem dX0_addEcho_32 : decode cX0_addEcho 32 = .ok (.iastore, 1) := by decide +kernel
theorem dX0_addEcho_33 : decode cX0_addEcho 33 = .ok (.aload_n 0, 1) := by decide +kernel
theorem dX0_addEcho_34 : decode cX0_addEcho 34 = .ok (.getfield 73, 3) := by decide +kernel
theorem dX0_addEcho_37 : decode cX0_addEcho 37 = .ok (.iload_n 3, 1) := by decide +kernel
theorem dX0_addEcho_38 : decode cX0_addEcho 38 = .ok (.iconst (-1), 1) := by decide +kernel
theorem dX0_addEcho_39 : decode cX0_addEcho 39 = .ok (.iastore, 1) := by decide +kernel
theorem dX0_addEcho_40 : decode cX0_addEcho 40 = .ok (.aload_n 0, 1) := by decide +kernel
theorem dX0_addEcho_41 : decode cX0_addEcho 41 = .ok (.dup, 1) := by decide +kernel
theorem dX0_addEcho_42 : decode cX0_addEcho 42 = .ok (.getfield 58, 3) := by decide +kernel
theorem dX0_addEcho_45 : decode cX0_addEcho 45 = .ok (.iconst 1, 1) := by decide +kernel
theorem dX0_addEcho_46 : decode cX0_addEcho 46 = .ok (.iadd, 1) := by decide +kernel
theorem dX0_addEcho_47 : decode cX0_addEcho 47 = .ok (.putfield 58, 3) := by decide +kernel
theorem dX0_addEcho_50 : decode cX0_addEcho 50 = .ok (.aload_n 0, 1) := by decide +kernel
theorem dX0_addEcho_51 : decode cX0_addEcho 51 = .ok (.dup, 1) := by decide +kernel
theorem dX0_addEcho_52 : decode cX0_addEcho 52 = .ok (.getfield 61, 3) := by decide +kernel
theorem dX0_addEcho_55 : decode cX0_addEcho 55 = .ok (.iconst 1, 1) := by decide +kernel
theorem dX0_addEcho_56 : decode cX0_addEcho 56 = .ok (.iadd, 1) := by decide +kernel
theorem dX0_addEcho_57 : decode cX0_addEcho 57 = .ok (.putfield 61, 3) := by decide +kernel
theorem dX0_addEcho_60 : decode cX0_addEcho 60 = .ok (.aload_n 0, 1) := by decide +kernel
theorem dX0_addEcho_61 : decode cX0_addEcho 61 = .ok (.dup, 1) := by decide +kernel
theorem dX0_addEcho_62 : decode cX0_addEcho 62 = .ok (.getfield 76, 3) := by decide +kernel
theorem dX0_addEcho_65 : decode cX0_addEcho 65 = .ok (.iload_n 2, 1) := by decide +kernel
theorem dX0_addEcho_66 : decode cX0_addEcho 66 = .ok (.i2l, 1) := by decide +kernel
theorem dX0_addEcho_67 : decode cX0_addEcho 67 = .ok (.ladd, 1) := by decide +kernel
theorem dX0_addEcho_68 : decode cX0_addEcho 68 = .ok (.putfield 76, 3) := by decide +kernel
theorem dX0_addEcho_71 : decode cX0_addEcho 71 = .ok (.iload 4, 2) := by decide +kernel
theorem dX0_addEcho_73 : decode cX0_addEcho 73 = .ok (.ireturn, 1) := by decide +kernel
theorem dX0_moveSlot_0 : decode cX0_moveSlot 0 = .ok (.aload_n 0, 1) := by decide +kernel
theorem dX0_moveSlot_1 : decode cX0_moveSlot 1 = .ok (.getfield 67, 3) := by decide +kernel
theorem dX0_moveSlot_4 : decode cX0_moveSlot 4 = .ok (.iload_n 1, 1) := by decide +kernel
theorem dX0_moveSlot_5 : decode cX0_moveSlot 5 = .ok (.iaload, 1) := by decide +kernel
theorem dX0_moveSlot_6 : decode cX0_moveSlot 6 = .ok (.istore_n 3, 1) := by decide +kernel
theorem dX0_moveSlot_7 : decode cX0_moveSlot 7 = .ok (.aload_n 0, 1) := by decide +kernel
theorem dX0_moveSlot_8 : decode cX0_moveSlot 8 = .ok (.getfield 67, 3) := by decide +kernel
theorem dX0_moveSlot_11 : decode cX0_moveSlot 11 = .ok (.iload_n 1, 1) := by decide +kernel
theorem dX0_moveSlot_12 : decode cX0_moveSlot 12 = .ok (.iload_n 2, 1) := by decide +kernel
theorem dX0_moveSlot_13 : decode cX0_moveSlot 13 = .ok (.iastore, 1) := by decide +kernel
theorem dX0_moveSlot_14 : decode cX0_moveSlot 14 = .ok (.aload_n 0, 1) := by decide +kernel
theorem dX0_moveSlot_15 : decode cX0_moveSlot 15 = .ok (.dup, 1) := by decide +kernel
theorem dX0_moveSlot_16 : decode cX0_moveSlot 16 = .ok (.getfield 80, 3) := by decide +kernel
theorem dX0_moveSlot_19 : decode cX0_moveSlot 19 = .ok (.iconst 1, 1) := by decide +kernel
theorem dX0_moveSlot_20 : decode cX0_moveSlot 20 = .ok (.iadd, 1) := by decide +kernel
theorem dX0_moveSlot_21 : decode cX0_moveSlot 21 = .ok (.putfield 80, 3) := by decide +kernel
theorem dX0_moveSlot_24 : decode cX0_moveSlot 24 = .ok (.iload_n 3, 1) := by decide +kernel
theorem dX0_moveSlot_25 : decode cX0_moveSlot 25 = .ok (.ireturn, 1) := by decide +kernel
theorem dX0_removeSlot_0 : decode cX0_removeSlot 0 = .ok (.aload_n 0, 1) := by decide +kernel
theorem dX0_removeSlot_1 : decode cX0_removeSlot 1 = .ok (.iload_n 1, 1) := by decide +kernel
theorem dX0_removeSlot_2 : decode cX0_removeSlot 2 = .ok (.invokestatic 83, 3) := by decide +kernel
theorem dX0_removeSlot_5 : decode cX0_removeSlot 5 = .ok (.istore_n 2, 1) := by decide +kernel
theorem dX0_removeSlot_6 : decode cX0_removeSlot 6 = .ok (.aload_n 0, 1) := by decide +kernel
theorem dX0_removeSlot_7 : decode cX0_removeSlot 7 = .ok (.dup, 1) := by decide +kernel
theorem dX0_removeSlot_8 : decode cX0_removeSlot 8 = .ok (.getfield 86, 3) := by decide +kernel
theorem dX0_removeSlot_11 : decode cX0_removeSlot 11 = .ok (.iload_n 2, 1) := by decide +kernel
theorem dX0_removeSlot_12 : decode cX0_removeSlot 12 = .ok (.i2l, 1) := by decide +kernel
theorem dX0_removeSlot_13 : decode cX0_removeSlot 13 = .ok (.ladd, 1) := by decide +kernel
theorem dX0_removeSlot_14 : decode cX0_removeSlot 14 = .ok (.putfield 86, 3) := by decide +kernel
theorem dX0_removeSlot_17 : decode cX0_removeSlot 17 = .ok (.aload_n 0, 1) := by decide +kernel
theorem dX0_removeSlot_18 : decode cX0_removeSlot 18 = .ok (.dup, 1) := by decide +kernel
theorem dX0_removeSlot_19 : decode cX0_removeSlot 19 = .ok (.getfield 89, 3) := by decide +kernel
theorem dX0_removeSlot_22 : decode cX0_removeSlot 22 = .ok (.iconst 1, 1) := by decide +kernel
theorem dX0_removeSlot_23 : decode cX0_removeSlot 23 = .ok (.iadd, 1) := by decide +kernel
theorem dX0_removeSlot_24 : decode cX0_removeSlot 24 = .ok (.putfield 89, 3) := by decide +kernel
theorem dX0_removeSlot_27 : decode cX0_removeSlot 27 = .ok (.aload_n 0, 1) := by decide +kernel
theorem dX0_removeSlot_28 : decode cX0_removeSlot 28 = .ok (.iload_n 1, 1) := by decide +kernel
theorem dX0_removeSlot_29 : decode cX0_removeSlot 29 = .ok (.invokestatic 92, 3) := by decide +kernel
theorem dX0_removeSlot_32 : decode cX0_removeSlot 32 = .ok (.aload_n 0, 1) := by decide +kernel
theorem dX0_removeSlot_33 : decode cX0_removeSlot 33 = .ok (.iload_n 1, 1) := by decide +kernel
theorem dX0_removeSlot_34 : decode cX0_removeSlot 34 = .ok (.invokestatic 96, 3) := by decide +kernel
theorem dX0_removeSlot_37 : decode cX0_removeSlot 37 = .ok (.iload_n 2, 1) := by decide +kernel
theorem dX0_removeSlot_38 : decode cX0_removeSlot 38 = .ok (.ireturn, 1) := by decide +kernel
theorem dX0_bequeath_0 : decode cX0_bequeath 0 = .ok (.aload_n 0, 1) := by decide +kernel
theorem dX0_bequeath_1 : decode cX0_bequeath 1 = .ok (.iload_n 1, 1) := by decide +kernel
theorem dX0_bequeath_2 : decode cX0_bequeath 2 = .ok (.invokevirtual 99, 3) := by decide +kernel
theorem dX0_bequeath_5 : decode cX0_bequeath 5 = .ok (.istore_n 2, 1) := by decide +kernel
theorem dX0_bequeath_6 : decode cX0_bequeath 6 = .ok (.iload_n 2, 1) := by decide +kernel
theorem dX0_bequeath_7 : decode cX0_bequeath 7 = .ok (.iconst (-1), 1) := by decide +kernel
theorem dX0_bequeath_8 : decode cX0_bequeath 8 = .ok (.if_icmp .ne 10, 3) := by decide +kernel
theorem dX0_bequeath_11 : decode cX0_bequeath 11 = .ok (.aload_n 0, 1) := by decide +kernel
theorem dX0_bequeath_12 : decode cX0_bequeath 12 = .ok (.getfield 70, 3) := by decide +kernel
theorem dX0_bequeath_15 : decode cX0_bequeath 15 = .ok (.iload_n 1, 1) := by decide +kernel
theorem dX0_bequeath_16 : decode cX0_bequeath 16 = .ok (.iaload, 1) := by decide +kernel
theorem dX0_bequeath_17 : decode cX0_bequeath 17 = .ok (.ireturn, 1) := by decide +kernel
theorem dX0_bequeath_18 : decode cX0_bequeath 18 = .ok (.aload_n 0, 1) := by decide +kernel
theorem dX0_bequeath_19 : decode cX0_bequeath 19 = .ok (.getfield 70, 3) := by decide +kernel
theorem dX0_bequeath_22 : decode cX0_bequeath 22 = .ok (.iload_n 2, 1) := by decide +kernel
theorem dX0_bequeath_23 : decode cX0_bequeath 23 = .ok (.iaload, 1) := by decide +kernel
theorem dX0_bequeath_24 : decode cX0_bequeath 24 = .ok (.aload_n 0, 1) := by decide +kernel
theorem dX0_bequeath_25 : decode cX0_bequeath 25 = .ok (.getfield 70, 3) := by decide +kernel
theorem dX0_bequeath_28 : decode cX0_bequeath 28 = .ok (.iload_n 1, 1) := by decide +kernel
theorem dX0_bequeath_29 : decode cX0_bequeath 29 = .ok (.iaload, 1) := by decide +kernel
theorem dX0_bequeath_30 : decode cX0_bequeath 30 = .ok (.iadd, 1) := by decide +kernel
theorem dX0_bequeath_31 : decode cX0_bequeath 31 = .ok (.istore_n 3, 1) := by decide +kernel
theorem dX0_bequeath_32 : decode cX0_bequeath 32 = .ok (.aload_n 0, 1) := by decide +kernel
theorem dX0_bequeath_33 : decode cX0_bequeath 33 = .ok (.getfield 70, 3) := by decide +kernel
theorem dX0_bequeath_36 : decode cX0_bequeath 36 = .ok (.iload_n 2, 1) := by decide +kernel
theorem dX0_bequeath_37 : decode cX0_bequeath 37 = .ok (.iload_n 3, 1) := by decide +kernel
theorem dX0_bequeath_38 : decode cX0_bequeath 38 = .ok (.sipush 999, 3) := by decide +kernel
theorem dX0_bequeath_41 : decode cX0_bequeath 41 = .ok (.invokestatic 102, 3) := by decide +kernel
theorem dX0_bequeath_44 : decode cX0_bequeath 44 = .ok (.iastore, 1) := by decide +kernel
theorem dX0_bequeath_45 : decode cX0_bequeath 45 = .ok (.iload_n 3, 1) := by decide +kernel
theorem dX0_bequeath_46 : decode cX0_bequeath 46 = .ok (.aload_n 0, 1) := by decide +kernel
theorem dX0_bequeath_47 : decode cX0_bequeath 47 = .ok (.getfield 70, 3) := by decide +kernel
theorem dX0_bequeath_50 : decode cX0_bequeath 50 = .ok (.iload_n 2, 1) := by decide +kernel
theorem dX0_bequeath_51 : decode cX0_bequeath 51 = .ok (.iaload, 1) := by decide +kernel
theorem dX0_bequeath_52 : decode cX0_bequeath 52 = .ok (.isub, 1) := by decide +kernel
theorem dX0_bequeath_53 : decode cX0_bequeath 53 = .ok (.ireturn, 1) := by decide +kernel
theorem dX0_passOnBequeathers_0 : decode cX0_passOnBequeathers 0 = .ok (.iconst 0, 1) := by decide +kernel
theorem dX0_passOnBequeathers_1 : decode cX0_passOnBequeathers 1 = .ok (.istore_n 2, 1) := by decide +kernel
theorem dX0_passOnBequeathers_2 : decode cX0_passOnBequeathers 2 = .ok (.iload_n 2, 1) := by decide +kernel
theorem dX0_passOnBequeathers_3 : decode cX0_passOnBequeathers 3 = .ok (.aload_n 0, 1) := by decide +kernel
theorem dX0_passOnBequeathers_4 : decode cX0_passOnBequeathers 4 = .ok (.getfield 58, 3) := by decide +kernel
theorem dX0_passOnBequeathers_7 : decode cX0_passOnBequeathers 7 = .ok (.if_icmp .ge 36, 3) := by decide +kernel
theorem dX0_passOnBequeathers_10 : decode cX0_passOnBequeathers 10 = .ok (.aload_n 0, 1) := by decide +kernel
theorem dX0_passOnBequeathers_11 : decode cX0_passOnBequeathers 11 = .ok (.getfield 73, 3) := by decide +kernel
theorem dX0_passOnBequeathers_14 : decode cX0_passOnBequeathers 14 = .ok (.iload_n 2, 1) := by decide +kernel
theorem dX0_passOnBequeathers_15 : decode cX0_passOnBequeathers 15 = .ok (.iaload, 1) := by decide +kernel
theorem dX0_passOnBequeathers_16 : decode cX0_passOnBequeathers 16 = .ok (.aload_n 0, 1) := by decide +kernel
theorem dX0_passOnBequeathers_17 : decode cX0_passOnBequeathers 17 = .ok (.getfield 64, 3) := by decide +kernel
theorem dX0_passOnBequeathers_20 : decode cX0_passOnBequeathers 20 = .ok (.iload_n 1, 1) := by decide +kernel
theorem dX0_passOnBequeathers_21 : decode cX0_passOnBequeathers 21 = .ok (.iaload, 1) := by decide +kernel
theorem dX0_passOnBequeathers_22 : decode cX0_passOnBequeathers 22 = .ok (.if_icmp .ne 15, 3) := by decide +kernel
theorem dX0_passOnBequeathers_25 : decode cX0_passOnBequeathers 25 = .ok (.aload_n 0, 1) := by decide +kernel
theorem dX0_passOnBequeathers_26 : decode cX0_passOnBequeathers 26 = .ok (.getfield 73, 3) := by decide +kernel
theorem dX0_passOnBequeathers_29 : decode cX0_passOnBequeathers 29 = .ok (.iload_n 2, 1) := by decide +kernel
theorem dX0_passOnBequeathers_30 : decode cX0_passOnBequeathers 30 = .ok (.aload_n 0, 1) := by decide +kernel
theorem dX0_passOnBequeathers_31 : decode cX0_passOnBequeathers 31 = .ok (.getfield 73, 3) := by decide +kernel
theorem dX0_passOnBequeathers_34 : decode cX0_passOnBequeathers 34 = .ok (.iload_n 1, 1) := by decide +kernel
theorem dX0_passOnBequeathers_35 : decode cX0_passOnBequeathers 35 = .ok (.iaload, 1) := by decide +kernel
theorem dX0_passOnBequeathers_36 : decode cX0_passOnBequeathers 36 = .ok (.iastore, 1) := by decide +kernel
theorem dX0_passOnBequeathers_37 : decode cX0_passOnBequeathers 37 = .ok (.iinc 2 1, 3) := by decide +kernel
theorem dX0_passOnBequeathers_40 : decode cX0_passOnBequeathers 40 = .ok (.goto (-38), 3) := by decide +kernel
theorem dX0_passOnBequeathers_43 : decode cX0_passOnBequeathers 43 = .ok (.return_, 1) := by decide +kernel
theorem dX0_closeGap_0 : decode cX0_closeGap 0 = .ok (.aload_n 0, 1) := by decide +kernel
theorem dX0_closeGap_1 : decode cX0_closeGap 1 = .ok (.dup, 1) := by decide +kernel
theorem dX0_closeGap_2 : decode cX0_closeGap 2 = .ok (.getfield 58, 3) := by decide +kernel
theorem dX0_closeGap_5 : decode cX0_closeGap 5 = .ok (.iconst 1, 1) := by decide +kernel
theorem dX0_closeGap_6 : decode cX0_closeGap 6 = .ok (.isub, 1) := by decide +kernel
theorem dX0_closeGap_7 : decode cX0_closeGap 7 = .ok (.putfield 58, 3) := by decide +kernel
theorem dX0_closeGap_10 : decode cX0_closeGap 10 = .ok (.iload_n 1, 1) := by decide +kernel
theorem dX0_closeGap_11 : decode cX0_closeGap 11 = .ok (.istore_n 2, 1) := by decide +kernel
theorem dX0_closeGap_12 : decode cX0_closeGap 12 = .ok (.iload_n 2, 1) := by decide +kernel
theorem dX0_closeGap_13 : decode cX0_closeGap 13 = .ok (.aload_n 0, 1) := by decide +kernel
theorem dX0_closeGap_14 : decode cX0_closeGap 14 = .ok (.getfield 58, 3) := by decide +kernel
theorem dX0_closeGap_17 : decode cX0_closeGap 17 = .ok (.if_icmp .ge 18, 3) := by decide +kernel
theorem dX0_closeGap_20 : decode cX0_closeGap 20 = .ok (.aload_n 0, 1) := by decide +kernel
theorem dX0_closeGap_21 : decode cX0_closeGap 21 = .ok (.iload_n 2, 1) := by decide +kernel
theorem dX0_closeGap_22 : decode cX0_closeGap 22 = .ok (.aload_n 0, 1) := by decide +kernel
theorem dX0_closeGap_23 : decode cX0_closeGap 23 = .ok (.iload_n 2, 1) := by decide +kernel
theorem dX0_closeGap_24 : decode cX0_closeGap 24 = .ok (.iconst 1, 1) := by decide +kernel
theorem dX0_closeGap_25 : decode cX0_closeGap 25 = .ok (.iadd, 1) := by decide +kernel
theorem dX0_closeGap_26 : decode cX0_closeGap 26 = .ok (.invokevirtual 108, 3) := by decide +kernel
theorem dX0_closeGap_29 : decode cX0_closeGap 29 = .ok (.iinc 2 1, 3) := by decide +kernel
theorem dX0_closeGap_32 : decode cX0_closeGap 32 = .ok (.goto (-20), 3) := by decide +kernel
theorem dX0_closeGap_35 : decode cX0_closeGap 35 = .ok (.return_, 1) := by decide +kernel
theorem dX0_replaceHeir_0 : decode cX0_replaceHeir 0 = .ok (.aload_n 0, 1) := by decide +kernel
theorem dX0_replaceHeir_1 : decode cX0_replaceHeir 1 = .ok (.getfield 73, 3) := by decide +kernel
theorem dX0_replaceHeir_4 : decode cX0_replaceHeir 4 = .ok (.iload_n 1, 1) := by decide +kernel
theorem dX0_replaceHeir_5 : decode cX0_replaceHeir 5 = .ok (.iaload, 1) := by decide +kernel
theorem dX0_replaceHeir_6 : decode cX0_replaceHeir 6 = .ok (.istore_n 3, 1) := by decide +kernel
theorem dX0_replaceHeir_7 : decode cX0_replaceHeir 7 = .ok (.aload_n 0, 1) := by decide +kernel
theorem dX0_replaceHeir_8 : decode cX0_replaceHeir 8 = .ok (.getfield 73, 3) := by decide +kernel
theorem dX0_replaceHeir_11 : decode cX0_replaceHeir 11 = .ok (.iload_n 1, 1) := by decide +kernel
theorem dX0_replaceHeir_12 : decode cX0_replaceHeir 12 = .ok (.iload_n 2, 1) := by decide +kernel
theorem dX0_replaceHeir_13 : decode cX0_replaceHeir 13 = .ok (.iastore, 1) := by decide +kernel
theorem dX0_replaceHeir_14 : decode cX0_replaceHeir 14 = .ok (.iload_n 3, 1) := by decide +kernel
theorem dX0_replaceHeir_15 : decode cX0_replaceHeir 15 = .ok (.ireturn, 1) := by decide +kernel
theorem dX0_setLocked_0 : decode cX0_setLocked 0 = .ok (.aload_n 0, 1) := by decide +kernel
theorem dX0_setLocked_1 : decode cX0_setLocked 1 = .ok (.getfield 112, 3) := by decide +kernel
theorem dX0_setLocked_4 : decode cX0_setLocked 4 = .ok (.iload_n 1, 1) := by decide +kernel
theorem dX0_setLocked_5 : decode cX0_setLocked 5 = .ok (.iload_n 2, 1) := by decide +kernel
theorem dX0_setLocked_6 : decode cX0_setLocked 6 = .ok (.bastore, 1) := by decide +kernel
theorem dX0_setLocked_7 : decode cX0_setLocked 7 = .ok (.aload_n 0, 1) := by decide +kernel
theorem dX0_setLocked_8 : decode cX0_setLocked 8 = .ok (.invokevirtual 116, 3) := by decide +kernel
theorem dX0_setLocked_11 : decode cX0_setLocked 11 = .ok (.ireturn, 1) := by decide +kernel
theorem dX0_nameByBox_0 : decode cX0_nameByBox 0 = .ok (.aload_n 0, 1) := by decide +kernel
theorem dX0_nameByBox_1 : decode cX0_nameByBox 1 = .ok (.getfield 120, 3) := by decide +kernel
theorem dX0_nameByBox_4 : decode cX0_nameByBox 4 = .ok (.iload_n 1, 1) := by decide +kernel
theorem dX0_nameByBox_5 : decode cX0_nameByBox 5 = .ok (.iaload, 1) := by decide +kernel
theorem dX0_nameByBox_6 : decode cX0_nameByBox 6 = .ok (.istore_n 3, 1) := by decide +kernel
theorem dX0_nameByBox_7 : decode cX0_nameByBox 7 = .ok (.aload_n 0, 1) := by decide +kernel
theorem dX0_nameByBox_8 : decode cX0_nameByBox 8 = .ok (.getfield 120, 3) := by decide +kernel
theorem dX0_nameByBox_11 : decode cX0_nameByBox 11 = .ok (.iload_n 1, 1) := by decide +kernel
theorem dX0_nameByBox_12 : decode cX0_nameByBox 12 = .ok (.iload_n 2, 1) := by decide +kernel
theorem dX0_nameByBox_13 : decode cX0_nameByBox 13 = .ok (.iastore, 1) := by decide +kernel
theorem dX0_nameByBox_14 : decode cX0_nameByBox 14 = .ok (.iload_n 3, 1) := by decide +kernel
theorem dX0_nameByBox_15 : decode cX0_nameByBox 15 = .ok (.ireturn, 1) := by decide +kernel
theorem dX0_spreadOut_0 : decode cX0_spreadOut 0 = .ok (.iconst 0, 1) := by decide +kernel
theorem dX0_spreadOut_1 : decode cX0_spreadOut 1 = .ok (.istore_n 2, 1) := by decide +kernel
theorem dX0_spreadOut_2 : decode cX0_spreadOut 2 = .ok (.iload_n 2, 1) := by decide +kernel
theorem dX0_spreadOut_3 : decode cX0_spreadOut 3 = .ok (.bipush 24, 2) := by decide +kernel
theorem dX0_spreadOut_5 : decode cX0_spreadOut 5 = .ok (.if_icmp .ge 52, 3) := by decide +kernel
theorem dX0_spreadOut_8 : decode cX0_spreadOut 8 = .ok (.aload_n 0, 1) := by decide +kernel
theorem dX0_spreadOut_9 : decode cX0_spreadOut 9 = .ok (.iload_n 1, 1) := by decide +kernel
theorem dX0_spreadOut_10 : decode cX0_spreadOut 10 = .ok (.invokevirtual 123, 3) := by decide +kernel
theorem dX0_spreadOut_13 : decode cX0_spreadOut 13 = .ok (.ifCond .eq 44, 3) := by decide +kernel
theorem dX0_spreadOut_16 : decode cX0_spreadOut 16 = .ok (.aload_n 0, 1) := by decide +kernel
theorem dX0_spreadOut_17 : decode cX0_spreadOut 17 = .ok (.iload_n 1, 1) := by decide +kernel
theorem dX0_spreadOut_18 : decode cX0_spreadOut 18 = .ok (.iload_n 1, 1) := by decide +kernel
theorem dX0_spreadOut_19 : decode cX0_spreadOut 19 = .ok (.invokevirtual 127, 3) := by decide +kernel
theorem dX0_spreadOut_22 : decode cX0_spreadOut 22 = .ok (.istore_n 3, 1) := by decide +kernel
theorem dX0_spreadOut_23 : decode cX0_spreadOut 23 = .ok (.aload_n 0, 1) := by decide +kernel
theorem dX0_spreadOut_24 : decode cX0_spreadOut 24 = .ok (.iload_n 1, 1) := by decide +kernel
theorem dX0_spreadOut_25 : decode cX0_spreadOut 25 = .ok (.invokevirtual 130, 3) := by decide +kernel
theorem dX0_spreadOut_28 : decode cX0_spreadOut 28 = .ok (.istore 4, 2) := by decide +kernel
theorem dX0_spreadOut_30 : decode cX0_spreadOut 30 = .ok (.iload_n 3, 1) := by decide +kernel
theorem dX0_spreadOut_31 : decode cX0_spreadOut 31 = .ok (.iconst (-1), 1) := by decide +kernel
theorem dX0_spreadOut_32 : decode cX0_spreadOut 32 = .ok (.if_icmp .eq 9, 3) := by decide +kernel
theorem dX0_spreadOut_35 : decode cX0_spreadOut 35 = .ok (.iload 4, 2) := by decide +kernel
theorem dX0_spreadOut_37 : decode cX0_spreadOut 37 = .ok (.iconst (-1), 1) := by decide +kernel
theorem dX0_spreadOut_38 : decode cX0_spreadOut 38 = .ok (.if_icmp .ne 5, 3) := by decide +kernel
theorem dX0_spreadOut_41 : decode cX0_spreadOut 41 = .ok (.iload_n 2, 1) := by decide +kernel
theorem dX0_spreadOut_42 : decode cX0_spreadOut 42 = .ok (.ireturn, 1) := by decide +kernel
theorem dX0_spreadOut_43 : decode cX0_spreadOut 43 = .ok (.aload_n 0, 1) := by decide +kernel
theorem dX0_spreadOut_44 : decode cX0_spreadOut 44 = .ok (.iload_n 3, 1) := by decide +kernel
theorem dX0_spreadOut_45 : decode cX0_spreadOut 45 = .ok (.iload 4, 2) := by decide +kernel
theorem dX0_spreadOut_47 : decode cX0_spreadOut 47 = .ok (.invokestatic 28, 3) := by decide +kernel
theorem dX0_spreadOut_50 : decode cX0_spreadOut 50 = .ok (.pop, 1) := by decide +kernel
theorem dX0_spreadOut_51 : decode cX0_spreadOut 51 = .ok (.iinc 2 1, 3) := by decide +kernel
theorem dX0_spreadOut_54 : decode cX0_spreadOut 54 = .ok (.goto (-52), 3) := by decide +kernel
theorem dX0_spreadOut_57 : decode cX0_spreadOut 57 = .ok (.iload_n 2, 1) := by decide +kernel
theorem dX0_spreadOut_58 : decode cX0_spreadOut 58 = .ok (.ireturn, 1) := by decide +kernel
theorem dX1_init_0 : decode cX1_init 0 = .ok (.aload_n 0, 1) := by decide +kernel
theorem dX1_init_1 : decode cX1_init 1 = .ok (.invokespecial 3, 3) := by decide +kernel
theorem dX1_init_4 : decode cX1_init 4 = .ok (.aload_n 0, 1) := by decide +kernel
theorem dX1_init_5 : decode cX1_init 5 = .ok (.bipush 9, 2) := by decide +kernel
theorem dX1_init_7 : decode cX1_init 7 = .ok (.newarray .int, 2) := by decide +kernel
theorem dX1_init_9 : decode cX1_init 9 = .ok (.putfield 9, 3) := by decide +kernel
theorem dX1_init_12 : decode cX1_init 12 = .ok (.return_, 1) := by decide +kernel
theorem dX1_fillFrom_0 : decode cX1_fillFrom 0 = .ok (.iconst 0, 1) := by decide +kernel
theorem dX1_fillFrom_1 : decode cX1_fillFrom 1 = .ok (.istore_n 2, 1) := by decide +kernel
theorem dX1_fillFrom_2 : decode cX1_fillFrom 2 = .ok (.iload_n 2, 1) := by decide +kernel
theorem dX1_fillFrom_3 : decode cX1_fillFrom 3 = .ok (.bipush 8, 2) := by decide +kernel
theorem dX1_fillFrom_5 : decode cX1_fillFrom 5 = .ok (.if_icmp .gt 16, 3) := by decide +kernel
theorem dX1_fillFrom_8 : decode cX1_fillFrom 8 = .ok (.aload_n 0, 1) := by decide +kernel
theorem dX1_fillFrom_9 : decode cX1_fillFrom 9 = .ok (.getfield 9, 3) := by decide +kernel
theorem dX1_fillFrom_12 : decode cX1_fillFrom 12 = .ok (.iload_n 2, 1) := by decide +kernel
theorem dX1_fillFrom_13 : decode cX1_fillFrom 13 = .ok (.iconst 0, 1) := by decide +kernel
theorem dX1_fillFrom_14 : decode cX1_fillFrom 14 = .ok (.iastore, 1) := by decide +kernel
theorem dX1_fillFrom_15 : decode cX1_fillFrom 15 = .ok (.iinc 2 1, 3) := by decide +kernel
theorem dX1_fillFrom_18 : decode cX1_fillFrom 18 = .ok (.goto (-16), 3) := by decide +kernel
theorem dX1_fillFrom_21 : decode cX1_fillFrom 21 = .ok (.iconst 0, 1) := by decide +kernel
theorem dX1_fillFrom_22 : decode cX1_fillFrom 22 = .ok (.istore_n 2, 1) := by decide +kernel
theorem dX1_fillFrom_23 : decode cX1_fillFrom 23 = .ok (.iload_n 2, 1) := by decide +kernel
theorem dX1_fillFrom_24 : decode cX1_fillFrom 24 = .ok (.aload_n 1, 1) := by decide +kernel
theorem dX1_fillFrom_25 : decode cX1_fillFrom 25 = .ok (.getfield 15, 3) := by decide +kernel
theorem dX1_fillFrom_28 : decode cX1_fillFrom 28 = .ok (.if_icmp .ge 19, 3) := by decide +kernel
theorem dX1_fillFrom_31 : decode cX1_fillFrom 31 = .ok (.aload_n 0, 1) := by decide +kernel
theorem dX1_fillFrom_32 : decode cX1_fillFrom 32 = .ok (.iload_n 2, 1) := by decide +kernel
theorem dX1_fillFrom_33 : decode cX1_fillFrom 33 = .ok (.aload_n 1, 1) := by decide +kernel
theorem dX1_fillFrom_34 : decode cX1_fillFrom 34 = .ok (.iload_n 2, 1) := by decide +kernel
theorem dX1_fillFrom_35 : decode cX1_fillFrom 35 = .ok (.invokevirtual 21, 3) := by decide +kernel
theorem dX1_fillFrom_38 : decode cX1_fillFrom 38 = .ok (.invokevirtual 25, 3) := by decide +kernel
theorem dX1_fillFrom_41 : decode cX1_fillFrom 41 = .ok (.iinc 2 1, 3) := by decide +kernel
theorem dX1_fillFrom_44 : decode cX1_fillFrom 44 = .ok (.goto (-21), 3) := by decide +kernel
theorem dX1_fillFrom_47 : decode cX1_fillFrom 47 = .ok (.return_, 1) := by decide +kernel
theorem dX1_count_0 : decode cX1_count 0 = .ok (.iload_n 1, 1) := by decide +kernel
theorem dX1_count_1 : decode cX1_count 1 = .ok (.iconst 1, 1) := by decide +kernel
theorem dX1_count_2 : decode cX1_count 2 = .ok (.iadd, 1) := by decide +kernel
theorem dX1_count_3 : decode cX1_count 3 = .ok (.istore_n 3, 1) := by decide +kernel
theorem dX1_count_4 : decode cX1_count 4 = .ok (.iload_n 3, 1) := by decide +kernel
theorem dX1_count_5 : decode cX1_count 5 = .ok (.bipush 8, 2) := by decide +kernel
theorem dX1_count_7 : decode cX1_count 7 = .ok (.if_icmp .gt 23, 3) := by decide +kernel
theorem dX1_count_10 : decode cX1_count 10 = .ok (.aload_n 0, 1) := by decide +kernel
theorem dX1_count_11 : decode cX1_count 11 = .ok (.getfield 9, 3) := by decide +kernel
theorem dX1_count_14 : decode cX1_count 14 = .ok (.iload_n 3, 1) := by decide +kernel
theorem dX1_count_15 : decode cX1_count 15 = .ok (.dup2, 1) := by decide +kernel
theorem dX1_count_16 : decode cX1_count 16 = .ok (.iaload, 1) := by decide +kernel
theorem dX1_count_17 : decode cX1_count 17 = .ok (.iload_n 2, 1) := by decide +kernel
theorem dX1_count_18 : decode cX1_count 18 = .ok (.iadd, 1) := by decide +kernel
theorem dX1_count_19 : decode cX1_count 19 = .ok (.iastore, 1) := by decide +kernel
theorem dX1_count_20 : decode cX1_count 20 = .ok (.iload_n 3, 1) := by decide +kernel
theorem dX1_count_21 : decode cX1_count 21 = .ok (.iload_n 3, 1) := by decide +kernel
theorem dX1_count_22 : decode cX1_count 22 = .ok (.iload_n 3, 1) := by decide +kernel
theorem dX1_count_23 : decode cX1_count 23 = .ok (.ineg, 1) := by decide +kernel
theorem dX1_count_24 : decode cX1_count 24 = .ok (.iand, 1) := by decide +kernel
theorem dX1_count_25 : decode cX1_count 25 = .ok (.iadd, 1) := by decide +kernel
theorem dX1_count_26 : decode cX1_count 26 = .ok (.istore_n 3, 1) := by decide +kernel
theorem dX1_count_27 : decode cX1_count 27 = .ok (.goto (-23), 3) := by decide +kernel
theorem dX1_count_30 : decode cX1_count 30 = .ok (.return_, 1) := by decide +kernel
theorem dX1_sumOfFirst_0 : decode cX1_sumOfFirst 0 = .ok (.iconst 0, 1) := by decide +kernel
theorem dX1_sumOfFirst_1 : decode cX1_sumOfFirst 1 = .ok (.istore_n 2, 1) := by decide +kernel
theorem dX1_sumOfFirst_2 : decode cX1_sumOfFirst 2 = .ok (.iload_n 1, 1) := by decide +kernel
theorem dX1_sumOfFirst_3 : decode cX1_sumOfFirst 3 = .ok (.istore_n 3, 1) := by decide +kernel
theorem dX1_sumOfFirst_4 : decode cX1_sumOfFirst 4 = .ok (.iload_n 3, 1) := by decide +kernel
theorem dX1_sumOfFirst_5 : decode cX1_sumOfFirst 5 = .ok (.ifCond .le 22, 3) := by decide +kernel
theorem dX1_sumOfFirst_8 : decode cX1_sumOfFirst 8 = .ok (.iload_n 2, 1) := by decide +kernel
theorem dX1_sumOfFirst_9 : decode cX1_sumOfFirst 9 = .ok (.aload_n 0, 1) := by decide +kernel
theorem dX1_sumOfFirst_10 : decode cX1_sumOfFirst 10 = .ok (.getfield 9, 3) := by decide +kernel
theorem dX1_sumOfFirst_13 : decode cX1_sumOfFirst 13 = .ok (.iload_n 3, 1) := by decide +kernel
theorem dX1_sumOfFirst_14 : decode cX1_sumOfFirst 14 = .ok (.iaload, 1) := by decide +kernel
theorem dX1_sumOfFirst_15 : decode cX1_sumOfFirst 15 = .ok (.iadd, 1) := by decide +kernel
theorem dX1_sumOfFirst_16 : decode cX1_sumOfFirst 16 = .ok (.istore_n 2, 1) := by decide +kernel
theorem dX1_sumOfFirst_17 : decode cX1_sumOfFirst 17 = .ok (.iload_n 3, 1) := by decide +kernel
theorem dX1_sumOfFirst_18 : decode cX1_sumOfFirst 18 = .ok (.iload_n 3, 1) := by decide +kernel
theorem dX1_sumOfFirst_19 : decode cX1_sumOfFirst 19 = .ok (.iload_n 3, 1) := by decide +kernel
theorem dX1_sumOfFirst_20 : decode cX1_sumOfFirst 20 = .ok (.ineg, 1) := by decide +kernel
theorem dX1_sumOfFirst_21 : decode cX1_sumOfFirst 21 = .ok (.iand, 1) := by decide +kernel
theorem dX1_sumOfFirst_22 : decode cX1_sumOfFirst 22 = .ok (.isub, 1) := by decide +kernel
theorem dX1_sumOfFirst_23 : decode cX1_sumOfFirst 23 = .ok (.istore_n 3, 1) := by decide +kernel
theorem dX1_sumOfFirst_24 : decode cX1_sumOfFirst 24 = .ok (.goto (-20), 3) := by decide +kernel
theorem dX1_sumOfFirst_27 : decode cX1_sumOfFirst 27 = .ok (.iload_n 2, 1) := by decide +kernel
theorem dX1_sumOfFirst_28 : decode cX1_sumOfFirst 28 = .ok (.ireturn, 1) := by decide +kernel
theorem dX1_sumBetween_0 : decode cX1_sumBetween 0 = .ok (.aload_n 0, 1) := by decide +kernel
theorem dX1_sumBetween_1 : decode cX1_sumBetween 1 = .ok (.iload_n 2, 1) := by decide +kernel
theorem dX1_sumBetween_2 : decode cX1_sumBetween 2 = .ok (.iconst 1, 1) := by decide +kernel
theorem dX1_sumBetween_3 : decode cX1_sumBetween 3 = .ok (.iadd, 1) := by decide +kernel
theorem dX1_sumBetween_4 : decode cX1_sumBetween 4 = .ok (.invokevirtual 29, 3) := by decide +kernel
theorem dX1_sumBetween_7 : decode cX1_sumBetween 7 = .ok (.aload_n 0, 1) := by decide +kernel
theorem dX1_sumBetween_8 : decode cX1_sumBetween 8 = .ok (.iload_n 1, 1) := by decide +kernel
theorem dX1_sumBetween_9 : decode cX1_sumBetween 9 = .ok (.invokevirtual 29, 3) := by decide +kernel
theorem dX1_sumBetween_12 : decode cX1_sumBetween 12 = .ok (.isub, 1) := by decide +kernel
theorem dX1_sumBetween_13 : decode cX1_sumBetween 13 = .ok (.ireturn, 1) := by decide +kernel
theorem dX1_rowWithRank_0 : decode cX1_rowWithRank 0 = .ok (.iconst 0, 1) := by decide +kernel
theorem dX1_rowWithRank_1 : decode cX1_rowWithRank 1 = .ok (.istore_n 2, 1) := by decide +kernel
theorem dX1_rowWithRank_2 : decode cX1_rowWithRank 2 = .ok (.iload_n 1, 1) := by decide +kernel
theorem dX1_rowWithRank_3 : decode cX1_rowWithRank 3 = .ok (.istore_n 3, 1) := by decide +kernel
theorem dX1_rowWithRank_4 : decode cX1_rowWithRank 4 = .ok (.bipush 8, 2) := by decide +kernel
theorem dX1_rowWithRank_6 : decode cX1_rowWithRank 6 = .ok (.istore 4, 2) := by decide +kernel
theorem dX1_rowWithRank_8 : decode cX1_rowWithRank 8 = .ok (.iload 4, 2) := by decide +kernel
theorem dX1_rowWithRank_10 : decode cX1_rowWithRank 10 = .ok (.ifCond .le 49, 3) := by decide +kernel
theorem dX1_rowWithRank_13 : decode cX1_rowWithRank 13 = .ok (.iload_n 2, 1) := by decide +kernel
theorem dX1_rowWithRank_14 : decode cX1_rowWithRank 14 = .ok (.iload 4, 2) := by decide +kernel
theorem dX1_rowWithRank_16 : decode cX1_rowWithRank 16 = .ok (.iadd, 1) := by decide +kernel
theorem dX1_rowWithRank_17 : decode cX1_rowWithRank 17 = .ok (.istore 5, 2) := by decide +kernel
theorem dX1_rowWithRank_19 : decode cX1_rowWithRank 19 = .ok (.iload 5, 2) := by decide +kernel
theorem dX1_rowWithRank_21 : decode cX1_rowWithRank 21 = .ok (.bipush 8, 2) := by decide +kernel
theorem dX1_rowWithRank_23 : decode cX1_rowWithRank 23 = .ok (.if_icmp .gt 27, 3) := by decide +kernel
theorem dX1_rowWithRank_26 : decode cX1_rowWithRank 26 = .ok (.aload_n 0, 1) := by decide +kernel
theorem dX1_rowWithRank_27 : decode cX1_rowWithRank 27 = .ok (.getfield 9, 3) := by decide +kernel
theorem dX1_rowWithRank_30 : decode cX1_rowWithRank 30 = .ok (.iload 5, 2) := by decide +kernel
theorem dX1_rowWithRank_32 : decode cX1_rowWithRank 32 = .ok (.iaload, 1) := by decide +kernel
theorem dX1_rowWithRank_33 : decode cX1_rowWithRank 33 = .ok (.iload_n 3, 1) := by decide +kernel
theorem dX1_rowWithRank_34 : decode cX1_rowWithRank 34 = .ok (.if_icmp .gt 16, 3) := by decide +kernel
theorem dX1_rowWithRank_37 : decode cX1_rowWithRank 37 = .ok (.iload 5, 2) := by decide +kernel
theorem dX1_rowWithRank_39 : decode cX1_rowWithRank 39 = .ok (.istore_n 2, 1) := by decide +kernel
theorem dX1_rowWithRank_40 : decode cX1_rowWithRank 40 = .ok (.iload_n 3, 1) := by decide +kernel
theorem dX1_rowWithRank_41 : decode cX1_rowWithRank 41 = .ok (.aload_n 0, 1) := by decide +kernel
theorem dX1_rowWithRank_42 : decode cX1_rowWithRank 42 = .ok (.getfield 9, 3) := by decide +kernel
theorem dX1_rowWithRank_45 : decode cX1_rowWithRank 45 = .ok (.iload 5, 2) := by decide +kernel
theorem dX1_rowWithRank_47 : decode cX1_rowWithRank 47 = .ok (.iaload, 1) := by decide +kernel
theorem dX1_rowWithRank_48 : decode cX1_rowWithRank 48 = .ok (.isub, 1) := by decide +kernel
theorem dX1_rowWithRank_49 : decode cX1_rowWithRank 49 = .ok (.istore_n 3, 1) := by decide +kernel
theorem dX1_rowWithRank_50 : decode cX1_rowWithRank 50 = .ok (.iload 4, 2) := by decide +kernel
theorem dX1_rowWithRank_52 : decode cX1_rowWithRank 52 = .ok (.iconst 2, 1) := by decide +kernel
theorem dX1_rowWithRank_53 : decode cX1_rowWithRank 53 = .ok (.idiv, 1) := by decide +kernel
theorem dX1_rowWithRank_54 : decode cX1_rowWithRank 54 = .ok (.istore 4, 2) := by decide +kernel
theorem dX1_rowWithRank_56 : decode cX1_rowWithRank 56 = .ok (.goto (-48), 3) := by decide +kernel
theorem dX1_rowWithRank_59 : decode cX1_rowWithRank 59 = .ok (.iload_n 2, 1) := by decide +kernel
theorem dX1_rowWithRank_60 : decode cX1_rowWithRank 60 = .ok (.ireturn, 1) := by decide +kernel
theorem dX2_init_0 : decode cX2_init 0 = .ok (.aload_n 0, 1) := by decide +kernel
theorem dX2_init_1 : decode cX2_init 1 = .ok (.invokespecial 3, 3) := by decide +kernel
theorem dX2_init_4 : decode cX2_init 4 = .ok (.aload_n 0, 1) := by decide +kernel
theorem dX2_init_5 : decode cX2_init 5 = .ok (.iconst 5, 1) := by decide +kernel
theorem dX2_init_6 : decode cX2_init 6 = .ok (.bipush 24, 2) := by decide +kernel
theorem dX2_init_8 : decode cX2_init 8 = .ok (.multianewarray 11 2, 4) := by decide +kernel
theorem dX2_init_12 : decode cX2_init 12 = .ok (.putfield 13, 3) := by decide +kernel
theorem dX2_init_15 : decode cX2_init 15 = .ok (.return_, 1) := by decide +kernel
theorem dX2_fillFrom_0 : decode cX2_fillFrom 0 = .ok (.iconst 0, 1) := by decide +kernel
theorem dX2_fillFrom_1 : decode cX2_fillFrom 1 = .ok (.istore_n 2, 1) := by decide +kernel
theorem dX2_fillFrom_2 : decode cX2_fillFrom 2 = .ok (.iload_n 2, 1) := by decide +kernel
theorem dX2_fillFrom_3 : decode cX2_fillFrom 3 = .ok (.aload_n 1, 1) := by decide +kernel
theorem dX2_fillFrom_4 : decode cX2_fillFrom 4 = .ok (.getfield 16, 3) := by decide +kernel
theorem dX2_fillFrom_7 : decode cX2_fillFrom 7 = .ok (.if_icmp .ge 22, 3) := by decide +kernel
theorem dX2_fillFrom_10 : decode cX2_fillFrom 10 = .ok (.aload_n 0, 1) := by decide +kernel
theorem dX2_fillFrom_11 : decode cX2_fillFrom 11 = .ok (.getfield 13, 3) := by decide +kernel
theorem dX2_fillFrom_14 : decode cX2_fillFrom 14 = .ok (.iconst 0, 1) := by decide +kernel
theorem dX2_fillFrom_15 : decode cX2_fillFrom 15 = .ok (.aaload, 1) := by decide +kernel
theorem dX2_fillFrom_16 : decode cX2_fillFrom 16 = .ok (.iload_n 2, 1) := by decide +kernel
theorem dX2_fillFrom_17 : decode cX2_fillFrom 17 = .ok (.aload_n 1, 1) := by decide +kernel
theorem dX2_fillFrom_18 : decode cX2_fillFrom 18 = .ok (.iload_n 2, 1) := by decide +kernel
theorem dX2_fillFrom_19 : decode cX2_fillFrom 19 = .ok (.invokevirtual 22, 3) := by decide +kernel
theorem dX2_fillFrom_22 : decode cX2_fillFrom 22 = .ok (.iastore, 1) := by decide +kernel
theorem dX2_fillFrom_23 : decode cX2_fillFrom 23 = .ok (.iinc 2 1, 3) := by decide +kernel
theorem dX2_fillFrom_26 : decode cX2_fillFrom 26 = .ok (.goto (-24), 3) := by decide +kernel
theorem dX2_fillFrom_29 : decode cX2_fillFrom 29 = .ok (.iconst 1, 1) := by decide +kernel
theorem dX2_fillFrom_30 : decode cX2_fillFrom 30 = .ok (.istore_n 2, 1) := by decide +kernel
theorem dX2_fillFrom_31 : decode cX2_fillFrom 31 = .ok (.iload_n 2, 1) := by decide +kernel
theorem dX2_fillFrom_32 : decode cX2_fillFrom 32 = .ok (.iconst 5, 1) := by decide +kernel
theorem dX2_fillFrom_33 : decode cX2_fillFrom 33 = .ok (.if_icmp .ge 66, 3) := by decide +kernel
theorem dX2_fillFrom_36 : decode cX2_fillFrom 36 = .ok (.iconst 0, 1) := by decide +kernel
theorem dX2_fillFrom_37 : decode cX2_fillFrom 37 = .ok (.istore_n 3, 1) := by decide +kernel
theorem dX2_fillFrom_38 : decode cX2_fillFrom 38 = .ok (.iload_n 3, 1) := by decide +kernel
theorem dX2_fillFrom_39 : decode cX2_fillFrom 39 = .ok (.aload_n 1, 1) := by decide +kernel
theorem dX2_fillFrom_40 : decode cX2_fillFrom 40 = .ok (.getfield 16, 3) := by decide +kernel
theorem dX2_fillFrom_43 : decode cX2_fillFrom 43 = .ok (.if_icmp .ge 50, 3) := by decide +kernel
theorem dX2_fillFrom_46 : decode cX2_fillFrom 46 = .ok (.aload_n 0, 1) := by decide +kernel
theorem dX2_fillFrom_47 : decode cX2_fillFrom 47 = .ok (.getfield 13, 3) := by decide +kernel
theorem dX2_fillFrom_50 : decode cX2_fillFrom 50 = .ok (.iload_n 2, 1) := by decide +kernel
theorem dX2_fillFrom_51 : decode cX2_fillFrom 51 = .ok (.iconst 1, 1) := by decide +kernel
theorem dX2_fillFrom_52 : decode cX2_fillFrom 52 = .ok (.isub, 1) := by decide +kernel
theorem dX2_fillFrom_53 : decode cX2_fillFrom 53 = .ok (.aaload, 1) := by decide +kernel
theorem dX2_fillFrom_54 : decode cX2_fillFrom 54 = .ok (.iload_n 3, 1) := by decide +kernel
theorem dX2_fillFrom_55 : decode cX2_fillFrom 55 = .ok (.iaload, 1) := by decide +kernel
theorem dX2_fillFrom_56 : decode cX2_fillFrom 56 = .ok (.istore 4, 2) := by decide +kernel
theorem dX2_fillFrom_58 : decode cX2_fillFrom 58 = .ok (.aload_n 0, 1) := by decide +kernel
theorem dX2_fillFrom_59 : decode cX2_fillFrom 59 = .ok (.getfield 13, 3) := by decide +kernel
theorem dX2_fillFrom_62 : decode cX2_fillFrom 62 = .ok (.iload_n 2, 1) := by decide +kernel
theorem dX2_fillFrom_63 : decode cX2_fillFrom 63 = .ok (.aaload, 1) := by decide +kernel
theorem dX2_fillFrom_64 : decode cX2_fillFrom 64 = .ok (.iload_n 3, 1) := by decide +kernel
theorem dX2_fillFrom_65 : decode cX2_fillFrom 65 = .ok (.iload 4, 2) := by decide +kernel
theorem dX2_fillFrom_67 : decode cX2_fillFrom 67 = .ok (.iconst (-1), 1) := by decide +kernel
theorem dX2_fillFrom_68 : decode cX2_fillFrom 68 = .ok (.if_icmp .ne 7, 3) := by decide +kernel
theorem dX2_fillFrom_71 : decode cX2_fillFrom 71 = .ok (.iconst (-1), 1) := by decide +kernel
theorem dX2_fillFrom_72 : decode cX2_fillFrom 72 = .ok (.goto 14, 3) := by decide +kernel
theorem dX2_fillFrom_75 : decode cX2_fillFrom 75 = .ok (.aload_n 0, 1) := by decide +kernel
theorem dX2_fillFrom_76 : decode cX2_fillFrom 76 = .ok (.getfield 13, 3) := by decide +kernel
theorem dX2_fillFrom_79 : decode cX2_fillFrom 79 = .ok (.iload_n 2, 1) := by decide +kernel
theorem dX2_fillFrom_80 : decode cX2_fillFrom 80 = .ok (.iconst 1, 1) := by decide +kernel
theorem dX2_fillFrom_81 : decode cX2_fillFrom 81 = .ok (.isub, 1) := by decide +kernel
theorem dX2_fillFrom_82 : decode cX2_fillFrom 82 = .ok (.aaload, 1) := by decide +kernel
theorem dX2_fillFrom_83 : decode cX2_fillFrom 83 = .ok (.iload 4, 2) := by decide +kernel
theorem dX2_fillFrom_85 : decode cX2_fillFrom 85 = .ok (.iaload, 1) := by decide +kernel
theorem dX2_fillFrom_86 : decode cX2_fillFrom 86 = .ok (.iastore, 1) := by decide +kernel
theorem dX2_fillFrom_87 : decode cX2_fillFrom 87 = .ok (.iinc 3 1, 3) := by decide +kernel
theorem dX2_fillFrom_90 : decode cX2_fillFrom 90 = .ok (.goto (-52), 3) := by decide +kernel
theorem dX2_fillFrom_93 : decode cX2_fillFrom 93 = .ok (.iinc 2 1, 3) := by decide +kernel
theorem dX2_fillFrom_96 : decode cX2_fillFrom 96 = .ok (.goto (-65), 3) := by decide +kernel
theorem dX2_fillFrom_99 : decode cX2_fillFrom 99 = .ok (.return_, 1) := by decide +kernel
theorem dX2_endOfChainFrom_0 : decode cX2_endOfChainFrom 0 = .ok (.iload_n 1, 1) := by decide +kernel
theorem dX2_endOfChainFrom_1 : decode cX2_endOfChainFrom 1 = .ok (.istore_n 2, 1) := by decide +kernel
theorem dX2_endOfChainFrom_2 : decode cX2_endOfChainFrom 2 = .ok (.iconst 4, 1) := by decide +kernel
theorem dX2_endOfChainFrom_3 : decode cX2_endOfChainFrom 3 = .ok (.istore_n 3, 1) := by decide +kernel
theorem dX2_endOfChainFrom_4 : decode cX2_endOfChainFrom 4 = .ok (.iload_n 3, 1) := by decide +kernel
theorem dX2_endOfChainFrom_5 : decode cX2_endOfChainFrom 5 = .ok (.ifCond .lt 28, 3) := by decide +kernel
theorem dX2_endOfChainFrom_8 : decode cX2_endOfChainFrom 8 = .ok (.aload_n 0, 1) := by decide +kernel
theorem dX2_endOfChainFrom_9 : decode cX2_endOfChainFrom 9 = .ok (.getfield 13, 3) := by decide +kernel
theorem dX2_endOfChainFrom_12 : decode cX2_endOfChainFrom 12 = .ok (.iload_n 3, 1) := by decide +kernel
theorem dX2_endOfChainFrom_13 : decode cX2_endOfChainFrom 13 = .ok (.aaload, 1) := by decide +kernel
theorem dX2_endOfChainFrom_14 : decode cX2_endOfChainFrom 14 = .ok (.iload_n 2, 1) := by decide +kernel
theorem dX2_endOfChainFrom_15 : decode cX2_endOfChainFrom 15 = .ok (.iaload, 1) := by decide +kernel
theorem dX2_endOfChainFrom_16 : decode cX2_endOfChainFrom 16 = .ok (.istore 4, 2) := by decide +kernel
theorem dX2_endOfChainFrom_18 : decode cX2_endOfChainFrom 18 = .ok (.iload 4, 2) := by decide +kernel
theorem dX2_endOfChainFrom_20 : decode cX2_endOfChainFrom 20 = .ok (.iconst (-1), 1) := by decide +kernel
theorem dX2_endOfChainFrom_21 : decode cX2_endOfChainFrom 21 = .ok (.if_icmp .eq 6, 3) := by decide +kernel
theorem dX2_endOfChainFrom_24 : decode cX2_endOfChainFrom 24 = .ok (.iload 4, 2) := by decide +kernel
theorem dX2_endOfChainFrom_26 : decode cX2_endOfChainFrom 26 = .ok (.istore_n 2, 1) := by decide +kernel
theorem dX2_endOfChainFrom_27 : decode cX2_endOfChainFrom 27 = .ok (.iinc 3 (-1), 3) := by decide +kernel
theorem dX2_endOfChainFrom_30 : decode cX2_endOfChainFrom 30 = .ok (.goto (-26), 3) := by decide +kernel
theorem dX2_endOfChainFrom_33 : decode cX2_endOfChainFrom 33 = .ok (.iload_n 2, 1) := by decide +kernel
theorem dX2_endOfChainFrom_34 : decode cX2_endOfChainFrom 34 = .ok (.ireturn, 1) := by decide +kernel
theorem dX3_init_0 : decode cX3_init 0 = .ok (.aload_n 0, 1) := by decide +kernel
theorem dX3_init_1 : decode cX3_init 1 = .ok (.invokespecial 3, 3) := by decide +kernel
theorem dX3_init_4 : decode cX3_init 4 = .ok (.aload_n 0, 1) := by decide +kernel
theorem dX3_init_5 : decode cX3_init 5 = .ok (.bipush 10, 2) := by decide +kernel
theorem dX3_init_7 : decode cX3_init 7 = .ok (.anewarray 11, 3) := by decide +kernel
theorem dX3_init_10 : decode cX3_init 10 = .ok (.putfield 13, 3) := by decide +kernel
theorem dX3_init_13 : decode cX3_init 13 = .ok (.iconst 0, 1) := by decide +kernel
theorem dX3_init_14 : decode cX3_init 14 = .ok (.istore_n 1, 1) := by decide +kernel
theorem dX3_init_15 : decode cX3_init 15 = .ok (.iload_n 1, 1) := by decide +kernel
theorem dX3_init_16 : decode cX3_init 16 = .ok (.bipush 10, 2) := by decide +kernel
theorem dX3_init_18 : decode cX3_init 18 = .ok (.if_icmp .ge 22, 3) := by decide +kernel
theorem dX3_init_21 : decode cX3_init 21 = .ok (.aload_n 0, 1) := by decide +kernel
theorem dX3_init_22 : decode cX3_init 22 = .ok (.getfield 13, 3) := by decide +kernel
theorem dX3_init_25 : decode cX3_init 25 = .ok (.iload_n 1, 1) := by decide +kernel
theorem dX3_init_26 : decode cX3_init 26 = .ok (.new 11, 3) := by decide +kernel
theorem dX3_init_29 : decode cX3_init 29 = .ok (.dup, 1) := by decide +kernel
theorem dX3_init_30 : decode cX3_init 30 = .ok (.invokespecial 17, 3) := by decide +kernel
theorem dX3_init_33 : decode cX3_init 33 = .ok (.aastore, 1) := by decide +kernel
theorem dX3_init_34 : decode cX3_init 34 = .ok (.iinc 1 1, 3) := by decide +kernel
theorem dX3_init_37 : decode cX3_init 37 = .ok (.goto (-22), 3) := by decide +kernel
theorem dX3_init_40 : decode cX3_init 40 = .ok (.return_, 1) := by decide +kernel
theorem dX3_present_0 : decode cX3_present 0 = .ok (.aload_n 0, 1) := by decide +kernel
theorem dX3_present_1 : decode cX3_present 1 = .ok (.getfield 13, 3) := by decide +kernel
theorem dX3_present_4 : decode cX3_present 4 = .ok (.aload_n 0, 1) := by decide +kernel
theorem dX3_present_5 : decode cX3_present 5 = .ok (.getfield 18, 3) := by decide +kernel
theorem dX3_present_8 : decode cX3_present 8 = .ok (.aaload, 1) := by decide +kernel
theorem dX3_present_9 : decode cX3_present 9 = .ok (.areturn, 1) := by decide +kernel
theorem dX3_draft_0 : decode cX3_draft 0 = .ok (.aload_n 0, 1) := by decide +kernel
theorem dX3_draft_1 : decode cX3_draft 1 = .ok (.getfield 13, 3) := by decide +kernel
theorem dX3_draft_4 : decode cX3_draft 4 = .ok (.aload_n 0, 1) := by decide +kernel
theorem dX3_draft_5 : decode cX3_draft 5 = .ok (.getfield 18, 3) := by decide +kernel
theorem dX3_draft_8 : decode cX3_draft 8 = .ok (.invokestatic 22, 3) := by decide +kernel
theorem dX3_draft_11 : decode cX3_draft 11 = .ok (.aaload, 1) := by decide +kernel
theorem dX3_draft_12 : decode cX3_draft 12 = .ok (.astore_n 1, 1) := by decide +kernel
theorem dX3_draft_13 : decode cX3_draft 13 = .ok (.aload_n 1, 1) := by decide +kernel
theorem dX3_draft_14 : decode cX3_draft 14 = .ok (.aload_n 0, 1) := by decide +kernel
theorem dX3_draft_15 : decode cX3_draft 15 = .ok (.getfield 13, 3) := by decide +kernel
theorem dX3_draft_18 : decode cX3_draft 18 = .ok (.aload_n 0, 1) := by decide +kernel
theorem dX3_draft_19 : decode cX3_draft 19 = .ok (.getfield 18, 3) := by decide +kernel
theorem dX3_draft_22 : decode cX3_draft 22 = .ok (.aaload, 1) := by decide +kernel
theorem dX3_draft_23 : decode cX3_draft 23 = .ok (.invokevirtual 26, 3) := by decide +kernel
theorem dX3_draft_26 : decode cX3_draft 26 = .ok (.aload_n 1, 1) := by decide +kernel
theorem dX3_draft_27 : decode cX3_draft 27 = .ok (.areturn, 1) := by decide +kernel
theorem dX3_keepDraft_0 : decode cX3_keepDraft 0 = .ok (.aload_n 0, 1) := by decide +kernel
theorem dX3_keepDraft_1 : decode cX3_keepDraft 1 = .ok (.aload_n 0, 1) := by decide +kernel
theorem dX3_keepDraft_2 : decode cX3_keepDraft 2 = .ok (.getfield 18, 3) := by decide +kernel
theorem dX3_keepDraft_5 : decode cX3_keepDraft 5 = .ok (.invokestatic 22, 3) := by decide +kernel
theorem dX3_keepDraft_8 : decode cX3_keepDraft 8 = .ok (.putfield 18, 3) := by decide +kernel
theorem dX3_keepDraft_11 : decode cX3_keepDraft 11 = .ok (.aload_n 0, 1) := by decide +kernel
theorem dX3_keepDraft_12 : decode cX3_keepDraft 12 = .ok (.aload_n 0, 1) := by decide +kernel
theorem dX3_keepDraft_13 : decode cX3_keepDraft 13 = .ok (.getfield 30, 3) := by decide +kernel
theorem dX3_keepDraft_16 : decode cX3_keepDraft 16 = .ok (.iconst 1, 1) := by decide +kernel
theorem dX3_keepDraft_17 : decode cX3_keepDraft 17 = .ok (.iadd, 1) := by decide +kernel
theorem dX3_keepDraft_18 : decode cX3_keepDraft 18 = .ok (.bipush 8, 2) := by decide +kernel
theorem dX3_keepDraft_20 : decode cX3_keepDraft 20 = .ok (.invokestatic 33, 3) := by decide +kernel
theorem dX3_keepDraft_23 : decode cX3_keepDraft 23 = .ok (.putfield 30, 3) := by decide +kernel
theorem dX3_keepDraft_26 : decode cX3_keepDraft 26 = .ok (.return_, 1) := by decide +kernel
theorem dX3_stepBack_0 : decode cX3_stepBack 0 = .ok (.aload_n 0, 1) := by decide +kernel
theorem dX3_stepBack_1 : decode cX3_stepBack 1 = .ok (.aload_n 0, 1) := by decide +kernel
theorem dX3_stepBack_2 : decode cX3_stepBack 2 = .ok (.getfield 18, 3) := by decide +kernel
theorem dX3_stepBack_5 : decode cX3_stepBack 5 = .ok (.ifCond .ne 8, 3) := by decide +kernel
theorem dX3_stepBack_8 : decode cX3_stepBack 8 = .ok (.bipush 9, 2) := by decide +kernel
theorem dX3_stepBack_10 : decode cX3_stepBack 10 = .ok (.goto 9, 3) := by decide +kernel
theorem dX3_stepBack_13 : decode cX3_stepBack 13 = .ok (.aload_n 0, 1) := by decide +kernel
theorem dX3_stepBack_14 : decode cX3_stepBack 14 = .ok (.getfield 18, 3) := by decide +kernel
theorem dX3_stepBack_17 : decode cX3_stepBack 17 = .ok (.iconst 1, 1) := by decide +kernel
theorem dX3_stepBack_18 : decode cX3_stepBack 18 = .ok (.isub, 1) := by decide +kernel
theorem dX3_stepBack_19 : decode cX3_stepBack 19 = .ok (.putfield 18, 3) := by decide +kernel
theorem dX3_stepBack_22 : decode cX3_stepBack 22 = .ok (.aload_n 0, 1) := by decide +kernel
theorem dX3_stepBack_23 : decode cX3_stepBack 23 = .ok (.dup, 1) := by decide +kernel
theorem dX3_stepBack_24 : decode cX3_stepBack 24 = .ok (.getfield 30, 3) := by decide +kernel
theorem dX3_stepBack_27 : decode cX3_stepBack 27 = .ok (.iconst 1, 1) := by decide +kernel
theorem dX3_stepBack_28 : decode cX3_stepBack 28 = .ok (.isub, 1) := by decide +kernel
theorem dX3_stepBack_29 : decode cX3_stepBack 29 = .ok (.putfield 30, 3) := by decide +kernel
theorem dX3_stepBack_32 : decode cX3_stepBack 32 = .ok (.return_, 1) := by decide +kernel
theorem dX3_startAgainFrom_0 : decode cX3_startAgainFrom 0 = .ok (.aload_n 0, 1) := by decide +kernel
theorem dX3_startAgainFrom_1 : decode cX3_startAgainFrom 1 = .ok (.getfield 13, 3) := by decide +kernel
theorem dX3_startAgainFrom_4 : decode cX3_startAgainFrom 4 = .ok (.aload_n 0, 1) := by decide +kernel
theorem dX3_startAgainFrom_5 : decode cX3_startAgainFrom 5 = .ok (.getfield 18, 3) := by decide +kernel
theorem dX3_startAgainFrom_8 : decode cX3_startAgainFrom 8 = .ok (.aaload, 1) := by decide +kernel
theorem dX3_startAgainFrom_9 : decode cX3_startAgainFrom 9 = .ok (.aload_n 1, 1) := by decide +kernel
theorem dX3_startAgainFrom_10 : decode cX3_startAgainFrom 10 = .ok (.invokevirtual 26, 3) := by decide +kernel
theorem dX3_startAgainFrom_13 : decode cX3_startAgainFrom 13 = .ok (.aload_n 0, 1) := by decide +kernel
theorem dX3_startAgainFrom_14 : decode cX3_startAgainFrom 14 = .ok (.iconst 0, 1) := by decide +kernel
theorem dX3_startAgainFrom_15 : decode cX3_startAgainFrom 15 = .ok (.putfield 30, 3) := by decide +kernel
theorem dX3_startAgainFrom_18 : decode cX3_startAgainFrom 18 = .ok (.return_, 1) := by decide +kernel
theorem dX3_placeAfter_0 : decode cX3_placeAfter 0 = .ok (.iload_n 0, 1) := by decide +kernel
theorem dX3_placeAfter_1 : decode cX3_placeAfter 1 = .ok (.iconst 1, 1) := by decide +kernel
theorem dX3_placeAfter_2 : decode cX3_placeAfter 2 = .ok (.iadd, 1) := by decide +kernel
theorem dX3_placeAfter_3 : decode cX3_placeAfter 3 = .ok (.bipush 10, 2) := by decide +kernel
theorem dX3_placeAfter_5 : decode cX3_placeAfter 5 = .ok (.if_icmp .ge 9, 3) := by decide +kernel
theorem dX3_placeAfter_8 : decode cX3_placeAfter 8 = .ok (.iload_n 0, 1) := by decide +kernel
theorem dX3_placeAfter_9 : decode cX3_placeAfter 9 = .ok (.iconst 1, 1) := by decide +kernel
theorem dX3_placeAfter_10 : decode cX3_placeAfter 10 = .ok (.iadd, 1) := by decide +kernel
theorem dX3_placeAfter_11 : decode cX3_placeAfter 11 = .ok (.goto 4, 3) := by decide +kernel
theorem dX3_placeAfter_14 : decode cX3_placeAfter 14 = .ok (.iconst 0, 1) := by decide +kernel
theorem dX3_placeAfter_15 : decode cX3_placeAfter 15 = .ok (.ireturn, 1) := by decide +kernel
theorem dX4_init_0 : decode cX4_init 0 = .ok (.aload_n 0, 1) := by decide +kernel
theorem dX4_init_1 : decode cX4_init 1 = .ok (.invokespecial 3, 3) := by decide +kernel
theorem dX4_init_4 : decode cX4_init 4 = .ok (.aload_n 0, 1) := by decide +kernel
theorem dX4_init_5 : decode cX4_init 5 = .ok (.bipush 10, 2) := by decide +kernel
theorem dX4_init_7 : decode cX4_init 7 = .ok (.newarray .int, 2) := by decide +kernel
theorem dX4_init_9 : decode cX4_init 9 = .ok (.putfield 11, 3) := by decide +kernel
theorem dX4_init_12 : decode cX4_init 12 = .ok (.aload_n 0, 1) := by decide +kernel
theorem dX4_init_13 : decode cX4_init 13 = .ok (.bipush 10, 2) := by decide +kernel
theorem dX4_init_15 : decode cX4_init 15 = .ok (.newarray .int, 2) := by decide +kernel
theorem dX4_init_17 : decode cX4_init 17 = .ok (.putfield 15, 3) := by decide +kernel
theorem dX4_init_20 : decode cX4_init 20 = .ok (.aload_n 0, 1) := by decide +kernel
theorem dX4_init_21 : decode cX4_init 21 = .ok (.bipush 10, 2) := by decide +kernel
theorem dX4_init_23 : decode cX4_init 23 = .ok (.newarray .int, 2) := by decide +kernel
theorem dX4_init_25 : decode cX4_init 25 = .ok (.putfield 18, 3) := by decide +kernel
theorem dX4_init_28 : decode cX4_init 28 = .ok (.return_, 1) := by decide +kernel
theorem dX4_parse_0 : decode cX4_parse 0 = .ok (.aload_n 0, 1) := by decide +kernel
theorem dX4_parse_1 : decode cX4_parse 1 = .ok (.iconst 0, 1) := by decide +kernel
theorem dX4_parse_2 : decode cX4_parse 2 = .ok (.putfield 21, 3) := by decide +kernel
theorem dX4_parse_5 : decode cX4_parse 5 = .ok (.aload_n 0, 1) := by decide +kernel
theorem dX4_parse_6 : decode cX4_parse 6 = .ok (.iconst 0, 1) := by decide +kernel
theorem dX4_parse_7 : decode cX4_parse 7 = .ok (.putfield 25, 3) := by decide +kernel
theorem dX4_parse_10 : decode cX4_parse 10 = .ok (.aload_n 0, 1) := by decide +kernel
theorem dX4_parse_11 : decode cX4_parse 11 = .ok (.aload_n 1, 1) := by decide +kernel
theorem dX4_parse_12 : decode cX4_parse 12 = .ok (.invokevirtual 28, 3) := by decide +kernel
theorem dX4_parse_15 : decode cX4_parse 15 = .ok (.istore_n 2, 1) := by decide +kernel
theorem dX4_parse_16 : decode cX4_parse 16 = .ok (.iconst 0, 1) := by decide +kernel
theorem dX4_parse_17 : decode cX4_parse 17 = .ok (.istore_n 3, 1) := by decide +kernel
theorem dX4_parse_18 : decode cX4_parse 18 = .ok (.iload_n 3, 1) := by decide +kernel
theorem dX4_parse_19 : decode cX4_parse 19 = .ok (.bipush 60, 2) := by decide +kernel
theorem dX4_parse_21 : decode cX4_parse 21 = .ok (.if_icmp .ge 48, 3) := by decide +kernel
theorem dX4_parse_24 : decode cX4_parse 24 = .ok (.iload_n 2, 1) := by decide +kernel
theorem dX4_parse_25 : decode cX4_parse 25 = .ok (.ifCond .eq 44, 3) := by decide +kernel
theorem dX4_parse_28 : decode cX4_parse 28 = .ok (.aload_n 0, 1) := by decide +kernel
theorem dX4_parse_29 : decode cX4_parse 29 = .ok (.getfield 25, 3) := by decide +kernel
theorem dX4_parse_32 : decode cX4_parse 32 = .ok (.aload_n 1, 1) := by decide +kernel
theorem dX4_parse_33 : decode cX4_parse 33 = .ok (.invokevirtual 32, 3) := by decide +kernel
theorem dX4_parse_36 : decode cX4_parse 36 = .ok (.if_icmp .ge 33, 3) := by decide +kernel
theorem dX4_parse_39 : decode cX4_parse 39 = .ok (.aload_n 0, 1) := by decide +kernel
theorem dX4_parse_40 : decode cX4_parse 40 = .ok (.aload_n 1, 1) := by decide +kernel
theorem dX4_parse_41 : decode cX4_parse 41 = .ok (.bipush 59, 2) := by decide +kernel
theorem dX4_parse_43 : decode cX4_parse 43 = .ok (.invokevirtual 38, 3) := by decide +kernel
theorem dX4_parse_46 : decode cX4_parse 46 = .ok (.ifCond .eq 15, 3) := by decide +kernel
theorem dX4_parse_49 : decode cX4_parse 49 = .ok (.aload_n 0, 1) := by decide +kernel
theorem dX4_parse_50 : decode cX4_parse 50 = .ok (.aload_n 1, 1) := by decide +kernel
theorem dX4_parse_51 : decode cX4_parse 51 = .ok (.invokevirtual 28, 3) := by decide +kernel
theorem dX4_parse_54 : decode cX4_parse 54 = .ok (.ifCond .eq 7, 3) := by decide +kernel
theorem dX4_parse_57 : decode cX4_parse 57 = .ok (.iconst 1, 1) := by decide +kernel
theorem dX4_parse_58 : decode cX4_parse 58 = .ok (.goto 4, 3) := by decide +kernel
theorem dX4_parse_61 : decode cX4_parse 61 = .ok (.iconst 0, 1) := by decide +kernel
theorem dX4_parse_62 : decode cX4_parse 62 = .ok (.istore_n 2, 1) := by decide +kernel
theorem dX4_parse_63 : decode cX4_parse 63 = .ok (.iinc 3 1, 3) := by decide +kernel
theorem dX4_parse_66 : decode cX4_parse 66 = .ok (.goto (-48), 3) := by decide +kernel
theorem dX4_parse_69 : decode cX4_parse 69 = .ok (.iload_n 2, 1) := by decide +kernel
theorem dX4_parse_70 : decode cX4_parse 70 = .ok (.ifCond .eq 7, 3) := by decide +kernel
theorem dX4_parse_73 : decode cX4_parse 73 = .ok (.iconst (-1), 1) := by decide +kernel
theorem dX4_parse_74 : decode cX4_parse 74 = .ok (.goto 7, 3) := by decide +kernel
theorem dX4_parse_77 : decode cX4_parse 77 = .ok (.aload_n 0, 1) := by decide +kernel
theorem dX4_parse_78 : decode cX4_parse 78 = .ok (.getfield 25, 3) := by decide +kernel
theorem dX4_parse_81 : decode cX4_parse 81 = .ok (.ireturn, 1) := by decide +kernel
theorem dX4_carryOut_0 : decode cX4_carryOut 0 = .ok (.iconst 0, 1) := by decide +kernel
theorem dX4_carryOut_1 : decode cX4_carryOut 1 = .ok (.istore_n 2, 1) := by decide +kernel
theorem dX4_carryOut_2 : decode cX4_carryOut 2 = .ok (.iload_n 2, 1) := by decide +kernel
theorem dX4_carryOut_3 : decode cX4_carryOut 3 = .ok (.aload_n 0, 1) := by decide +kernel
theorem dX4_carryOut_4 : decode cX4_carryOut 4 = .ok (.getfield 21, 3) := by decide +kernel
theorem dX4_carryOut_7 : decode cX4_carryOut 7 = .ok (.if_icmp .ge 56, 3) := by decide +kernel
theorem dX4_carryOut_10 : decode cX4_carryOut 10 = .ok (.aload_n 0, 1) := by decide +kernel
theorem dX4_carryOut_11 : decode cX4_carryOut 11 = .ok (.getfield 11, 3) := by decide +kernel
theorem dX4_carryOut_14 : decode cX4_carryOut 14 = .ok (.iload_n 2, 1) := by decide +kernel
theorem dX4_carryOut_15 : decode cX4_carryOut 15 = .ok (.iaload, 1) := by decide +kernel
theorem dX4_carryOut_16 : decode cX4_carryOut 16 = .ok (.istore_n 3, 1) := by decide +kernel
theorem dX4_carryOut_17 : decode cX4_carryOut 17 = .ok (.aload_n 0, 1) := by decide +kernel
theorem dX4_carryOut_18 : decode cX4_carryOut 18 = .ok (.getfield 15, 3) := by decide +kernel
theorem dX4_carryOut_21 : decode cX4_carryOut 21 = .ok (.iload_n 2, 1) := by decide +kernel
theorem dX4_carryOut_22 : decode cX4_carryOut 22 = .ok (.iaload, 1) := by decide +kernel
theorem dX4_carryOut_23 : decode cX4_carryOut 23 = .ok (.istore 4, 2) := by decide +kernel
theorem dX4_carryOut_25 : decode cX4_carryOut 25 = .ok (.aload_n 0, 1) := by decide +kernel
theorem dX4_carryOut_26 : decode cX4_carryOut 26 = .ok (.getfield 18, 3) := by decide +kernel
theorem dX4_carryOut_29 : decode cX4_carryOut 29 = .ok (.iload_n 2, 1) := by decide +kernel
theorem dX4_carryOut_30 : decode cX4_carryOut 30 = .ok (.iaload, 1) := by decide +kernel
theorem dX4_carryOut_31 : decode cX4_carryOut 31 = .ok (.istore 5, 2) := by decide +kernel
theorem dX4_carryOut_33 : decode cX4_carryOut 33 = .ok (.aload_n 1, 1) := by decide +kernel
theorem dX4_carryOut_34 : decode cX4_carryOut 34 = .ok (.iload_n 3, 1) := by decide +kernel
theorem dX4_carryOut_35 : decode cX4_carryOut 35 = .ok (.iload 4, 2) := by decide +kernel
theorem dX4_carryOut_37 : decode cX4_carryOut 37 = .ok (.iload 5, 2) := by decide +kernel
theorem dX4_carryOut_39 : decode cX4_carryOut 39 = .ok (.invokestatic 42, 3) := by decide +kernel
theorem dX4_carryOut_42 : decode cX4_carryOut 42 = .ok (.ifCond .eq 5, 3) := by decide +kernel
theorem dX4_carryOut_45 : decode cX4_carryOut 45 = .ok (.iload_n 2, 1) := by decide +kernel
theorem dX4_carryOut_46 : decode cX4_carryOut 46 = .ok (.ireturn, 1) := by decide +kernel
theorem dX4_carryOut_47 : decode cX4_carryOut 47 = .ok (.aload_n 1, 1) := by decide +kernel
theorem dX4_carryOut_48 : decode cX4_carryOut 48 = .ok (.iload_n 3, 1) := by decide +kernel
theorem dX4_carryOut_49 : decode cX4_carryOut 49 = .ok (.iload 4, 2) := by decide +kernel
theorem dX4_carryOut_51 : decode cX4_carryOut 51 = .ok (.iload 5, 2) := by decide +kernel
theorem dX4_carryOut_53 : decode cX4_carryOut 53 = .ok (.invokestatic 48, 3) := by decide +kernel
theorem dX4_carryOut_56 : decode cX4_carryOut 56 = .ok (.pop, 1) := by decide +kernel
theorem dX4_carryOut_57 : decode cX4_carryOut 57 = .ok (.iinc 2 1, 3) := by decide +kernel
theorem dX4_carryOut_60 : decode cX4_carryOut 60 = .ok (.goto (-58), 3) := by decide +kernel
theorem dX4_carryOut_63 : decode cX4_carryOut 63 = .ok (.iconst (-1), 1) := by decide +kernel
theorem dX4_carryOut_64 : decode cX4_carryOut 64 = .ok (.ireturn, 1) := by decide +kernel
theorem dX4_readCommand_0 : decode cX4_readCommand 0 = .ok (.aload_n 0, 1) := by decide +kernel
theorem dX4_readCommand_1 : decode cX4_readCommand 1 = .ok (.aload_n 1, 1) := by decide +kernel
theorem dX4_readCommand_2 : decode cX4_readCommand 2 = .ok (.invokevirtual 53, 3) := by decide +kernel
theorem dX4_readCommand_5 : decode cX4_readCommand 5 = .ok (.istore_n 2, 1) := by decide +kernel
theorem dX4_readCommand_6 : decode cX4_readCommand 6 = .ok (.iload_n 2, 1) := by decide +kernel
theorem dX4_readCommand_7 : decode cX4_readCommand 7 = .ok (.iconst (-1), 1) := by decide +kernel
theorem dX4_readCommand_8 : decode cX4_readCommand 8 = .ok (.if_icmp .eq 12, 3) := by decide +kernel
theorem dX4_readCommand_11 : decode cX4_readCommand 11 = .ok (.aload_n 0, 1) := by decide +kernel
theorem dX4_readCommand_12 : decode cX4_readCommand 12 = .ok (.getfield 21, 3) := by decide +kernel
theorem dX4_readCommand_15 : decode cX4_readCommand 15 = .ok (.bipush 10, 2) := by decide +kernel
theorem dX4_readCommand_17 : decode cX4_readCommand 17 = .ok (.if_icmp .lt 5, 3) := by decide +kernel
theorem dX4_readCommand_20 : decode cX4_readCommand 20 = .ok (.iconst 0, 1) := by decide +kernel
theorem dX4_readCommand_21 : decode cX4_readCommand 21 = .ok (.ireturn, 1) := by decide +kernel
theorem dX4_readCommand_22 : decode cX4_readCommand 22 = .ok (.iload_n 2, 1) := by decide +kernel
theorem dX4_readCommand_23 : decode cX4_readCommand 23 = .ok (.invokestatic 57, 3) := by decide +kernel
theorem dX4_readCommand_26 : decode cX4_readCommand 26 = .ok (.astore_n 3, 1) := by decide +kernel
theorem dX4_readCommand_27 : decode cX4_readCommand 27 = .ok (.aload_n 0, 1) := by decide +kernel
theorem dX4_readCommand_28 : decode cX4_readCommand 28 = .ok (.getfield 11, 3) := by decide +kernel
theorem dX4_readCommand_31 : decode cX4_readCommand 31 = .ok (.aload_n 0, 1) := by decide +kernel
theorem dX4_readCommand_32 : decode cX4_readCommand 32 = .ok (.getfield 21, 3) := by decide +kernel
theorem dX4_readCommand_35 : decode cX4_readCommand 35 = .ok (.iload_n 2, 1) := by decide +kernel
theorem dX4_readCommand_36 : decode cX4_readCommand 36 = .ok (.iastore, 1) := by decide +kernel
theorem dX4_readCommand_37 : decode cX4_readCommand 37 = .ok (.aload_n 0, 1) := by decide +kernel
theorem dX4_readCommand_38 : decode cX4_readCommand 38 = .ok (.getfield 18, 3) := by decide +kernel
theorem dX4_readCommand_41 : decode cX4_readCommand 41 = .ok (.aload_n 0, 1) := by decide +kernel
theorem dX4_readCommand_42 : decode cX4_readCommand 42 = .ok (.getfield 21, 3) := by decide +kernel
theorem dX4_readCommand_45 : decode cX4_readCommand 45 = .ok (.iconst 0, 1) := by decide +kernel
theorem dX4_readCommand_46 : decode cX4_readCommand 46 = .ok (.iastore, 1) := by decide +kernel
theorem dX4_readCommand_47 : decode cX4_readCommand 47 = .ok (.iconst 0, 1) := by decide +kernel
theorem dX4_readCommand_48 : decode cX4_readCommand 48 = .ok (.istore 4, 2) := by decide +kernel
theorem dX4_readCommand_50 : decode cX4_readCommand 50 = .ok (.iload 4, 2) := by decide +kernel
theorem dX4_readCommand_52 : decode cX4_readCommand 52 = .ok (.aload_n 3, 1) := by decide +kernel
theorem dX4_readCommand_53 : decode cX4_readCommand 53 = .ok (.invokevirtual 61, 3) := by decide +kernel
theorem dX4_readCommand_56 : decode cX4_readCommand 56 = .ok (.if_icmp .ge 77, 3) := by decide +kernel
theorem dX4_readCommand_59 : decode cX4_readCommand 59 = .ok (.iload 4, 2) := by decide +kernel
theorem dX4_readCommand_61 : decode cX4_readCommand 61 = .ok (.ifCond .le 15, 3) := by decide +kernel
theorem dX4_readCommand_64 : decode cX4_readCommand 64 = .ok (.aload_n 0, 1) := by decide +kernel
theorem dX4_readCommand_65 : decode cX4_readCommand 65 = .ok (.aload_n 1, 1) := by decide +kernel
theorem dX4_readCommand_66 : decode cX4_readCommand 66 = .ok (.bipush 32, 2) := by decide +kernel
theorem dX4_readCommand_68 : decode cX4_readCommand 68 = .ok (.invokevirtual 38, 3) := by decide +kernel
theorem dX4_readCommand_71 : decode cX4_readCommand 71 = .ok (.ifCond .ne 5, 3) := by decide +kernel
theorem dX4_readCommand_74 : decode cX4_readCommand 74 = .ok (.iconst 0, 1) := by decide +kernel
theorem dX4_readCommand_75 : decode cX4_readCommand 75 = .ok (.ireturn, 1) := by decide +kernel
theorem dX4_readCommand_76 : decode cX4_readCommand 76 = .ok (.aload_n 0, 1) := by decide +kernel
theorem dX4_readCommand_77 : decode cX4_readCommand 77 = .ok (.aload_n 1, 1) := by decide +kernel
theorem dX4_readCommand_78 : decode cX4_readCommand 78 = .ok (.aload_n 3, 1) := by decide +kernel
theorem dX4_readCommand_79 : decode cX4_readCommand 79 = .ok (.iload 4, 2) := by decide +kernel
theorem dX4_readCommand_81 : decode cX4_readCommand 81 = .ok (.invokevirtual 64, 3) := by decide +kernel
theorem dX4_readCommand_84 : decode cX4_readCommand 84 = .ok (.invokevirtual 68, 3) := by decide +kernel
theorem dX4_readCommand_87 : decode cX4_readCommand 87 = .ok (.istore 5, 2) := by decide +kernel
theorem dX4_readCommand_89 : decode cX4_readCommand 89 = .ok (.iload 5, 2) := by decide +kernel
theorem dX4_readCommand_91 : decode cX4_readCommand 91 = .ok (.iconst (-1), 1) := by decide +kernel
theorem dX4_readCommand_92 : decode cX4_readCommand 92 = .ok (.if_icmp .ne 5, 3) := by decide +kernel
theorem dX4_readCommand_95 : decode cX4_readCommand 95 = .ok (.iconst 0, 1) := by decide +kernel
theorem dX4_readCommand_96 : decode cX4_readCommand 96 = .ok (.ireturn, 1) := by decide +kernel
theorem dX4_readCommand_97 : decode cX4_readCommand 97 = .ok (.iload 4, 2) := by decide +kernel
theorem dX4_readCommand_99 : decode cX4_readCommand 99 = .ok (.ifCond .ne 17, 3) := by decide +kernel
theorem dX4_readCommand_102 : decode cX4_readCommand 102 = .ok (.aload_n 0, 1) := by decide +kernel
theorem dX4_readCommand_103 : decode cX4_readCommand 103 = .ok (.getfield 15, 3) := by decide +kernel
theorem dX4_readCommand_106 : decode cX4_readCommand 106 = .ok (.aload_n 0, 1) := by decide +kernel
theorem dX4_readCommand_107 : decode cX4_readCommand 107 = .ok (.getfield 21, 3) := by decide +kernel
theorem dX4_readCommand_110 : decode cX4_readCommand 110 = .ok (.iload 5, 2) := by decide +kernel
theorem dX4_readCommand_112 : decode cX4_readCommand 112 = .ok (.iastore, 1) := by decide +kernel
theorem dX4_readCommand_113 : decode cX4_readCommand 113 = .ok (.goto 14, 3) := by decide +kernel
theorem dX4_readCommand_116 : decode cX4_readCommand 116 = .ok (.aload_n 0, 1) := by decide +kernel
theorem dX4_readCommand_117 : decode cX4_readCommand 117 = .ok (.getfield 18, 3) := by decide +kernel
theorem dX4_readCommand_120 : decode cX4_readCommand 120 = .ok (.aload_n 0, 1) := by decide +kernel
theorem dX4_readCommand_121 : decode cX4_readCommand 121 = .ok (.getfield 21, 3) := by decide +kernel
theorem dX4_readCommand_124 : decode cX4_readCommand 124 = .ok (.iload 5, 2) := by decide +kernel
theorem dX4_readCommand_126 : decode cX4_readCommand 126 = .ok (.iastore, 1) := by decide +kernel
theorem dX4_readCommand_127 : decode cX4_readCommand 127 = .ok (.iinc 4 1, 3) := by decide +kernel
theorem dX4_readCommand_130 : decode cX4_readCommand 130 = .ok (.goto (-80), 3) := by decide +kernel
theorem dX4_readCommand_133 : decode cX4_readCommand 133 = .ok (.aload_n 0, 1) := by decide +kernel
theorem dX4_readCommand_134 : decode cX4_readCommand 134 = .ok (.dup, 1) := by decide +kernel
theorem dX4_readCommand_135 : decode cX4_readCommand 135 = .ok (.getfield 21, 3) := by decide +kernel
theorem dX4_readCommand_138 : decode cX4_readCommand 138 = .ok (.iconst 1, 1) := by decide +kernel
theorem dX4_readCommand_139 : decode cX4_readCommand 139 = .ok (.iadd, 1) := by decide +kernel
theorem dX4_readCommand_140 : decode cX4_readCommand 140 = .ok (.putfield 21, 3) := by decide +kernel
theorem dX4_readCommand_143 : decode cX4_readCommand 143 = .ok (.iconst 1, 1) := by decide +kernel
theorem dX4_readCommand_144 : decode cX4_readCommand 144 = .ok (.ireturn, 1) := by decide +kernel
theorem dX4_readKeyword_0 : decode cX4_readKeyword 0 = .ok (.iconst 0, 1) := by decide +kernel
theorem dX4_readKeyword_1 : decode cX4_readKeyword 1 = .ok (.istore_n 2, 1) := by decide +kernel
theorem dX4_readKeyword_2 : decode cX4_readKeyword 2 = .ok (.iconst 0, 1) := by decide +kernel
theorem dX4_readKeyword_3 : decode cX4_readKeyword 3 = .ok (.istore_n 3, 1) := by decide +kernel
theorem dX4_readKeyword_4 : decode cX4_readKeyword 4 = .ok (.iload_n 3, 1) := by decide +kernel
theorem dX4_readKeyword_5 : decode cX4_readKeyword 5 = .ok (.bipush 12, 2) := by decide +kernel
theorem dX4_readKeyword_7 : decode cX4_readKeyword 7 = .ok (.if_icmp .ge 54, 3) := by decide +kernel
theorem dX4_readKeyword_10 : decode cX4_readKeyword 10 = .ok (.iload_n 3, 1) := by decide +kernel
theorem dX4_readKeyword_11 : decode cX4_readKeyword 11 = .ok (.invokestatic 72, 3) := by decide +kernel
theorem dX4_readKeyword_14 : decode cX4_readKeyword 14 = .ok (.astore 4, 2) := by decide +kernel
theorem dX4_readKeyword_16 : decode cX4_readKeyword 16 = .ok (.aload_n 0, 1) := by decide +kernel
theorem dX4_readKeyword_17 : decode cX4_readKeyword 17 = .ok (.aload_n 1, 1) := by decide +kernel
theorem dX4_readKeyword_18 : decode cX4_readKeyword 18 = .ok (.aload 4, 2) := by decide +kernel
theorem dX4_readKeyword_20 : decode cX4_readKeyword 20 = .ok (.invokevirtual 75, 3) := by decide +kernel
theorem dX4_readKeyword_23 : decode cX4_readKeyword 23 = .ok (.istore 5, 2) := by decide +kernel
theorem dX4_readKeyword_25 : decode cX4_readKeyword 25 = .ok (.iload 5, 2) := by decide +kernel
theorem dX4_readKeyword_27 : decode cX4_readKeyword 27 = .ok (.aload 4, 2) := by decide +kernel
theorem dX4_readKeyword_29 : decode cX4_readKeyword 29 = .ok (.invokevirtual 61, 3) := by decide +kernel
theorem dX4_readKeyword_32 : decode cX4_readKeyword 32 = .ok (.if_icmp .ne 16, 3) := by decide +kernel
theorem dX4_readKeyword_35 : decode cX4_readKeyword 35 = .ok (.aload_n 0, 1) := by decide +kernel
theorem dX4_readKeyword_36 : decode cX4_readKeyword 36 = .ok (.dup, 1) := by decide +kernel
theorem dX4_readKeyword_37 : decode cX4_readKeyword 37 = .ok (.getfield 25, 3) := by decide +kernel
theorem dX4_readKeyword_40 : decode cX4_readKeyword 40 = .ok (.iload 5, 2) := by decide +kernel
theorem dX4_readKeyword_42 : decode cX4_readKeyword 42 = .ok (.iadd, 1) := by decide +kernel
theorem dX4_readKeyword_43 : decode cX4_readKeyword 43 = .ok (.putfield 25, 3) := by decide +kernel
theorem dX4_readKeyword_46 : decode cX4_readKeyword 46 = .ok (.iload_n 3, 1) := by decide +kernel
theorem dX4_readKeyword_47 : decode cX4_readKeyword 47 = .ok (.ireturn, 1) := by decide +kernel
theorem dX4_readKeyword_48 : decode cX4_readKeyword 48 = .ok (.iload_n 2, 1) := by decide +kernel
theorem dX4_readKeyword_49 : decode cX4_readKeyword 49 = .ok (.iload 5, 2) := by decide +kernel
theorem dX4_readKeyword_51 : decode cX4_readKeyword 51 = .ok (.invokestatic 79, 3) := by decide +kernel
theorem dX4_readKeyword_54 : decode cX4_readKeyword 54 = .ok (.istore_n 2, 1) := by decide +kernel
theorem dX4_readKeyword_55 : decode cX4_readKeyword 55 = .ok (.iinc 3 1, 3) := by decide +kernel
theorem dX4_readKeyword_58 : decode cX4_readKeyword 58 = .ok (.goto (-54), 3) := by decide +kernel
theorem dX4_readKeyword_61 : decode cX4_readKeyword 61 = .ok (.aload_n 0, 1) := by decide +kernel
theorem dX4_readKeyword_62 : decode cX4_readKeyword 62 = .ok (.dup, 1) := by decide +kernel
theorem dX4_readKeyword_63 : decode cX4_readKeyword 63 = .ok (.getfield 25, 3) := by decide +kernel
theorem dX4_readKeyword_66 : decode cX4_readKeyword 66 = .ok (.iload_n 2, 1) := by decide +kernel
theorem dX4_readKeyword_67 : decode cX4_readKeyword 67 = .ok (.iadd, 1) := by decide +kernel
theorem dX4_readKeyword_68 : decode cX4_readKeyword 68 = .ok (.putfield 25, 3) := by decide +kernel
theorem dX4_readKeyword_71 : decode cX4_readKeyword 71 = .ok (.iconst (-1), 1) := by decide +kernel
theorem dX4_readKeyword_72 : decode cX4_readKeyword 72 = .ok (.ireturn, 1) := by decide +kernel
theorem dX4_matchedLetters_0 : decode cX4_matchedLetters 0 = .ok (.iconst 0, 1) := by decide +kernel
theorem dX4_matchedLetters_1 : decode cX4_matchedLetters 1 = .ok (.istore_n 3, 1) := by decide +kernel
theorem dX4_matchedLetters_2 : decode cX4_matchedLetters 2 = .ok (.iload_n 3, 1) := by decide +kernel
theorem dX4_matchedLetters_3 : decode cX4_matchedLetters 3 = .ok (.aload_n 2, 1) := by decide +kernel
theorem dX4_matchedLetters_4 : decode cX4_matchedLetters 4 = .ok (.invokevirtual 61, 3) := by decide +kernel
theorem dX4_matchedLetters_7 : decode cX4_matchedLetters 7 = .ok (.if_icmp .ge 40, 3) := by decide +kernel
theorem dX4_matchedLetters_10 : decode cX4_matchedLetters 10 = .ok (.aload_n 0, 1) := by decide +kernel
theorem dX4_matchedLetters_11 : decode cX4_matchedLetters 11 = .ok (.getfield 25, 3) := by decide +kernel
theorem dX4_matchedLetters_14 : decode cX4_matchedLetters 14 = .ok (.iload_n 3, 1) := by decide +kernel
theorem dX4_matchedLetters_15 : decode cX4_matchedLetters 15 = .ok (.iadd, 1) := by decide +kernel
theorem dX4_matchedLetters_16 : decode cX4_matchedLetters 16 = .ok (.aload_n 1, 1) := by decide +kernel
theorem dX4_matchedLetters_17 : decode cX4_matchedLetters 17 = .ok (.invokevirtual 32, 3) := by decide +kernel
theorem dX4_matchedLetters_20 : decode cX4_matchedLetters 20 = .ok (.if_icmp .ge 27, 3) := by decide +kernel
theorem dX4_matchedLetters_23 : decode cX4_matchedLetters 23 = .ok (.aload_n 1, 1) := by decide +kernel
theorem dX4_matchedLetters_24 : decode cX4_matchedLetters 24 = .ok (.aload_n 0, 1) := by decide +kernel
theorem dX4_matchedLetters_25 : decode cX4_matchedLetters 25 = .ok (.getfield 25, 3) := by decide +kernel
theorem dX4_matchedLetters_28 : decode cX4_matchedLetters 28 = .ok (.iload_n 3, 1) := by decide +kernel
theorem dX4_matchedLetters_29 : decode cX4_matchedLetters 29 = .ok (.iadd, 1) := by decide +kernel
theorem dX4_matchedLetters_30 : decode cX4_matchedLetters 30 = .ok (.invokevirtual 85, 3) := by decide +kernel
theorem dX4_matchedLetters_33 : decode cX4_matchedLetters 33 = .ok (.aload_n 2, 1) := by decide +kernel
theorem dX4_matchedLetters_34 : decode cX4_matchedLetters 34 = .ok (.iload_n 3, 1) := by decide +kernel
theorem dX4_matchedLetters_35 : decode cX4_matchedLetters 35 = .ok (.invokevirtual 64, 3) := by decide +kernel
theorem dX4_matchedLetters_38 : decode cX4_matchedLetters 38 = .ok (.if_icmp .ne 9, 3) := by decide +kernel
theorem dX4_matchedLetters_41 : decode cX4_matchedLetters 41 = .ok (.iinc 3 1, 3) := by decide +kernel
theorem dX4_matchedLetters_44 : decode cX4_matchedLetters 44 = .ok (.goto (-42), 3) := by decide +kernel
theorem dX4_matchedLetters_47 : decode cX4_matchedLetters 47 = .ok (.iload_n 3, 1) := by decide +kernel
theorem dX4_matchedLetters_48 : decode cX4_matchedLetters 48 = .ok (.ireturn, 1) := by decide +kernel
theorem dX4_readSign_0 : decode cX4_readSign 0 = .ok (.aload_n 0, 1) := by decide +kernel
theorem dX4_readSign_1 : decode cX4_readSign 1 = .ok (.getfield 25, 3) := by decide +kernel
theorem dX4_readSign_4 : decode cX4_readSign 4 = .ok (.aload_n 1, 1) := by decide +kernel
theorem dX4_readSign_5 : decode cX4_readSign 5 = .ok (.invokevirtual 32, 3) := by decide +kernel
theorem dX4_readSign_8 : decode cX4_readSign 8 = .ok (.if_icmp .ge 15, 3) := by decide +kernel
theorem dX4_readSign_11 : decode cX4_readSign 11 = .ok (.aload_n 1, 1) := by decide +kernel
theorem dX4_readSign_12 : decode cX4_readSign 12 = .ok (.aload_n 0, 1) := by decide +kernel
theorem dX4_readSign_13 : decode cX4_readSign 13 = .ok (.getfield 25, 3) := by decide +kernel
theorem dX4_readSign_16 : decode cX4_readSign 16 = .ok (.invokevirtual 85, 3) := by decide +kernel
theorem dX4_readSign_19 : decode cX4_readSign 19 = .ok (.iload_n 2, 1) := by decide +kernel
theorem dX4_readSign_20 : decode cX4_readSign 20 = .ok (.if_icmp .eq 5, 3) := by decide +kernel
theorem dX4_readSign_23 : decode cX4_readSign 23 = .ok (.iconst 0, 1) := by decide +kernel
theorem dX4_readSign_24 : decode cX4_readSign 24 = .ok (.ireturn, 1) := by decide +kernel
theorem dX4_readSign_25 : decode cX4_readSign 25 = .ok (.aload_n 0, 1) := by decide +kernel
theorem dX4_readSign_26 : decode cX4_readSign 26 = .ok (.dup, 1) := by decide +kernel
theorem dX4_readSign_27 : decode cX4_readSign 27 = .ok (.getfield 25, 3) := by decide +kernel
theorem dX4_readSign_30 : decode cX4_readSign 30 = .ok (.iconst 1, 1) := by decide +kernel
theorem dX4_readSign_31 : decode cX4_readSign 31 = .ok (.iadd, 1) := by decide +kernel
theorem dX4_readSign_32 : decode cX4_readSign 32 = .ok (.putfield 25, 3) := by decide +kernel
theorem dX4_readSign_35 : decode cX4_readSign 35 = .ok (.iconst 1, 1) := by decide +kernel
theorem dX4_readSign_36 : decode cX4_readSign 36 = .ok (.ireturn, 1) := by decide +kernel
theorem dX4_readArgument_0 : decode cX4_readArgument 0 = .ok (.iload_n 2, 1) := by decide +kernel
theorem dX4_readArgument_1 : decode cX4_readArgument 1 = .ok (.lookupswitch 41 #[(68, 34), (78, 27)], 27) := by decide +kernel
theorem dX4_readArgument_28 : decode cX4_readArgument 28 = .ok (.aload_n 0, 1) := by decide +kernel
theorem dX4_readArgument_29 : decode cX4_readArgument 29 = .ok (.aload_n 1, 1) := by decide +kernel
theorem dX4_readArgument_30 : decode cX4_readArgument 30 = .ok (.iconst 3, 1) := by decide +kernel
theorem dX4_readArgument_31 : decode cX4_readArgument 31 = .ok (.invokevirtual 86, 3) := by decide +kernel
theorem dX4_readArgument_34 : decode cX4_readArgument 34 = .ok (.ireturn, 1) := by decide +kernel
theorem dX4_readArgument_35 : decode cX4_readArgument 35 = .ok (.aload_n 0, 1) := by decide +kernel
theorem dX4_readArgument_36 : decode cX4_readArgument 36 = .ok (.aload_n 1, 1) := by decide +kernel
theorem dX4_readArgument_37 : decode cX4_readArgument 37 = .ok (.iconst 1, 1) := by decide +kernel
theorem dX4_readArgument_38 : decode cX4_readArgument 38 = .ok (.invokevirtual 86, 3) := by decide +kernel
theorem dX4_readArgument_41 : decode cX4_readArgument 41 = .ok (.ireturn, 1) := by decide +kernel
theorem dX4_readArgument_42 : decode cX4_readArgument 42 = .ok (.aload_n 0, 1) := by decide +kernel
theorem dX4_readArgument_43 : decode cX4_readArgument 43 = .ok (.aload_n 1, 1) := by decide +kernel
theorem dX4_readArgument_44 : decode cX4_readArgument 44 = .ok (.invokevirtual 90, 3) := by decide +kernel
theorem dX4_readArgument_47 : decode cX4_readArgument 47 = .ok (.ireturn, 1) := by decide +kernel
theorem dX4_readNumber_0 : decode cX4_readNumber 0 = .ok (.iconst 0, 1) := by decide +kernel
theorem dX4_readNumber_1 : decode cX4_readNumber 1 = .ok (.istore_n 3, 1) := by decide +kernel
theorem dX4_readNumber_2 : decode cX4_readNumber 2 = .ok (.iconst 0, 1) := by decide +kernel
theorem dX4_readNumber_3 : decode cX4_readNumber 3 = .ok (.istore 4, 2) := by decide +kernel
theorem dX4_readNumber_5 : decode cX4_readNumber 5 = .ok (.iload 4, 2) := by decide +kernel
theorem dX4_readNumber_7 : decode cX4_readNumber 7 = .ok (.iload_n 2, 1) := by decide +kernel
theorem dX4_readNumber_8 : decode cX4_readNumber 8 = .ok (.if_icmp .ge 61, 3) := by decide +kernel
theorem dX4_readNumber_11 : decode cX4_readNumber 11 = .ok (.aload_n 0, 1) := by decide +kernel
theorem dX4_readNumber_12 : decode cX4_readNumber 12 = .ok (.getfield 25, 3) := by decide +kernel
theorem dX4_readNumber_15 : decode cX4_readNumber 15 = .ok (.aload_n 1, 1) := by decide +kernel
theorem dX4_readNumber_16 : decode cX4_readNumber 16 = .ok (.invokevirtual 32, 3) := by decide +kernel
theorem dX4_readNumber_19 : decode cX4_readNumber 19 = .ok (.if_icmp .ge 50, 3) := by decide +kernel
theorem dX4_readNumber_22 : decode cX4_readNumber 22 = .ok (.aload_n 1, 1) := by decide +kernel
theorem dX4_readNumber_23 : decode cX4_readNumber 23 = .ok (.aload_n 0, 1) := by decide +kernel
theorem dX4_readNumber_24 : decode cX4_readNumber 24 = .ok (.getfield 25, 3) := by decide +kernel
theorem dX4_readNumber_27 : decode cX4_readNumber 27 = .ok (.invokevirtual 85, 3) := by decide +kernel
theorem dX4_readNumber_30 : decode cX4_readNumber 30 = .ok (.invokestatic 93, 3) := by decide +kernel
theorem dX4_readNumber_33 : decode cX4_readNumber 33 = .ok (.ifCond .eq 36, 3) := by decide +kernel
theorem dX4_readNumber_36 : decode cX4_readNumber 36 = .ok (.iload_n 3, 1) := by decide +kernel
theorem dX4_readNumber_37 : decode cX4_readNumber 37 = .ok (.bipush 10, 2) := by decide +kernel
theorem dX4_readNumber_39 : decode cX4_readNumber 39 = .ok (.imul, 1) := by decide +kernel
theorem dX4_readNumber_40 : decode cX4_readNumber 40 = .ok (.aload_n 1, 1) := by decide +kernel
theorem dX4_readNumber_41 : decode cX4_readNumber 41 = .ok (.aload_n 0, 1) := by decide +kernel
theorem dX4_readNumber_42 : decode cX4_readNumber 42 = .ok (.getfield 25, 3) := by decide +kernel
theorem dX4_readNumber_45 : decode cX4_readNumber 45 = .ok (.invokevirtual 85, 3) := by decide +kernel
theorem dX4_readNumber_48 : decode cX4_readNumber 48 = .ok (.iadd, 1) := by decide +kernel
theorem dX4_readNumber_49 : decode cX4_readNumber 49 = .ok (.bipush 48, 2) := by decide +kernel
theorem dX4_readNumber_51 : decode cX4_readNumber 51 = .ok (.isub, 1) := by decide +kernel
theorem dX4_readNumber_52 : decode cX4_readNumber 52 = .ok (.istore_n 3, 1) := by decide +kernel
theorem dX4_readNumber_53 : decode cX4_readNumber 53 = .ok (.iinc 4 1, 3) := by decide +kernel
theorem dX4_readNumber_56 : decode cX4_readNumber 56 = .ok (.aload_n 0, 1) := by decide +kernel
theorem dX4_readNumber_57 : decode cX4_readNumber 57 = .ok (.dup, 1) := by decide +kernel
theorem dX4_readNumber_58 : decode cX4_readNumber 58 = .ok (.getfield 25, 3) := by decide +kernel
theorem dX4_readNumber_61 : decode cX4_readNumber 61 = .ok (.iconst 1, 1) := by decide +kernel
theorem dX4_readNumber_62 : decode cX4_readNumber 62 = .ok (.iadd, 1) := by decide +kernel
theorem dX4_readNumber_63 : decode cX4_readNumber 63 = .ok (.putfield 25, 3) := by decide +kernel
theorem dX4_readNumber_66 : decode cX4_readNumber 66 = .ok (.goto (-61), 3) := by decide +kernel
theorem dX4_readNumber_69 : decode cX4_readNumber 69 = .ok (.iload 4, 2) := by decide +kernel
theorem dX4_readNumber_71 : decode cX4_readNumber 71 = .ok (.ifCond .ne 7, 3) := by decide +kernel
theorem dX4_readNumber_74 : decode cX4_readNumber 74 = .ok (.iconst (-1), 1) := by decide +kernel
theorem dX4_readNumber_75 : decode cX4_readNumber 75 = .ok (.goto 4, 3) := by decide +kernel
theorem dX4_readNumber_78 : decode cX4_readNumber 78 = .ok (.iload_n 3, 1) := by decide +kernel
theorem dX4_readNumber_79 : decode cX4_readNumber 79 = .ok (.ireturn, 1) := by decide +kernel
theorem dX4_isDigit_0 : decode cX4_isDigit 0 = .ok (.iload_n 0, 1) := by decide +kernel
theorem dX4_isDigit_1 : decode cX4_isDigit 1 = .ok (.bipush 48, 2) := by decide +kernel
theorem dX4_isDigit_3 : decode cX4_isDigit 3 = .ok (.if_icmp .lt 13, 3) := by decide +kernel
theorem dX4_isDigit_6 : decode cX4_isDigit 6 = .ok (.iload_n 0, 1) := by decide +kernel
theorem dX4_isDigit_7 : decode cX4_isDigit 7 = .ok (.bipush 57, 2) := by decide +kernel
theorem dX4_isDigit_9 : decode cX4_isDigit 9 = .ok (.if_icmp .gt 7, 3) := by decide +kernel
theorem dX4_isDigit_12 : decode cX4_isDigit 12 = .ok (.iconst 1, 1) := by decide +kernel
theorem dX4_isDigit_13 : decode cX4_isDigit 13 = .ok (.goto 4, 3) := by decide +kernel
theorem dX4_isDigit_16 : decode cX4_isDigit 16 = .ok (.iconst 0, 1) := by decide +kernel
theorem dX4_isDigit_17 : decode cX4_isDigit 17 = .ok (.ireturn, 1) := by decide +kernel
theorem dX4_readBoxName_0 : decode cX4_readBoxName 0 = .ok (.aload_n 0, 1) := by decide +kernel
theorem dX4_readBoxName_1 : decode cX4_readBoxName 1 = .ok (.getfield 25, 3) := by decide +kernel
theorem dX4_readBoxName_4 : decode cX4_readBoxName 4 = .ok (.aload_n 1, 1) := by decide +kernel
theorem dX4_readBoxName_5 : decode cX4_readBoxName 5 = .ok (.invokevirtual 32, 3) := by decide +kernel
theorem dX4_readBoxName_8 : decode cX4_readBoxName 8 = .ok (.if_icmp .ge 17, 3) := by decide +kernel
theorem dX4_readBoxName_11 : decode cX4_readBoxName 11 = .ok (.aload_n 1, 1) := by decide +kernel
theorem dX4_readBoxName_12 : decode cX4_readBoxName 12 = .ok (.aload_n 0, 1) := by decide +kernel
theorem dX4_readBoxName_13 : decode cX4_readBoxName 13 = .ok (.getfield 25, 3) := by decide +kernel
theorem dX4_readBoxName_16 : decode cX4_readBoxName 16 = .ok (.invokevirtual 85, 3) := by decide +kernel
theorem dX4_readBoxName_19 : decode cX4_readBoxName 19 = .ok (.invokestatic 97, 3) := by decide +kernel
theorem dX4_readBoxName_22 : decode cX4_readBoxName 22 = .ok (.ifCond .ne 5, 3) := by decide +kernel
theorem dX4_readBoxName_25 : decode cX4_readBoxName 25 = .ok (.iconst (-1), 1) := by decide +kernel
theorem dX4_readBoxName_26 : decode cX4_readBoxName 26 = .ok (.ireturn, 1) := by decide +kernel
theorem dX4_readBoxName_27 : decode cX4_readBoxName 27 = .ok (.aload_n 1, 1) := by decide +kernel
theorem dX4_readBoxName_28 : decode cX4_readBoxName 28 = .ok (.aload_n 0, 1) := by decide +kernel
theorem dX4_readBoxName_29 : decode cX4_readBoxName 29 = .ok (.getfield 25, 3) := by decide +kernel
theorem dX4_readBoxName_32 : decode cX4_readBoxName 32 = .ok (.invokevirtual 85, 3) := by decide +kernel
theorem dX4_readBoxName_35 : decode cX4_readBoxName 35 = .ok (.istore_n 2, 1) := by decide +kernel
theorem dX4_readBoxName_36 : decode cX4_readBoxName 36 = .ok (.aload_n 0, 1) := by decide +kernel
theorem dX4_readBoxName_37 : decode cX4_readBoxName 37 = .ok (.dup, 1) := by decide +kernel
theorem dX4_readBoxName_38 : decode cX4_readBoxName 38 = .ok (.getfield 25, 3) := by decide +kernel
theorem dX4_readBoxName_41 : decode cX4_readBoxName 41 = .ok (.iconst 1, 1) := by decide +kernel
theorem dX4_readBoxName_42 : decode cX4_readBoxName 42 = .ok (.iadd, 1) := by decide +kernel
theorem dX4_readBoxName_43 : decode cX4_readBoxName 43 = .ok (.putfield 25, 3) := by decide +kernel
theorem dX4_readBoxName_46 : decode cX4_readBoxName 46 = .ok (.iload_n 2, 1) := by decide +kernel
theorem dX4_readBoxName_47 : decode cX4_readBoxName 47 = .ok (.ireturn, 1) := by decide +kernel
theorem dX4_keyword_0 : decode cX4_keyword 0 = .ok (.iload_n 0, 1) := by decide +kernel
theorem dX4_keyword_1 : decode cX4_keyword 1 = .ok (.tableswitch 92 0 10 #[59, 62, 65, 68, 71, 74, 77, 80, 83, 86, 89], 59) := by decide +kernel
theorem dX4_keyword_60 : decode cX4_keyword 60 = .ok (.ldc 103, 2) := by decide +kernel
theorem dX4_keyword_62 : decode cX4_keyword 62 = .ok (.areturn, 1) := by decide +kernel
theorem dX4_keyword_63 : decode cX4_keyword 63 = .ok (.ldc 105, 2) := by decide +kernel
theorem dX4_keyword_65 : decode cX4_keyword 65 = .ok (.areturn, 1) := by decide +kernel
theorem dX4_keyword_66 : decode cX4_keyword 66 = .ok (.ldc 107, 2) := by decide +kernel
theorem dX4_keyword_68 : decode cX4_keyword 68 = .ok (.areturn, 1) := by decide +kernel
theorem dX4_keyword_69 : decode cX4_keyword 69 = .ok (.ldc 109, 2) := by decide +kernel
theorem dX4_keyword_71 : decode cX4_keyword 71 = .ok (.areturn, 1) := by decide +kernel
theorem dX4_keyword_72 : decode cX4_keyword 72 = .ok (.ldc 111, 2) := by decide +kernel
theorem dX4_keyword_74 : decode cX4_keyword 74 = .ok (.areturn, 1) := by decide +kernel
theorem dX4_keyword_75 : decode cX4_keyword 75 = .ok (.ldc 113, 2) := by decide +kernel
theorem dX4_keyword_77 : decode cX4_keyword 77 = .ok (.areturn, 1) := by decide +kernel
theorem dX4_keyword_78 : decode cX4_keyword 78 = .ok (.ldc 115, 2) := by decide +kernel
theorem dX4_keyword_80 : decode cX4_keyword 80 = .ok (.areturn, 1) := by decide +kernel
theorem dX4_keyword_81 : decode cX4_keyword 81 = .ok (.ldc 117, 2) := by decide +kernel
theorem dX4_keyword_83 : decode cX4_keyword 83 = .ok (.areturn, 1) := by decide +kernel
theorem dX4_keyword_84 : decode cX4_keyword 84 = .ok (.ldc 119, 2) := by decide +kernel
theorem dX4_keyword_86 : decode cX4_keyword 86 = .ok (.areturn, 1) := by decide +kernel
theorem dX4_keyword_87 : decode cX4_keyword 87 = .ok (.ldc 121, 2) := by decide +kernel
theorem dX4_keyword_89 : decode cX4_keyword 89 = .ok (.areturn, 1) := by decide +kernel
theorem dX4_keyword_90 : decode cX4_keyword 90 = .ok (.ldc 123, 2) := by decide +kernel
theorem dX4_keyword_92 : decode cX4_keyword 92 = .ok (.areturn, 1) := by decide +kernel
theorem dX4_keyword_93 : decode cX4_keyword 93 = .ok (.ldc 125, 2) := by decide +kernel
theorem dX4_keyword_95 : decode cX4_keyword 95 = .ok (.areturn, 1) := by decide +kernel
theorem dX4_argumentForms_0 : decode cX4_argumentForms 0 = .ok (.iload_n 0, 1) := by decide +kernel
theorem dX4_argumentForms_1 : decode cX4_argumentForms 1 = .ok (.tableswitch 77 0 10 #[59, 62, 62, 65, 68, 59, 71, 59, 77, 77, 74], 59) := by decide +kernel
theorem dX4_argumentForms_60 : decode cX4_argumentForms 60 = .ok (.ldc 127, 2) := by decide +kernel
theorem dX4_argumentForms_62 : decode cX4_argumentForms 62 = .ok (.areturn, 1) := by decide +kernel
theorem dX4_argumentForms_63 : decode cX4_argumentForms 63 = .ok (.ldc 129, 2) := by decide +kernel
theorem dX4_argumentForms_65 : decode cX4_argumentForms 65 = .ok (.areturn, 1) := by decide +kernel
theorem dX4_argumentForms_66 : decode cX4_argumentForms 66 = .ok (.ldc 131, 2) := by decide +kernel
theorem dX4_argumentForms_68 : decode cX4_argumentForms 68 = .ok (.areturn, 1) := by decide +kernel
theorem dX4_argumentForms_69 : decode cX4_argumentForms 69 = .ok (.ldc 133, 2) := by decide +kernel
theorem dX4_argumentForms_71 : decode cX4_argumentForms 71 = .ok (.areturn, 1) := by decide +kernel
theorem dX4_argumentForms_72 : decode cX4_argumentForms 72 = .ok (.ldc 135, 2) := by decide +kernel
theorem dX4_argumentForms_74 : decode cX4_argumentForms 74 = .ok (.areturn, 1) := by decide +kernel
theorem dX4_argumentForms_75 : decode cX4_argumentForms 75 = .ok (.ldc 137, 2) := by decide +kernel
theorem dX4_argumentForms_77 : decode cX4_argumentForms 77 = .ok (.areturn, 1) := by decide +kernel
theorem dX4_argumentForms_78 : decode cX4_argumentForms 78 = .ok (.ldc 139, 2) := by decide +kernel
theorem dX4_argumentForms_80 : decode cX4_argumentForms 80 = .ok (.areturn, 1) := by decide +kernel
theorem dX5_refusal_0 : decode cX5_refusal 0 = .ok (.iload_n 1, 1) := by decide +kernel
theorem dX5_refusal_1 : decode cX5_refusal 1 = .ok (.tableswitch 133 0 10 #[59, 65, 72, 79, 86, 93, 99, 106, 112, 119, 126], 59) := by decide +kernel
theorem dX5_refusal_60 : decode cX5_refusal 60 = .ok (.aload_n 0, 1) := by decide +kernel
theorem dX5_refusal_61 : decode cX5_refusal 61 = .ok (.iload_n 2, 1) := by decide +kernel
theorem dX5_refusal_62 : decode cX5_refusal 62 = .ok (.invokestatic 9, 3) := by decide +kernel
theorem dX5_refusal_65 : decode cX5_refusal 65 = .ok (.ireturn, 1) := by decide +kernel
theorem dX5_refusal_66 : decode cX5_refusal 66 = .ok (.aload_n 0, 1) := by decide +kernel
theorem dX5_refusal_67 : decode cX5_refusal 67 = .ok (.iload_n 2, 1) := by decide +kernel
theorem dX5_refusal_68 : decode cX5_refusal 68 = .ok (.iload_n 3, 1) := by decide +kernel
theorem dX5_refusal_69 : decode cX5_refusal 69 = .ok (.invokestatic 15, 3) := by decide +kernel
theorem dX5_refusal_72 : decode cX5_refusal 72 = .ok (.ireturn, 1) := by decide +kernel
theorem dX5_refusal_73 : decode cX5_refusal 73 = .ok (.aload_n 0, 1) := by decide +kernel
theorem dX5_refusal_74 : decode cX5_refusal 74 = .ok (.iload_n 2, 1) := by decide +kernel
theorem dX5_refusal_75 : decode cX5_refusal 75 = .ok (.iload_n 3, 1) := by decide +kernel
theorem dX5_refusal_76 : decode cX5_refusal 76 = .ok (.invokestatic 19, 3) := by decide +kernel
theorem dX5_refusal_79 : decode cX5_refusal 79 = .ok (.ireturn, 1) := by decide +kernel
theorem dX5_refusal_80 : decode cX5_refusal 80 = .ok (.aload_n 0, 1) := by decide +kernel
theorem dX5_refusal_81 : decode cX5_refusal 81 = .ok (.iload_n 2, 1) := by decide +kernel
theorem dX5_refusal_82 : decode cX5_refusal 82 = .ok (.iload_n 3, 1) := by decide +kernel
theorem dX5_refusal_83 : decode cX5_refusal 83 = .ok (.invokestatic 22, 3) := by decide +kernel
theorem dX5_refusal_86 : decode cX5_refusal 86 = .ok (.ireturn, 1) := by decide +kernel
theorem dX5_refusal_87 : decode cX5_refusal 87 = .ok (.aload_n 0, 1) := by decide +kernel
theorem dX5_refusal_88 : decode cX5_refusal 88 = .ok (.iload_n 2, 1) := by decide +kernel
theorem dX5_refusal_89 : decode cX5_refusal 89 = .ok (.iload_n 3, 1) := by decide +kernel
theorem dX5_refusal_90 : decode cX5_refusal 90 = .ok (.invokestatic 25, 3) := by decide +kernel
theorem dX5_refusal_93 : decode cX5_refusal 93 = .ok (.ireturn, 1) := by decide +kernel
theorem dX5_refusal_94 : decode cX5_refusal 94 = .ok (.aload_n 0, 1) := by decide +kernel
theorem dX5_refusal_95 : decode cX5_refusal 95 = .ok (.iload_n 2, 1) := by decide +kernel
theorem dX5_refusal_96 : decode cX5_refusal 96 = .ok (.invokestatic 28, 3) := by decide +kernel
theorem dX5_refusal_99 : decode cX5_refusal 99 = .ok (.ireturn, 1) := by decide +kernel
theorem dX5_refusal_100 : decode cX5_refusal 100 = .ok (.aload_n 0, 1) := by decide +kernel
theorem dX5_refusal_101 : decode cX5_refusal 101 = .ok (.iload_n 2, 1) := by decide +kernel
theorem dX5_refusal_102 : decode cX5_refusal 102 = .ok (.iload_n 3, 1) := by decide +kernel
theorem dX5_refusal_103 : decode cX5_refusal 103 = .ok (.invokestatic 31, 3) := by decide +kernel
theorem dX5_refusal_106 : decode cX5_refusal 106 = .ok (.ireturn, 1) := by decide +kernel
theorem dX5_refusal_107 : decode cX5_refusal 107 = .ok (.aload_n 0, 1) := by decide +kernel
theorem dX5_refusal_108 : decode cX5_refusal 108 = .ok (.iload_n 2, 1) := by decide +kernel
theorem dX5_refusal_109 : decode cX5_refusal 109 = .ok (.invokestatic 34, 3) := by decide +kernel
theorem dX5_refusal_112 : decode cX5_refusal 112 = .ok (.ireturn, 1) := by decide +kernel
theorem dX5_refusal_113 : decode cX5_refusal 113 = .ok (.aload_n 0, 1) := by decide +kernel
theorem dX5_refusal_114 : decode cX5_refusal 114 = .ok (.iload_n 2, 1) := by decide +kernel
theorem dX5_refusal_115 : decode cX5_refusal 115 = .ok (.iconst 0, 1) := by decide +kernel
theorem dX5_refusal_116 : decode cX5_refusal 116 = .ok (.invokestatic 37, 3) := by decide +kernel
theorem dX5_refusal_119 : decode cX5_refusal 119 = .ok (.ireturn, 1) := by decide +kernel
theorem dX5_refusal_120 : decode cX5_refusal 120 = .ok (.aload_n 0, 1) := by decide +kernel
theorem dX5_refusal_121 : decode cX5_refusal 121 = .ok (.iload_n 2, 1) := by decide +kernel
theorem dX5_refusal_122 : decode cX5_refusal 122 = .ok (.iconst 1, 1) := by decide +kernel
theorem dX5_refusal_123 : decode cX5_refusal 123 = .ok (.invokestatic 37, 3) := by decide +kernel
theorem dX5_refusal_126 : decode cX5_refusal 126 = .ok (.ireturn, 1) := by decide +kernel
theorem dX5_refusal_127 : decode cX5_refusal 127 = .ok (.aload_n 0, 1) := by decide +kernel
theorem dX5_refusal_128 : decode cX5_refusal 128 = .ok (.iload_n 2, 1) := by decide +kernel
theorem dX5_refusal_129 : decode cX5_refusal 129 = .ok (.iload_n 3, 1) := by decide +kernel
theorem dX5_refusal_130 : decode cX5_refusal 130 = .ok (.invokestatic 41, 3) := by decide +kernel
theorem dX5_refusal_133 : decode cX5_refusal 133 = .ok (.ireturn, 1) := by decide +kernel
theorem dX5_refusal_134 : decode cX5_refusal 134 = .ok (.aload_n 0, 1) := by decide +kernel
theorem dX5_refusal_135 : decode cX5_refusal 135 = .ok (.iload_n 2, 1) := by decide +kernel
theorem dX5_refusal_136 : decode cX5_refusal 136 = .ok (.iconst 0, 1) := by decide +kernel
theorem dX5_refusal_137 : decode cX5_refusal 137 = .ok (.invokestatic 37, 3) := by decide +kernel
theorem dX5_refusal_140 : decode cX5_refusal 140 = .ok (.ireturn, 1) := by decide +kernel
theorem dX5_acceptedIf_0 : decode cX5_acceptedIf 0 = .ok (.iload_n 0, 1) := by decide +kernel
theorem dX5_acceptedIf_1 : decode cX5_acceptedIf 1 = .ok (.ifCond .eq 7, 3) := by decide +kernel
theorem dX5_acceptedIf_4 : decode cX5_acceptedIf 4 = .ok (.iconst 0, 1) := by decide +kernel
theorem dX5_acceptedIf_5 : decode cX5_acceptedIf 5 = .ok (.goto 4, 3) := by decide +kernel
theorem dX5_acceptedIf_8 : decode cX5_acceptedIf 8 = .ok (.iconst 4, 1) := by decide +kernel
theorem dX5_acceptedIf_9 : decode cX5_acceptedIf 9 = .ok (.ireturn, 1) := by decide +kernel
theorem dX5_within_0 : decode cX5_within 0 = .ok (.iload_n 0, 1) := by decide +kernel
theorem dX5_within_1 : decode cX5_within 1 = .ok (.iconst 1, 1) := by decide +kernel
theorem dX5_within_2 : decode cX5_within 2 = .ok (.if_icmp .lt 12, 3) := by decide +kernel
theorem dX5_within_5 : decode cX5_within 5 = .ok (.iload_n 0, 1) := by decide +kernel
theorem dX5_within_6 : decode cX5_within 6 = .ok (.iload_n 1, 1) := by decide +kernel
theorem dX5_within_7 : decode cX5_within 7 = .ok (.if_icmp .gt 7, 3) := by decide +kernel
theorem dX5_within_10 : decode cX5_within 10 = .ok (.iconst 1, 1) := by decide +kernel
theorem dX5_within_11 : decode cX5_within 11 = .ok (.goto 4, 3) := by decide +kernel
theorem dX5_within_14 : decode cX5_within 14 = .ok (.iconst 0, 1) := by decide +kernel
theorem dX5_within_15 : decode cX5_within 15 = .ok (.ireturn, 1) := by decide +kernel
theorem dX5_refusalOfRow_0 : decode cX5_refusalOfRow 0 = .ok (.iload_n 1, 1) := by decide +kernel
theorem dX5_refusalOfRow_1 : decode cX5_refusalOfRow 1 = .ok (.bipush 12, 2) := by decide +kernel
theorem dX5_refusalOfRow_3 : decode cX5_refusalOfRow 3 = .ok (.invokestatic 44, 3) := by decide +kernel
theorem dX5_refusalOfRow_6 : decode cX5_refusalOfRow 6 = .ok (.ifCond .ne 5, 3) := by decide +kernel
theorem dX5_refusalOfRow_9 : decode cX5_refusalOfRow 9 = .ok (.iconst 3, 1) := by decide +kernel
theorem dX5_refusalOfRow_10 : decode cX5_refusalOfRow 10 = .ok (.ireturn, 1) := by decide +kernel
theorem dX5_refusalOfRow_11 : decode cX5_refusalOfRow 11 = .ok (.aload_n 0, 1) := by decide +kernel
theorem dX5_refusalOfRow_12 : decode cX5_refusalOfRow 12 = .ok (.getfield 48, 3) := by decide +kernel
theorem dX5_refusalOfRow_15 : decode cX5_refusalOfRow 15 = .ok (.bipush 8, 2) := by decide +kernel
theorem dX5_refusalOfRow_17 : decode cX5_refusalOfRow 17 = .ok (.if_icmp .ge 7, 3) := by decide +kernel
theorem dX5_refusalOfRow_20 : decode cX5_refusalOfRow 20 = .ok (.iconst 1, 1) := by decide +kernel
theorem dX5_refusalOfRow_21 : decode cX5_refusalOfRow 21 = .ok (.goto 4, 3) := by decide +kernel
theorem dX5_refusalOfRow_24 : decode cX5_refusalOfRow 24 = .ok (.iconst 0, 1) := by decide +kernel
theorem dX5_refusalOfRow_25 : decode cX5_refusalOfRow 25 = .ok (.invokestatic 54, 3) := by decide +kernel
theorem dX5_refusalOfRow_28 : decode cX5_refusalOfRow 28 = .ok (.ireturn, 1) := by decide +kernel
theorem dX5_refusalOfPhantoms_0 : decode cX5_refusalOfPhantoms 0 = .ok (.aload_n 0, 1) := by decide +kernel
theorem dX5_refusalOfPhantoms_1 : decode cX5_refusalOfPhantoms 1 = .ok (.iload_n 1, 1) := by decide +kernel
theorem dX5_refusalOfPhantoms_2 : decode cX5_refusalOfPhantoms 2 = .ok (.invokevirtual 58, 3) := by decide +kernel
theorem dX5_refusalOfPhantoms_5 : decode cX5_refusalOfPhantoms 5 = .ok (.ifCond .ne 5, 3) := by decide +kernel
theorem dX5_refusalOfPhantoms_8 : decode cX5_refusalOfPhantoms 8 = .ok (.iconst 2, 1) := by decide +kernel
theorem dX5_refusalOfPhantoms_9 : decode cX5_refusalOfPhantoms 9 = .ok (.ireturn, 1) := by decide +kernel
theorem dX5_refusalOfPhantoms_10 : decode cX5_refusalOfPhantoms 10 = .ok (.iload_n 2, 1) := by decide +kernel
theorem dX5_refusalOfPhantoms_11 : decode cX5_refusalOfPhantoms 11 = .ok (.bipush 6, 2) := by decide +kernel
theorem dX5_refusalOfPhantoms_13 : decode cX5_refusalOfPhantoms 13 = .ok (.invokestatic 44, 3) := by decide +kernel
theorem dX5_refusalOfPhantoms_16 : decode cX5_refusalOfPhantoms 16 = .ok (.ifCond .ne 5, 3) := by decide +kernel
theorem dX5_refusalOfPhantoms_19 : decode cX5_refusalOfPhantoms 19 = .ok (.iconst 3, 1) := by decide +kernel
theorem dX5_refusalOfPhantoms_20 : decode cX5_refusalOfPhantoms 20 = .ok (.ireturn, 1) := by decide +kernel
theorem dX5_refusalOfPhantoms_21 : decode cX5_refusalOfPhantoms 21 = .ok (.aload_n 0, 1) := by decide +kernel
theorem dX5_refusalOfPhantoms_22 : decode cX5_refusalOfPhantoms 22 = .ok (.getfield 62, 3) := by decide +kernel
theorem dX5_refusalOfPhantoms_25 : decode cX5_refusalOfPhantoms 25 = .ok (.iload_n 1, 1) := by decide +kernel
theorem dX5_refusalOfPhantoms_26 : decode cX5_refusalOfPhantoms 26 = .ok (.baload, 1) := by decide +kernel
theorem dX5_refusalOfPhantoms_27 : decode cX5_refusalOfPhantoms 27 = .ok (.ifCond .ne 20, 3) := by decide +kernel
theorem dX5_refusalOfPhantoms_30 : decode cX5_refusalOfPhantoms 30 = .ok (.aload_n 0, 1) := by decide +kernel
theorem dX5_refusalOfPhantoms_31 : decode cX5_refusalOfPhantoms 31 = .ok (.getfield 66, 3) := by decide +kernel
theorem dX5_refusalOfPhantoms_34 : decode cX5_refusalOfPhantoms 34 = .ok (.iload_n 1, 1) := by decide +kernel
theorem dX5_refusalOfPhantoms_35 : decode cX5_refusalOfPhantoms 35 = .ok (.iaload, 1) := by decide +kernel
theorem dX5_refusalOfPhantoms_36 : decode cX5_refusalOfPhantoms 36 = .ok (.iload_n 2, 1) := by decide +kernel
theorem dX5_refusalOfPhantoms_37 : decode cX5_refusalOfPhantoms 37 = .ok (.iadd, 1) := by decide +kernel
theorem dX5_refusalOfPhantoms_38 : decode cX5_refusalOfPhantoms 38 = .ok (.bipush 6, 2) := by decide +kernel
theorem dX5_refusalOfPhantoms_40 : decode cX5_refusalOfPhantoms 40 = .ok (.if_icmp .gt 7, 3) := by decide +kernel
theorem dX5_refusalOfPhantoms_43 : decode cX5_refusalOfPhantoms 43 = .ok (.iconst 1, 1) := by decide +kernel
theorem dX5_refusalOfPhantoms_44 : decode cX5_refusalOfPhantoms 44 = .ok (.goto 4, 3) := by decide +kernel
theorem dX5_refusalOfPhantoms_47 : decode cX5_refusalOfPhantoms 47 = .ok (.iconst 0, 1) := by decide +kernel
theorem dX5_refusalOfPhantoms_48 : decode cX5_refusalOfPhantoms 48 = .ok (.invokestatic 54, 3) := by decide +kernel
theorem dX5_refusalOfPhantoms_51 : decode cX5_refusalOfPhantoms 51 = .ok (.ireturn, 1) := by decide +kernel
theorem dX5_refusalOfDismissal_0 : decode cX5_refusalOfDismissal 0 = .ok (.aload_n 0, 1) := by decide +kernel
theorem dX5_refusalOfDismissal_1 : decode cX5_refusalOfDismissal 1 = .ok (.iload_n 1, 1) := by decide +kernel
theorem dX5_refusalOfDismissal_2 : decode cX5_refusalOfDismissal 2 = .ok (.invokevirtual 58, 3) := by decide +kernel
theorem dX5_refusalOfDismissal_5 : decode cX5_refusalOfDismissal 5 = .ok (.ifCond .ne 5, 3) := by decide +kernel
theorem dX5_refusalOfDismissal_8 : decode cX5_refusalOfDismissal 8 = .ok (.iconst 2, 1) := by decide +kernel
theorem dX5_refusalOfDismissal_9 : decode cX5_refusalOfDismissal 9 = .ok (.ireturn, 1) := by decide +kernel
theorem dX5_refusalOfDismissal_10 : decode cX5_refusalOfDismissal 10 = .ok (.iload_n 2, 1) := by decide +kernel
theorem dX5_refusalOfDismissal_11 : decode cX5_refusalOfDismissal 11 = .ok (.bipush 6, 2) := by decide +kernel
theorem dX5_refusalOfDismissal_13 : decode cX5_refusalOfDismissal 13 = .ok (.invokestatic 44, 3) := by decide +kernel
theorem dX5_refusalOfDismissal_16 : decode cX5_refusalOfDismissal 16 = .ok (.ifCond .ne 5, 3) := by decide +kernel
theorem dX5_refusalOfDismissal_19 : decode cX5_refusalOfDismissal 19 = .ok (.iconst 3, 1) := by decide +kernel
theorem dX5_refusalOfDismissal_20 : decode cX5_refusalOfDismissal 20 = .ok (.ireturn, 1) := by decide +kernel
theorem dX5_refusalOfDismissal_21 : decode cX5_refusalOfDismissal 21 = .ok (.aload_n 0, 1) := by decide +kernel
theorem dX5_refusalOfDismissal_22 : decode cX5_refusalOfDismissal 22 = .ok (.getfield 62, 3) := by decide +kernel
theorem dX5_refusalOfDismissal_25 : decode cX5_refusalOfDismissal 25 = .ok (.iload_n 1, 1) := by decide +kernel
theorem dX5_refusalOfDismissal_26 : decode cX5_refusalOfDismissal 26 = .ok (.baload, 1) := by decide +kernel
theorem dX5_refusalOfDismissal_27 : decode cX5_refusalOfDismissal 27 = .ok (.ifCond .ne 26, 3) := by decide +kernel
theorem dX5_refusalOfDismissal_30 : decode cX5_refusalOfDismissal 30 = .ok (.aload_n 0, 1) := by decide +kernel
theorem dX5_refusalOfDismissal_31 : decode cX5_refusalOfDismissal 31 = .ok (.getfield 66, 3) := by decide +kernel
theorem dX5_refusalOfDismissal_34 : decode cX5_refusalOfDismissal 34 = .ok (.iload_n 1, 1) := by decide +kernel
theorem dX5_refusalOfDismissal_35 : decode cX5_refusalOfDismissal 35 = .ok (.iaload, 1) := by decide +kernel
theorem dX5_refusalOfDismissal_36 : decode cX5_refusalOfDismissal 36 = .ok (.iload_n 2, 1) := by decide +kernel
theorem dX5_refusalOfDismissal_37 : decode cX5_refusalOfDismissal 37 = .ok (.if_icmp .lt 16, 3) := by decide +kernel
theorem dX5_refusalOfDismissal_40 : decode cX5_refusalOfDismissal 40 = .ok (.aload_n 0, 1) := by decide +kernel
theorem dX5_refusalOfDismissal_41 : decode cX5_refusalOfDismissal 41 = .ok (.iload_n 1, 1) := by decide +kernel
theorem dX5_refusalOfDismissal_42 : decode cX5_refusalOfDismissal 42 = .ok (.invokevirtual 70, 3) := by decide +kernel
theorem dX5_refusalOfDismissal_45 : decode cX5_refusalOfDismissal 45 = .ok (.iload_n 2, 1) := by decide +kernel
theorem dX5_refusalOfDismissal_46 : decode cX5_refusalOfDismissal 46 = .ok (.if_icmp .lt 7, 3) := by decide +kernel
theorem dX5_refusalOfDismissal_49 : decode cX5_refusalOfDismissal 49 = .ok (.iconst 1, 1) := by decide +kernel
theorem dX5_refusalOfDismissal_50 : decode cX5_refusalOfDismissal 50 = .ok (.goto 4, 3) := by decide +kernel
theorem dX5_refusalOfDismissal_53 : decode cX5_refusalOfDismissal 53 = .ok (.iconst 0, 1) := by decide +kernel
theorem dX5_refusalOfDismissal_54 : decode cX5_refusalOfDismissal 54 = .ok (.invokestatic 54, 3) := by decide +kernel
theorem dX5_refusalOfDismissal_57 : decode cX5_refusalOfDismissal 57 = .ok (.ireturn, 1) := by decide +kernel
theorem dX5_refusalOfEcho_0 : decode cX5_refusalOfEcho 0 = .ok (.aload_n 0, 1) := by decide +kernel
theorem dX5_refusalOfEcho_1 : decode cX5_refusalOfEcho 1 = .ok (.iload_n 1, 1) := by decide +kernel
theorem dX5_refusalOfEcho_2 : decode cX5_refusalOfEcho 2 = .ok (.invokevirtual 58, 3) := by decide +kernel
theorem dX5_refusalOfEcho_5 : decode cX5_refusalOfEcho 5 = .ok (.ifCond .ne 5, 3) := by decide +kernel
theorem dX5_refusalOfEcho_8 : decode cX5_refusalOfEcho 8 = .ok (.iconst 2, 1) := by decide +kernel
theorem dX5_refusalOfEcho_9 : decode cX5_refusalOfEcho 9 = .ok (.ireturn, 1) := by decide +kernel
theorem dX5_refusalOfEcho_10 : decode cX5_refusalOfEcho 10 = .ok (.iload_n 2, 1) := by decide +kernel
theorem dX5_refusalOfEcho_11 : decode cX5_refusalOfEcho 11 = .ok (.sipush 999, 3) := by decide +kernel
theorem dX5_refusalOfEcho_14 : decode cX5_refusalOfEcho 14 = .ok (.invokestatic 44, 3) := by decide +kernel
theorem dX5_refusalOfEcho_17 : decode cX5_refusalOfEcho 17 = .ok (.ifCond .ne 5, 3) := by decide +kernel
theorem dX5_refusalOfEcho_20 : decode cX5_refusalOfEcho 20 = .ok (.iconst 3, 1) := by decide +kernel
theorem dX5_refusalOfEcho_21 : decode cX5_refusalOfEcho 21 = .ok (.ireturn, 1) := by decide +kernel
theorem dX5_refusalOfEcho_22 : decode cX5_refusalOfEcho 22 = .ok (.aload_n 0, 1) := by decide +kernel
theorem dX5_refusalOfEcho_23 : decode cX5_refusalOfEcho 23 = .ok (.getfield 62, 3) := by decide +kernel
theorem dX5_refusalOfEcho_26 : decode cX5_refusalOfEcho 26 = .ok (.iload_n 1, 1) := by decide +kernel
theorem dX5_refusalOfEcho_27 : decode cX5_refusalOfEcho 27 = .ok (.baload, 1) := by decide +kernel
theorem dX5_refusalOfEcho_28 : decode cX5_refusalOfEcho 28 = .ok (.ifCond .ne 24, 3) := by decide +kernel
theorem dX5_refusalOfEcho_31 : decode cX5_refusalOfEcho 31 = .ok (.aload_n 0, 1) := by decide +kernel
theorem dX5_refusalOfEcho_32 : decode cX5_refusalOfEcho 32 = .ok (.iload_n 1, 1) := by decide +kernel
theorem dX5_refusalOfEcho_33 : decode cX5_refusalOfEcho 33 = .ok (.invokevirtual 70, 3) := by decide +kernel
theorem dX5_refusalOfEcho_36 : decode cX5_refusalOfEcho 36 = .ok (.ifCond .le 16, 3) := by decide +kernel
theorem dX5_refusalOfEcho_39 : decode cX5_refusalOfEcho 39 = .ok (.aload_n 0, 1) := by decide +kernel
theorem dX5_refusalOfEcho_40 : decode cX5_refusalOfEcho 40 = .ok (.getfield 74, 3) := by decide +kernel
theorem dX5_refusalOfEcho_43 : decode cX5_refusalOfEcho 43 = .ok (.bipush 24, 2) := by decide +kernel
theorem dX5_refusalOfEcho_45 : decode cX5_refusalOfEcho 45 = .ok (.if_icmp .ge 7, 3) := by decide +kernel
theorem dX5_refusalOfEcho_48 : decode cX5_refusalOfEcho 48 = .ok (.iconst 1, 1) := by decide +kernel
theorem dX5_refusalOfEcho_49 : decode cX5_refusalOfEcho 49 = .ok (.goto 4, 3) := by decide +kernel
theorem dX5_refusalOfEcho_52 : decode cX5_refusalOfEcho 52 = .ok (.iconst 0, 1) := by decide +kernel
theorem dX5_refusalOfEcho_53 : decode cX5_refusalOfEcho 53 = .ok (.invokestatic 54, 3) := by decide +kernel
theorem dX5_refusalOfEcho_56 : decode cX5_refusalOfEcho 56 = .ok (.ireturn, 1) := by decide +kernel
theorem dX5_refusalOfMove_0 : decode cX5_refusalOfMove 0 = .ok (.aload_n 0, 1) := by decide +kernel
theorem dX5_refusalOfMove_1 : decode cX5_refusalOfMove 1 = .ok (.iload_n 1, 1) := by decide +kernel
theorem dX5_refusalOfMove_2 : decode cX5_refusalOfMove 2 = .ok (.invokevirtual 77, 3) := by decide +kernel
theorem dX5_refusalOfMove_5 : decode cX5_refusalOfMove 5 = .ok (.istore_n 3, 1) := by decide +kernel
theorem dX5_refusalOfMove_6 : decode cX5_refusalOfMove 6 = .ok (.iload_n 3, 1) := by decide +kernel
theorem dX5_refusalOfMove_7 : decode cX5_refusalOfMove 7 = .ok (.iconst (-1), 1) := by decide +kernel
theorem dX5_refusalOfMove_8 : decode cX5_refusalOfMove 8 = .ok (.if_icmp .ne 5, 3) := by decide +kernel
theorem dX5_refusalOfMove_11 : decode cX5_refusalOfMove 11 = .ok (.iconst 1, 1) := by decide +kernel
theorem dX5_refusalOfMove_12 : decode cX5_refusalOfMove 12 = .ok (.ireturn, 1) := by decide +kernel
theorem dX5_refusalOfMove_13 : decode cX5_refusalOfMove 13 = .ok (.aload_n 0, 1) := by decide +kernel
theorem dX5_refusalOfMove_14 : decode cX5_refusalOfMove 14 = .ok (.iload_n 2, 1) := by decide +kernel
theorem dX5_refusalOfMove_15 : decode cX5_refusalOfMove 15 = .ok (.invokevirtual 58, 3) := by decide +kernel
theorem dX5_refusalOfMove_18 : decode cX5_refusalOfMove 18 = .ok (.ifCond .ne 5, 3) := by decide +kernel
theorem dX5_refusalOfMove_21 : decode cX5_refusalOfMove 21 = .ok (.iconst 2, 1) := by decide +kernel
theorem dX5_refusalOfMove_22 : decode cX5_refusalOfMove 22 = .ok (.ireturn, 1) := by decide +kernel
theorem dX5_refusalOfMove_23 : decode cX5_refusalOfMove 23 = .ok (.aload_n 0, 1) := by decide +kernel
theorem dX5_refusalOfMove_24 : decode cX5_refusalOfMove 24 = .ok (.getfield 80, 3) := by decide +kernel
theorem dX5_refusalOfMove_27 : decode cX5_refusalOfMove 27 = .ok (.iload_n 3, 1) := by decide +kernel
theorem dX5_refusalOfMove_28 : decode cX5_refusalOfMove 28 = .ok (.iaload, 1) := by decide +kernel
theorem dX5_refusalOfMove_29 : decode cX5_refusalOfMove 29 = .ok (.istore 4, 2) := by decide +kernel
theorem dX5_refusalOfMove_31 : decode cX5_refusalOfMove 31 = .ok (.iload 4, 2) := by decide +kernel
theorem dX5_refusalOfMove_33 : decode cX5_refusalOfMove 33 = .ok (.iload_n 2, 1) := by decide +kernel
theorem dX5_refusalOfMove_34 : decode cX5_refusalOfMove 34 = .ok (.if_icmp .eq 34, 3) := by decide +kernel
theorem dX5_refusalOfMove_37 : decode cX5_refusalOfMove 37 = .ok (.aload_n 0, 1) := by decide +kernel
theorem dX5_refusalOfMove_38 : decode cX5_refusalOfMove 38 = .ok (.getfield 62, 3) := by decide +kernel
theorem dX5_refusalOfMove_41 : decode cX5_refusalOfMove 41 = .ok (.iload 4, 2) := by decide +kernel
theorem dX5_refusalOfMove_43 : decode cX5_refusalOfMove 43 = .ok (.baload, 1) := by decide +kernel
theorem dX5_refusalOfMove_44 : decode cX5_refusalOfMove 44 = .ok (.ifCond .ne 24, 3) := by decide +kernel
theorem dX5_refusalOfMove_47 : decode cX5_refusalOfMove 47 = .ok (.aload_n 0, 1) := by decide +kernel
theorem dX5_refusalOfMove_48 : decode cX5_refusalOfMove 48 = .ok (.getfield 62, 3) := by decide +kernel
theorem dX5_refusalOfMove_51 : decode cX5_refusalOfMove 51 = .ok (.iload_n 2, 1) := by decide +kernel
theorem dX5_refusalOfMove_52 : decode cX5_refusalOfMove 52 = .ok (.baload, 1) := by decide +kernel
theorem dX5_refusalOfMove_53 : decode cX5_refusalOfMove 53 = .ok (.ifCond .ne 15, 3) := by decide +kernel
theorem dX5_refusalOfMove_56 : decode cX5_refusalOfMove 56 = .ok (.aload_n 0, 1) := by decide +kernel
theorem dX5_refusalOfMove_57 : decode cX5_refusalOfMove 57 = .ok (.iload_n 2, 1) := by decide +kernel
theorem dX5_refusalOfMove_58 : decode cX5_refusalOfMove 58 = .ok (.invokevirtual 70, 3) := by decide +kernel
theorem dX5_refusalOfMove_61 : decode cX5_refusalOfMove 61 = .ok (.ifCond .le 7, 3) := by decide +kernel
theorem dX5_refusalOfMove_64 : decode cX5_refusalOfMove 64 = .ok (.iconst 1, 1) := by decide +kernel
theorem dX5_refusalOfMove_65 : decode cX5_refusalOfMove 65 = .ok (.goto 4, 3) := by decide +kernel
theorem dX5_refusalOfMove_68 : decode cX5_refusalOfMove 68 = .ok (.iconst 0, 1) := by decide +kernel
theorem dX5_refusalOfMove_69 : decode cX5_refusalOfMove 69 = .ok (.invokestatic 54, 3) := by decide +kernel
theorem dX5_refusalOfMove_72 : decode cX5_refusalOfMove 72 = .ok (.ireturn, 1) := by decide +kernel
theorem dX5_refusalOfRemoval_0 : decode cX5_refusalOfRemoval 0 = .ok (.aload_n 0, 1) := by decide +kernel
theorem dX5_refusalOfRemoval_1 : decode cX5_refusalOfRemoval 1 = .ok (.iload_n 1, 1) := by decide +kernel
theorem dX5_refusalOfRemoval_2 : decode cX5_refusalOfRemoval 2 = .ok (.invokevirtual 77, 3) := by decide +kernel
theorem dX5_refusalOfRemoval_5 : decode cX5_refusalOfRemoval 5 = .ok (.istore_n 2, 1) := by decide +kernel
theorem dX5_refusalOfRemoval_6 : decode cX5_refusalOfRemoval 6 = .ok (.iload_n 2, 1) := by decide +kernel
theorem dX5_refusalOfRemoval_7 : decode cX5_refusalOfRemoval 7 = .ok (.iconst (-1), 1) := by decide +kernel
theorem dX5_refusalOfRemoval_8 : decode cX5_refusalOfRemoval 8 = .ok (.if_icmp .ne 5, 3) := by decide +kernel
theorem dX5_refusalOfRemoval_11 : decode cX5_refusalOfRemoval 11 = .ok (.iconst 1, 1) := by decide +kernel
theorem dX5_refusalOfRemoval_12 : decode cX5_refusalOfRemoval 12 = .ok (.ireturn, 1) := by decide +kernel
theorem dX5_refusalOfRemoval_13 : decode cX5_refusalOfRemoval 13 = .ok (.aload_n 0, 1) := by decide +kernel
theorem dX5_refusalOfRemoval_14 : decode cX5_refusalOfRemoval 14 = .ok (.getfield 62, 3) := by decide +kernel
theorem dX5_refusalOfRemoval_17 : decode cX5_refusalOfRemoval 17 = .ok (.aload_n 0, 1) := by decide +kernel
theorem dX5_refusalOfRemoval_18 : decode cX5_refusalOfRemoval 18 = .ok (.getfield 80, 3) := by decide +kernel
theorem dX5_refusalOfRemoval_21 : decode cX5_refusalOfRemoval 21 = .ok (.iload_n 2, 1) := by decide +kernel
theorem dX5_refusalOfRemoval_22 : decode cX5_refusalOfRemoval 22 = .ok (.iaload, 1) := by decide +kernel
theorem dX5_refusalOfRemoval_23 : decode cX5_refusalOfRemoval 23 = .ok (.baload, 1) := by decide +kernel
theorem dX5_refusalOfRemoval_24 : decode cX5_refusalOfRemoval 24 = .ok (.ifCond .ne 7, 3) := by decide +kernel
theorem dX5_refusalOfRemoval_27 : decode cX5_refusalOfRemoval 27 = .ok (.iconst 1, 1) := by decide +kernel
theorem dX5_refusalOfRemoval_28 : decode cX5_refusalOfRemoval 28 = .ok (.goto 4, 3) := by decide +kernel
theorem dX5_refusalOfRemoval_31 : decode cX5_refusalOfRemoval 31 = .ok (.iconst 0, 1) := by decide +kernel
theorem dX5_refusalOfRemoval_32 : decode cX5_refusalOfRemoval 32 = .ok (.invokestatic 54, 3) := by decide +kernel
theorem dX5_refusalOfRemoval_35 : decode cX5_refusalOfRemoval 35 = .ok (.ireturn, 1) := by decide +kernel
theorem dX5_refusalOfHeir_0 : decode cX5_refusalOfHeir 0 = .ok (.aload_n 0, 1) := by decide +kernel
theorem dX5_refusalOfHeir_1 : decode cX5_refusalOfHeir 1 = .ok (.iload_n 1, 1) := by decide +kernel
theorem dX5_refusalOfHeir_2 : decode cX5_refusalOfHeir 2 = .ok (.invokevirtual 77, 3) := by decide +kernel
theorem dX5_refusalOfHeir_5 : decode cX5_refusalOfHeir 5 = .ok (.istore_n 3, 1) := by decide +kernel
theorem dX5_refusalOfHeir_6 : decode cX5_refusalOfHeir 6 = .ok (.aload_n 0, 1) := by decide +kernel
theorem dX5_refusalOfHeir_7 : decode cX5_refusalOfHeir 7 = .ok (.iload_n 2, 1) := by decide +kernel
theorem dX5_refusalOfHeir_8 : decode cX5_refusalOfHeir 8 = .ok (.invokevirtual 77, 3) := by decide +kernel
theorem dX5_refusalOfHeir_11 : decode cX5_refusalOfHeir 11 = .ok (.istore 4, 2) := by decide +kernel
theorem dX5_refusalOfHeir_13 : decode cX5_refusalOfHeir 13 = .ok (.iload_n 3, 1) := by decide +kernel
theorem dX5_refusalOfHeir_14 : decode cX5_refusalOfHeir 14 = .ok (.iconst (-1), 1) := by decide +kernel
theorem dX5_refusalOfHeir_15 : decode cX5_refusalOfHeir 15 = .ok (.if_icmp .eq 9, 3) := by decide +kernel
theorem dX5_refusalOfHeir_18 : decode cX5_refusalOfHeir 18 = .ok (.iload 4, 2) := by decide +kernel
theorem dX5_refusalOfHeir_20 : decode cX5_refusalOfHeir 20 = .ok (.iconst (-1), 1) := by decide +kernel
theorem dX5_refusalOfHeir_21 : decode cX5_refusalOfHeir 21 = .ok (.if_icmp .ne 5, 3) := by decide +kernel
theorem dX5_refusalOfHeir_24 : decode cX5_refusalOfHeir 24 = .ok (.iconst 1, 1) := by decide +kernel
theorem dX5_refusalOfHeir_25 : decode cX5_refusalOfHeir 25 = .ok (.ireturn, 1) := by decide +kernel
theorem dX5_refusalOfHeir_26 : decode cX5_refusalOfHeir 26 = .ok (.iload_n 3, 1) := by decide +kernel
theorem dX5_refusalOfHeir_27 : decode cX5_refusalOfHeir 27 = .ok (.iload 4, 2) := by decide +kernel
theorem dX5_refusalOfHeir_29 : decode cX5_refusalOfHeir 29 = .ok (.if_icmp .ne 5, 3) := by decide +kernel
theorem dX5_refusalOfHeir_32 : decode cX5_refusalOfHeir 32 = .ok (.iconst 3, 1) := by decide +kernel
theorem dX5_refusalOfHeir_33 : decode cX5_refusalOfHeir 33 = .ok (.ireturn, 1) := by decide +kernel
theorem dX5_refusalOfHeir_34 : decode cX5_refusalOfHeir 34 = .ok (.aload_n 0, 1) := by decide +kernel
theorem dX5_refusalOfHeir_35 : decode cX5_refusalOfHeir 35 = .ok (.iload 4, 2) := by decide +kernel
theorem dX5_refusalOfHeir_37 : decode cX5_refusalOfHeir 37 = .ok (.iload_n 3, 1) := by decide +kernel
theorem dX5_refusalOfHeir_38 : decode cX5_refusalOfHeir 38 = .ok (.invokevirtual 83, 3) := by decide +kernel
theorem dX5_refusalOfHeir_41 : decode cX5_refusalOfHeir 41 = .ok (.ifCond .ne 7, 3) := by decide +kernel
theorem dX5_refusalOfHeir_44 : decode cX5_refusalOfHeir 44 = .ok (.iconst 1, 1) := by decide +kernel
theorem dX5_refusalOfHeir_45 : decode cX5_refusalOfHeir 45 = .ok (.goto 4, 3) := by decide +kernel
theorem dX5_refusalOfHeir_48 : decode cX5_refusalOfHeir 48 = .ok (.iconst 0, 1) := by decide +kernel
theorem dX5_refusalOfHeir_49 : decode cX5_refusalOfHeir 49 = .ok (.invokestatic 54, 3) := by decide +kernel
theorem dX5_refusalOfHeir_52 : decode cX5_refusalOfHeir 52 = .ok (.ireturn, 1) := by decide +kernel
theorem dX5_refusalOfDisowning_0 : decode cX5_refusalOfDisowning 0 = .ok (.aload_n 0, 1) := by decide +kernel
theorem dX5_refusalOfDisowning_1 : decode cX5_refusalOfDisowning 1 = .ok (.iload_n 1, 1) := by decide +kernel
theorem dX5_refusalOfDisowning_2 : decode cX5_refusalOfDisowning 2 = .ok (.invokevirtual 77, 3) := by decide +kernel
theorem dX5_refusalOfDisowning_5 : decode cX5_refusalOfDisowning 5 = .ok (.istore_n 2, 1) := by decide +kernel
theorem dX5_refusalOfDisowning_6 : decode cX5_refusalOfDisowning 6 = .ok (.iload_n 2, 1) := by decide +kernel
theorem dX5_refusalOfDisowning_7 : decode cX5_refusalOfDisowning 7 = .ok (.iconst (-1), 1) := by decide +kernel
theorem dX5_refusalOfDisowning_8 : decode cX5_refusalOfDisowning 8 = .ok (.if_icmp .ne 5, 3) := by decide +kernel
theorem dX5_refusalOfDisowning_11 : decode cX5_refusalOfDisowning 11 = .ok (.iconst 1, 1) := by decide +kernel
theorem dX5_refusalOfDisowning_12 : decode cX5_refusalOfDisowning 12 = .ok (.ireturn, 1) := by decide +kernel
theorem dX5_refusalOfDisowning_13 : decode cX5_refusalOfDisowning 13 = .ok (.aload_n 0, 1) := by decide +kernel
theorem dX5_refusalOfDisowning_14 : decode cX5_refusalOfDisowning 14 = .ok (.getfield 86, 3) := by decide +kernel
theorem dX5_refusalOfDisowning_17 : decode cX5_refusalOfDisowning 17 = .ok (.iload_n 2, 1) := by decide +kernel
theorem dX5_refusalOfDisowning_18 : decode cX5_refusalOfDisowning 18 = .ok (.iaload, 1) := by decide +kernel
theorem dX5_refusalOfDisowning_19 : decode cX5_refusalOfDisowning 19 = .ok (.iconst (-1), 1) := by decide +kernel
theorem dX5_refusalOfDisowning_20 : decode cX5_refusalOfDisowning 20 = .ok (.if_icmp .eq 7, 3) := by decide +kernel
theorem dX5_refusalOfDisowning_23 : decode cX5_refusalOfDisowning 23 = .ok (.iconst 1, 1) := by decide +kernel
theorem dX5_refusalOfDisowning_24 : decode cX5_refusalOfDisowning 24 = .ok (.goto 4, 3) := by decide +kernel
theorem dX5_refusalOfDisowning_27 : decode cX5_refusalOfDisowning 27 = .ok (.iconst 0, 1) := by decide +kernel
theorem dX5_refusalOfDisowning_28 : decode cX5_refusalOfDisowning 28 = .ok (.invokestatic 54, 3) := by decide +kernel
theorem dX5_refusalOfDisowning_31 : decode cX5_refusalOfDisowning 31 = .ok (.ireturn, 1) := by decide +kernel
theorem dX5_refusalUnlessLockIs_0 : decode cX5_refusalUnlessLockIs 0 = .ok (.aload_n 0, 1) := by decide +kernel
theorem dX5_refusalUnlessLockIs_1 : decode cX5_refusalUnlessLockIs 1 = .ok (.iload_n 1, 1) := by decide +kernel
theorem dX5_refusalUnlessLockIs_2 : decode cX5_refusalUnlessLockIs 2 = .ok (.invokevirtual 58, 3) := by decide +kernel
theorem dX5_refusalUnlessLockIs_5 : decode cX5_refusalUnlessLockIs 5 = .ok (.ifCond .ne 5, 3) := by decide +kernel
theorem dX5_refusalUnlessLockIs_8 : decode cX5_refusalUnlessLockIs 8 = .ok (.iconst 2, 1) := by decide +kernel
theorem dX5_refusalUnlessLockIs_9 : decode cX5_refusalUnlessLockIs 9 = .ok (.ireturn, 1) := by decide +kernel
theorem dX5_refusalUnlessLockIs_10 : decode cX5_refusalUnlessLockIs 10 = .ok (.aload_n 0, 1) := by decide +kernel
theorem dX5_refusalUnlessLockIs_11 : decode cX5_refusalUnlessLockIs 11 = .ok (.getfield 62, 3) := by decide +kernel
theorem dX5_refusalUnlessLockIs_14 : decode cX5_refusalUnlessLockIs 14 = .ok (.iload_n 1, 1) := by decide +kernel
theorem dX5_refusalUnlessLockIs_15 : decode cX5_refusalUnlessLockIs 15 = .ok (.baload, 1) := by decide +kernel
theorem dX5_refusalUnlessLockIs_16 : decode cX5_refusalUnlessLockIs 16 = .ok (.iload_n 2, 1) := by decide +kernel
theorem dX5_refusalUnlessLockIs_17 : decode cX5_refusalUnlessLockIs 17 = .ok (.if_icmp .ne 7, 3) := by decide +kernel
theorem dX5_refusalUnlessLockIs_20 : decode cX5_refusalUnlessLockIs 20 = .ok (.iconst 1, 1) := by decide +kernel
theorem dX5_refusalUnlessLockIs_21 : decode cX5_refusalUnlessLockIs 21 = .ok (.goto 4, 3) := by decide +kernel
theorem dX5_refusalUnlessLockIs_24 : decode cX5_refusalUnlessLockIs 24 = .ok (.iconst 0, 1) := by decide +kernel
theorem dX5_refusalUnlessLockIs_25 : decode cX5_refusalUnlessLockIs 25 = .ok (.invokestatic 54, 3) := by decide +kernel
theorem dX5_refusalUnlessLockIs_28 : decode cX5_refusalUnlessLockIs 28 = .ok (.ireturn, 1) := by decide +kernel
theorem dX5_refusalOfNaming_0 : decode cX5_refusalOfNaming 0 = .ok (.iload_n 1, 1) := by decide +kernel
theorem dX5_refusalOfNaming_1 : decode cX5_refusalOfNaming 1 = .ok (.invokestatic 89, 3) := by decide +kernel
theorem dX5_refusalOfNaming_4 : decode cX5_refusalOfNaming 4 = .ok (.ifCond .ne 5, 3) := by decide +kernel
theorem dX5_refusalOfNaming_7 : decode cX5_refusalOfNaming 7 = .ok (.iconst 3, 1) := by decide +kernel
theorem dX5_refusalOfNaming_8 : decode cX5_refusalOfNaming 8 = .ok (.ireturn, 1) := by decide +kernel
theorem dX5_refusalOfNaming_9 : decode cX5_refusalOfNaming 9 = .ok (.aload_n 0, 1) := by decide +kernel
theorem dX5_refusalOfNaming_10 : decode cX5_refusalOfNaming 10 = .ok (.iload_n 2, 1) := by decide +kernel
theorem dX5_refusalOfNaming_11 : decode cX5_refusalOfNaming 11 = .ok (.invokevirtual 58, 3) := by decide +kernel
theorem dX5_refusalOfNaming_14 : decode cX5_refusalOfNaming 14 = .ok (.ifCond .eq 7, 3) := by decide +kernel
theorem dX5_refusalOfNaming_17 : decode cX5_refusalOfNaming 17 = .ok (.iconst 0, 1) := by decide +kernel
theorem dX5_refusalOfNaming_18 : decode cX5_refusalOfNaming 18 = .ok (.goto 4, 3) := by decide +kernel
theorem dX5_refusalOfNaming_21 : decode cX5_refusalOfNaming 21 = .ok (.iconst 2, 1) := by decide +kernel
theorem dX5_refusalOfNaming_22 : decode cX5_refusalOfNaming 22 = .ok (.ireturn, 1) := by decide +kernel
theorem dX6_init_0 : decode cX6_init 0 = .ok (.aload_n 0, 1) := by decide +kernel
theorem dX6_init_1 : decode cX6_init 1 = .ok (.invokespecial 3, 3) := by decide +kernel
theorem dX6_init_4 : decode cX6_init 4 = .ok (.aload_n 0, 1) := by decide +kernel
theorem dX6_init_5 : decode cX6_init 5 = .ok (.bipush 8, 2) := by decide +kernel
theorem dX6_init_7 : decode cX6_init 7 = .ok (.newarray .int, 2) := by decide +kernel
theorem dX6_init_9 : decode cX6_init 9 = .ok (.putfield 9, 3) := by decide +kernel
theorem dX6_init_12 : decode cX6_init 12 = .ok (.aload_n 0, 1) := by decide +kernel
theorem dX6_init_13 : decode cX6_init 13 = .ok (.bipush 8, 2) := by decide +kernel
theorem dX6_init_15 : decode cX6_init 15 = .ok (.newarray .int, 2) := by decide +kernel
theorem dX6_init_17 : decode cX6_init 17 = .ok (.putfield 15, 3) := by decide +kernel
theorem dX6_init_20 : decode cX6_init 20 = .ok (.aload_n 0, 1) := by decide +kernel
theorem dX6_init_21 : decode cX6_init 21 = .ok (.bipush 8, 2) := by decide +kernel
theorem dX6_init_23 : decode cX6_init 23 = .ok (.newarray .boolean, 2) := by decide +kernel
theorem dX6_init_25 : decode cX6_init 25 = .ok (.putfield 18, 3) := by decide +kernel
theorem dX6_init_28 : decode cX6_init 28 = .ok (.aload_n 0, 1) := by decide +kernel
theorem dX6_init_29 : decode cX6_init 29 = .ok (.bipush 8, 2) := by decide +kernel
theorem dX6_init_31 : decode cX6_init 31 = .ok (.newarray .int, 2) := by decide +kernel
theorem dX6_init_33 : decode cX6_init 33 = .ok (.putfield 22, 3) := by decide +kernel
theorem dX6_init_36 : decode cX6_init 36 = .ok (.aload_n 0, 1) := by decide +kernel
theorem dX6_init_37 : decode cX6_init 37 = .ok (.bipush 24, 2) := by decide +kernel
theorem dX6_init_39 : decode cX6_init 39 = .ok (.newarray .int, 2) := by decide +kernel
theorem dX6_init_41 : decode cX6_init 41 = .ok (.putfield 25, 3) := by decide +kernel
theorem dX6_init_44 : decode cX6_init 44 = .ok (.aload_n 0, 1) := by decide +kernel
theorem dX6_init_45 : decode cX6_init 45 = .ok (.bipush 24, 2) := by decide +kernel
theorem dX6_init_47 : decode cX6_init 47 = .ok (.newarray .int, 2) := by decide +kernel
theorem dX6_init_49 : decode cX6_init 49 = .ok (.putfield 28, 3) := by decide +kernel
theorem dX6_init_52 : decode cX6_init 52 = .ok (.aload_n 0, 1) := by decide +kernel
theorem dX6_init_53 : decode cX6_init 53 = .ok (.bipush 24, 2) := by decide +kernel
theorem dX6_init_55 : decode cX6_init 55 = .ok (.newarray .int, 2) := by decide +kernel
theorem dX6_init_57 : decode cX6_init 57 = .ok (.putfield 31, 3) := by decide +kernel
theorem dX6_init_60 : decode cX6_init 60 = .ok (.aload_n 0, 1) := by decide +kernel
theorem dX6_init_61 : decode cX6_init 61 = .ok (.bipush 24, 2) := by decide +kernel
theorem dX6_init_63 : decode cX6_init 63 = .ok (.newarray .int, 2) := by decide +kernel
theorem dX6_init_65 : decode cX6_init 65 = .ok (.putfield 34, 3) := by decide +kernel
theorem dX6_init_68 : decode cX6_init 68 = .ok (.iconst 0, 1) := by decide +kernel
theorem dX6_init_69 : decode cX6_init 69 = .ok (.istore_n 1, 1) := by decide +kernel
theorem dX6_init_70 : decode cX6_init 70 = .ok (.iload_n 1, 1) := by decide +kernel
theorem dX6_init_71 : decode cX6_init 71 = .ok (.bipush 8, 2) := by decide +kernel
theorem dX6_init_73 : decode cX6_init 73 = .ok (.if_icmp .ge 16, 3) := by decide +kernel
theorem dX6_init_76 : decode cX6_init 76 = .ok (.aload_n 0, 1) := by decide +kernel
theorem dX6_init_77 : decode cX6_init 77 = .ok (.getfield 22, 3) := by decide +kernel
theorem dX6_init_80 : decode cX6_init 80 = .ok (.iload_n 1, 1) := by decide +kernel
theorem dX6_init_81 : decode cX6_init 81 = .ok (.iconst (-1), 1) := by decide +kernel
theorem dX6_init_82 : decode cX6_init 82 = .ok (.iastore, 1) := by decide +kernel
theorem dX6_init_83 : decode cX6_init 83 = .ok (.iinc 1 1, 3) := by decide +kernel
theorem dX6_init_86 : decode cX6_init 86 = .ok (.goto (-16), 3) := by decide +kernel
theorem dX6_init_89 : decode cX6_init 89 = .ok (.return_, 1) := by decide +kernel
theorem dX6_copyFrom_0 : decode cX6_copyFrom 0 = .ok (.iconst 0, 1) := by decide +kernel
theorem dX6_copyFrom_1 : decode cX6_copyFrom 1 = .ok (.istore_n 2, 1) := by decide +kernel
theorem dX6_copyFrom_2 : decode cX6_copyFrom 2 = .ok (.iload_n 2, 1) := by decide +kernel
theorem dX6_copyFrom_3 : decode cX6_copyFrom 3 = .ok (.bipush 8, 2) := by decide +kernel
theorem dX6_copyFrom_5 : decode cX6_copyFrom 5 = .ok (.if_icmp .ge 45, 3) := by decide +kernel
theorem dX6_copyFrom_8 : decode cX6_copyFrom 8 = .ok (.aload_n 0, 1) := by decide +kernel
theorem dX6_copyFrom_9 : decode cX6_copyFrom 9 = .ok (.getfield 9, 3) := by decide +kernel
theorem dX6_copyFrom_12 : decode cX6_copyFrom 12 = .ok (.iload_n 2, 1) := by decide +kernel
theorem dX6_copyFrom_13 : decode cX6_copyFrom 13 = .ok (.aload_n 1, 1) := by decide +kernel
theorem dX6_copyFrom_14 : decode cX6_copyFrom 14 = .ok (.getfield 9, 3) := by decide +kernel
theorem dX6_copyFrom_17 : decode cX6_copyFrom 17 = .ok (.iload_n 2, 1) := by decide +kernel
theorem dX6_copyFrom_18 : decode cX6_copyFrom 18 = .ok (.iaload, 1) := by decide +kernel
theorem dX6_copyFrom_19 : decode cX6_copyFrom 19 = .ok (.iastore, 1) := by decide +kernel
theorem dX6_copyFrom_20 : decode cX6_copyFrom 20 = .ok (.aload_n 0, 1) := by decide +kernel
theorem dX6_copyFrom_21 : decode cX6_copyFrom 21 = .ok (.getfield 15, 3) := by decide +kernel
theorem dX6_copyFrom_24 : decode cX6_copyFrom 24 = .ok (.iload_n 2, 1) := by decide +kernel
theorem dX6_copyFrom_25 : decode cX6_copyFrom 25 = .ok (.aload_n 1, 1) := by decide +kernel
theorem dX6_copyFrom_26 : decode cX6_copyFrom 26 = .ok (.getfield 15, 3) := by decide +kernel
theorem dX6_copyFrom_29 : decode cX6_copyFrom 29 = .ok (.iload_n 2, 1) := by decide +kernel
theorem dX6_copyFrom_30 : decode cX6_copyFrom 30 = .ok (.iaload, 1) := by decide +kernel
theorem dX6_copyFrom_31 : decode cX6_copyFrom 31 = .ok (.iastore, 1) := by decide +kernel
theorem dX6_copyFrom_32 : decode cX6_copyFrom 32 = .ok (.aload_n 0, 1) := by decide +kernel
theorem dX6_copyFrom_33 : decode cX6_copyFrom 33 = .ok (.getfield 18, 3) := by decide +kernel
theorem dX6_copyFrom_36 : decode cX6_copyFrom 36 = .ok (.iload_n 2, 1) := by decide +kernel
theorem dX6_copyFrom_37 : decode cX6_copyFrom 37 = .ok (.aload_n 1, 1) := by decide +kernel
theorem dX6_copyFrom_38 : decode cX6_copyFrom 38 = .ok (.getfield 18, 3) := by decide +kernel
theorem dX6_copyFrom_41 : decode cX6_copyFrom 41 = .ok (.iload_n 2, 1) := by decide +kernel
theorem dX6_copyFrom_42 : decode cX6_copyFrom 42 = .ok (.baload, 1) := by decide +kernel
theorem dX6_copyFrom_43 : decode cX6_copyFrom 43 = .ok (.bastore, 1) := by decide +kernel
theorem dX6_copyFrom_44 : decode cX6_copyFrom 44 = .ok (.iinc 2 1, 3) := by decide +kernel
theorem dX6_copyFrom_47 : decode cX6_copyFrom 47 = .ok (.goto (-45), 3) := by decide +kernel
theorem dX6_copyFrom_50 : decode cX6_copyFrom 50 = .ok (.iconst 0, 1) := by decide +kernel
theorem dX6_copyFrom_51 : decode cX6_copyFrom 51 = .ok (.istore_n 2, 1) := by decide +kernel
theorem dX6_copyFrom_52 : decode cX6_copyFrom 52 = .ok (.iload_n 2, 1) := by decide +kernel
theorem dX6_copyFrom_53 : decode cX6_copyFrom 53 = .ok (.bipush 8, 2) := by decide +kernel
theorem dX6_copyFrom_55 : decode cX6_copyFrom 55 = .ok (.if_icmp .ge 21, 3) := by decide +kernel
theorem dX6_copyFrom_58 : decode cX6_copyFrom 58 = .ok (.aload_n 0, 1) := by decide +kernel
theorem dX6_copyFrom_59 : decode cX6_copyFrom 59 = .ok (.getfield 22, 3) := by decide +kernel
theorem dX6_copyFrom_62 : decode cX6_copyFrom 62 = .ok (.iload_n 2, 1) := by decide +kernel
theorem dX6_copyFrom_63 : decode cX6_copyFrom 63 = .ok (.aload_n 1, 1) := by decide +kernel
theorem dX6_copyFrom_64 : decode cX6_copyFrom 64 = .ok (.getfield 22, 3) := by decide +kernel
theorem dX6_copyFrom_67 : decode cX6_copyFrom 67 = .ok (.iload_n 2, 1) := by decide +kernel
theorem dX6_copyFrom_68 : decode cX6_copyFrom 68 = .ok (.iaload, 1) := by decide +kernel
theorem dX6_copyFrom_69 : decode cX6_copyFrom 69 = .ok (.iastore, 1) := by decide +kernel
theorem dX6_copyFrom_70 : decode cX6_copyFrom 70 = .ok (.iinc 2 1, 3) := by decide +kernel
theorem dX6_copyFrom_73 : decode cX6_copyFrom 73 = .ok (.goto (-21), 3) := by decide +kernel
theorem dX6_copyFrom_76 : decode cX6_copyFrom 76 = .ok (.iconst 0, 1) := by decide +kernel
theorem dX6_copyFrom_77 : decode cX6_copyFrom 77 = .ok (.istore_n 2, 1) := by decide +kernel
theorem dX6_copyFrom_78 : decode cX6_copyFrom 78 = .ok (.iload_n 2, 1) := by decide +kernel
theorem dX6_copyFrom_79 : decode cX6_copyFrom 79 = .ok (.bipush 24, 2) := by decide +kernel
theorem dX6_copyFrom_81 : decode cX6_copyFrom 81 = .ok (.if_icmp .ge 16, 3) := by decide +kernel
theorem dX6_copyFrom_84 : decode cX6_copyFrom 84 = .ok (.aload_n 0, 1) := by decide +kernel
theorem dX6_copyFrom_85 : decode cX6_copyFrom 85 = .ok (.iload_n 2, 1) := by decide +kernel
theorem dX6_copyFrom_86 : decode cX6_copyFrom 86 = .ok (.aload_n 1, 1) := by decide +kernel
theorem dX6_copyFrom_87 : decode cX6_copyFrom 87 = .ok (.iload_n 2, 1) := by decide +kernel
theorem dX6_copyFrom_88 : decode cX6_copyFrom 88 = .ok (.invokevirtual 37, 3) := by decide +kernel
theorem dX6_copyFrom_91 : decode cX6_copyFrom 91 = .ok (.iinc 2 1, 3) := by decide +kernel
theorem dX6_copyFrom_94 : decode cX6_copyFrom 94 = .ok (.goto (-16), 3) := by decide +kernel
theorem dX6_copyFrom_97 : decode cX6_copyFrom 97 = .ok (.aload_n 0, 1) := by decide +kernel
theorem dX6_copyFrom_98 : decode cX6_copyFrom 98 = .ok (.aload_n 1, 1) := by decide +kernel
theorem dX6_copyFrom_99 : decode cX6_copyFrom 99 = .ok (.getfield 41, 3) := by decide +kernel
theorem dX6_copyFrom_102 : decode cX6_copyFrom 102 = .ok (.putfield 41, 3) := by decide +kernel
theorem dX6_copyFrom_105 : decode cX6_copyFrom 105 = .ok (.aload_n 0, 1) := by decide +kernel
theorem dX6_copyFrom_106 : decode cX6_copyFrom 106 = .ok (.aload_n 1, 1) := by decide +kernel
theorem dX6_copyFrom_107 : decode cX6_copyFrom 107 = .ok (.getfield 45, 3) := by decide +kernel
theorem dX6_copyFrom_110 : decode cX6_copyFrom 110 = .ok (.putfield 45, 3) := by decide +kernel
theorem dX6_copyFrom_113 : decode cX6_copyFrom 113 = .ok (.aload_n 0, 1) := by decide +kernel
theorem dX6_copyFrom_114 : decode cX6_copyFrom 114 = .ok (.aload_n 1, 1) := by decide +kernel
theorem dX6_copyFrom_115 : decode cX6_copyFrom 115 = .ok (.getfield 48, 3) := by decide +kernel
theorem dX6_copyFrom_118 : decode cX6_copyFrom 118 = .ok (.putfield 48, 3) := by decide +kernel
theorem dX6_copyFrom_121 : decode cX6_copyFrom 121 = .ok (.aload_n 0, 1) := by decide +kernel
theorem dX6_copyFrom_122 : decode cX6_copyFrom 122 = .ok (.aload_n 1, 1) := by decide +kernel
theorem dX6_copyFrom_123 : decode cX6_copyFrom 123 = .ok (.getfield 51, 3) := by decide +kernel
theorem dX6_copyFrom_126 : decode cX6_copyFrom 126 = .ok (.putfield 51, 3) := by decide +kernel
theorem dX6_copyFrom_129 : decode cX6_copyFrom 129 = .ok (.aload_n 0, 1) := by decide +kernel
theorem dX6_copyFrom_130 : decode cX6_copyFrom 130 = .ok (.aload_n 1, 1) := by decide +kernel
theorem dX6_copyFrom_131 : decode cX6_copyFrom 131 = .ok (.getfield 54, 3) := by decide +kernel
theorem dX6_copyFrom_134 : decode cX6_copyFrom 134 = .ok (.putfield 54, 3) := by decide +kernel
theorem dX6_copyFrom_137 : decode cX6_copyFrom 137 = .ok (.aload_n 0, 1) := by decide +kernel
theorem dX6_copyFrom_138 : decode cX6_copyFrom 138 = .ok (.aload_n 1, 1) := by decide +kernel
theorem dX6_copyFrom_139 : decode cX6_copyFrom 139 = .ok (.getfield 57, 3) := by decide +kernel
theorem dX6_copyFrom_142 : decode cX6_copyFrom 142 = .ok (.putfield 57, 3) := by decide +kernel
theorem dX6_copyFrom_145 : decode cX6_copyFrom 145 = .ok (.aload_n 0, 1) := by decide +kernel
theorem dX6_copyFrom_146 : decode cX6_copyFrom 146 = .ok (.aload_n 1, 1) := by decide +kernel
theorem dX6_copyFrom_147 : decode cX6_copyFrom 147 = .ok (.getfield 61, 3) := by decide +kernel
theorem dX6_copyFrom_150 : decode cX6_copyFrom 150 = .ok (.putfield 61, 3) := by decide +kernel
theorem dX6_copyFrom_153 : decode cX6_copyFrom 153 = .ok (.return_, 1) := by decide +kernel
theorem dX6_copySlot_0 : decode cX6_copySlot 0 = .ok (.aload_n 0, 1) := by decide +kernel
theorem dX6_copySlot_1 : decode cX6_copySlot 1 = .ok (.getfield 25, 3) := by decide +kernel
theorem dX6_copySlot_4 : decode cX6_copySlot 4 = .ok (.iload_n 1, 1) := by decide +kernel
theorem dX6_copySlot_5 : decode cX6_copySlot 5 = .ok (.aload_n 2, 1) := by decide +kernel
theorem dX6_copySlot_6 : decode cX6_copySlot 6 = .ok (.getfield 25, 3) := by decide +kernel
theorem dX6_copySlot_9 : decode cX6_copySlot 9 = .ok (.iload_n 3, 1) := by decide +kernel
theorem dX6_copySlot_10 : decode cX6_copySlot 10 = .ok (.iaload, 1) := by decide +kernel
theorem dX6_copySlot_11 : decode cX6_copySlot 11 = .ok (.iastore, 1) := by decide +kernel
theorem dX6_copySlot_12 : decode cX6_copySlot 12 = .ok (.aload_n 0, 1) := by decide +kernel
theorem dX6_copySlot_13 : decode cX6_copySlot 13 = .ok (.getfield 28, 3) := by decide +kernel
theorem dX6_copySlot_16 : decode cX6_copySlot 16 = .ok (.iload_n 1, 1) := by decide +kernel
theorem dX6_copySlot_17 : decode cX6_copySlot 17 = .ok (.aload_n 2, 1) := by decide +kernel
theorem dX6_copySlot_18 : decode cX6_copySlot 18 = .ok (.getfield 28, 3) := by decide +kernel
theorem dX6_copySlot_21 : decode cX6_copySlot 21 = .ok (.iload_n 3, 1) := by decide +kernel
theorem dX6_copySlot_22 : decode cX6_copySlot 22 = .ok (.iaload, 1) := by decide +kernel
theorem dX6_copySlot_23 : decode cX6_copySlot 23 = .ok (.iastore, 1) := by decide +kernel
theorem dX6_copySlot_24 : decode cX6_copySlot 24 = .ok (.aload_n 0, 1) := by decide +kernel
theorem dX6_copySlot_25 : decode cX6_copySlot 25 = .ok (.getfield 31, 3) := by decide +kernel
theorem dX6_copySlot_28 : decode cX6_copySlot 28 = .ok (.iload_n 1, 1) := by decide +kernel
theorem dX6_copySlot_29 : decode cX6_copySlot 29 = .ok (.aload_n 2, 1) := by decide +kernel
theorem dX6_copySlot_30 : decode cX6_copySlot 30 = .ok (.getfield 31, 3) := by decide +kernel
theorem dX6_copySlot_33 : decode cX6_copySlot 33 = .ok (.iload_n 3, 1) := by decide +kernel
theorem dX6_copySlot_34 : decode cX6_copySlot 34 = .ok (.iaload, 1) := by decide +kernel
theorem dX6_copySlot_35 : decode cX6_copySlot 35 = .ok (.iastore, 1) := by decide +kernel
theorem dX6_copySlot_36 : decode cX6_copySlot 36 = .ok (.aload_n 0, 1) := by decide +kernel
theorem dX6_copySlot_37 : decode cX6_copySlot 37 = .ok (.getfield 34, 3) := by decide +kernel
theorem dX6_copySlot_40 : decode cX6_copySlot 40 = .ok (.iload_n 1, 1) := by decide +kernel
theorem dX6_copySlot_41 : decode cX6_copySlot 41 = .ok (.aload_n 2, 1) := by decide +kernel
theorem dX6_copySlot_42 : decode cX6_copySlot 42 = .ok (.getfield 34, 3) := by decide +kernel
theorem dX6_copySlot_45 : decode cX6_copySlot 45 = .ok (.iload_n 3, 1) := by decide +kernel
theorem dX6_copySlot_46 : decode cX6_copySlot 46 = .ok (.iaload, 1) := by decide +kernel
theorem dX6_copySlot_47 : decode cX6_copySlot 47 = .ok (.iastore, 1) := by decide +kernel
theorem dX6_copySlot_48 : decode cX6_copySlot 48 = .ok (.return_, 1) := by decide +kernel
theorem dX6_isBoxName_0 : decode cX6_isBoxName 0 = .ok (.iload_n 0, 1) := by decide +kernel
theorem dX6_isBoxName_1 : decode cX6_isBoxName 1 = .ok (.bipush 97, 2) := by decide +kernel
theorem dX6_isBoxName_3 : decode cX6_isBoxName 3 = .ok (.if_icmp .lt 13, 3) := by decide +kernel
theorem dX6_isBoxName_6 : decode cX6_isBoxName 6 = .ok (.iload_n 0, 1) := by decide +kernel
theorem dX6_isBoxName_7 : decode cX6_isBoxName 7 = .ok (.bipush 105, 2) := by decide +kernel
theorem dX6_isBoxName_9 : decode cX6_isBoxName 9 = .ok (.if_icmp .ge 7, 3) := by decide +kernel
theorem dX6_isBoxName_12 : decode cX6_isBoxName 12 = .ok (.iconst 1, 1) := by decide +kernel
theorem dX6_isBoxName_13 : decode cX6_isBoxName 13 = .ok (.goto 4, 3) := by decide +kernel
theorem dX6_isBoxName_16 : decode cX6_isBoxName 16 = .ok (.iconst 0, 1) := by decide +kernel
theorem dX6_isBoxName_17 : decode cX6_isBoxName 17 = .ok (.ireturn, 1) := by decide +kernel
theorem dX6_hasRow_0 : decode cX6_hasRow 0 = .ok (.iload_n 1, 1) := by decide +kernel
theorem dX6_hasRow_1 : decode cX6_hasRow 1 = .ok (.ifCond .lt 15, 3) := by decide +kernel
theorem dX6_hasRow_4 : decode cX6_hasRow 4 = .ok (.iload_n 1, 1) := by decide +kernel
theorem dX6_hasRow_5 : decode cX6_hasRow 5 = .ok (.aload_n 0, 1) := by decide +kernel
theorem dX6_hasRow_6 : decode cX6_hasRow 6 = .ok (.getfield 41, 3) := by decide +kernel
theorem dX6_hasRow_9 : decode cX6_hasRow 9 = .ok (.if_icmp .ge 7, 3) := by decide +kernel
theorem dX6_hasRow_12 : decode cX6_hasRow 12 = .ok (.iconst 1, 1) := by decide +kernel
theorem dX6_hasRow_13 : decode cX6_hasRow 13 = .ok (.goto 4, 3) := by decide +kernel
theorem dX6_hasRow_16 : decode cX6_hasRow 16 = .ok (.iconst 0, 1) := by decide +kernel
theorem dX6_hasRow_17 : decode cX6_hasRow 17 = .ok (.ireturn, 1) := by decide +kernel
theorem dX6_slotOf_0 : decode cX6_slotOf 0 = .ok (.iconst 0, 1) := by decide +kernel
theorem dX6_slotOf_1 : decode cX6_slotOf 1 = .ok (.istore_n 2, 1) := by decide +kernel
theorem dX6_slotOf_2 : decode cX6_slotOf 2 = .ok (.iload_n 2, 1) := by decide +kernel
theorem dX6_slotOf_3 : decode cX6_slotOf 3 = .ok (.aload_n 0, 1) := by decide +kernel
theorem dX6_slotOf_4 : decode cX6_slotOf 4 = .ok (.getfield 45, 3) := by decide +kernel
theorem dX6_slotOf_7 : decode cX6_slotOf 7 = .ok (.if_icmp .ge 21, 3) := by decide +kernel
theorem dX6_slotOf_10 : decode cX6_slotOf 10 = .ok (.aload_n 0, 1) := by decide +kernel
theorem dX6_slotOf_11 : decode cX6_slotOf 11 = .ok (.getfield 25, 3) := by decide +kernel
theorem dX6_slotOf_14 : decode cX6_slotOf 14 = .ok (.iload_n 2, 1) := by decide +kernel
theorem dX6_slotOf_15 : decode cX6_slotOf 15 = .ok (.iaload, 1) := by decide +kernel
theorem dX6_slotOf_16 : decode cX6_slotOf 16 = .ok (.iload_n 1, 1) := by decide +kernel
theorem dX6_slotOf_17 : decode cX6_slotOf 17 = .ok (.if_icmp .ne 5, 3) := by decide +kernel
theorem dX6_slotOf_20 : decode cX6_slotOf 20 = .ok (.iload_n 2, 1) := by decide +kernel
theorem dX6_slotOf_21 : decode cX6_slotOf 21 = .ok (.ireturn, 1) := by decide +kernel
theorem dX6_slotOf_22 : decode cX6_slotOf 22 = .ok (.iinc 2 1, 3) := by decide +kernel
theorem dX6_slotOf_25 : decode cX6_slotOf 25 = .ok (.goto (-23), 3) := by decide +kernel
theorem dX6_slotOf_28 : decode cX6_slotOf 28 = .ok (.iconst (-1), 1) := by decide +kernel
theorem dX6_slotOf_29 : decode cX6_slotOf 29 = .ok (.ireturn, 1) := by decide +kernel
theorem dX6_echoesIn_0 : decode cX6_echoesIn 0 = .ok (.iconst 0, 1) := by decide +kernel
theorem dX6_echoesIn_1 : decode cX6_echoesIn 1 = .ok (.istore_n 2, 1) := by decide +kernel
theorem dX6_echoesIn_2 : decode cX6_echoesIn 2 = .ok (.iconst 0, 1) := by decide +kernel
theorem dX6_echoesIn_3 : decode cX6_echoesIn 3 = .ok (.istore_n 3, 1) := by decide +kernel
theorem dX6_echoesIn_4 : decode cX6_echoesIn 4 = .ok (.iload_n 3, 1) := by decide +kernel
theorem dX6_echoesIn_5 : decode cX6_echoesIn 5 = .ok (.aload_n 0, 1) := by decide +kernel
theorem dX6_echoesIn_6 : decode cX6_echoesIn 6 = .ok (.getfield 45, 3) := by decide +kernel
theorem dX6_echoesIn_9 : decode cX6_echoesIn 9 = .ok (.if_icmp .ge 22, 3) := by decide +kernel
theorem dX6_echoesIn_12 : decode cX6_echoesIn 12 = .ok (.aload_n 0, 1) := by decide +kernel
theorem dX6_echoesIn_13 : decode cX6_echoesIn 13 = .ok (.getfield 28, 3) := by decide +kernel
theorem dX6_echoesIn_16 : decode cX6_echoesIn 16 = .ok (.iload_n 3, 1) := by decide +kernel
theorem dX6_echoesIn_17 : decode cX6_echoesIn 17 = .ok (.iaload, 1) := by decide +kernel
theorem dX6_echoesIn_18 : decode cX6_echoesIn 18 = .ok (.iload_n 1, 1) := by decide +kernel
theorem dX6_echoesIn_19 : decode cX6_echoesIn 19 = .ok (.if_icmp .ne 6, 3) := by decide +kernel
theorem dX6_echoesIn_22 : decode cX6_echoesIn 22 = .ok (.iinc 2 1, 3) := by decide +kernel
theorem dX6_echoesIn_25 : decode cX6_echoesIn 25 = .ok (.iinc 3 1, 3) := by decide +kernel
theorem dX6_echoesIn_28 : decode cX6_echoesIn 28 = .ok (.goto (-24), 3) := by decide +kernel
theorem dX6_echoesIn_31 : decode cX6_echoesIn 31 = .ok (.iload_n 2, 1) := by decide +kernel
theorem dX6_echoesIn_32 : decode cX6_echoesIn 32 = .ok (.ireturn, 1) := by decide +kernel
theorem dX6_echoesBetween_0 : decode cX6_echoesBetween 0 = .ok (.iconst 0, 1) := by decide +kernel
theorem dX6_echoesBetween_1 : decode cX6_echoesBetween 1 = .ok (.istore_n 3, 1) := by decide +kernel
theorem dX6_echoesBetween_2 : decode cX6_echoesBetween 2 = .ok (.iload_n 1, 1) := by decide +kernel
theorem dX6_echoesBetween_3 : decode cX6_echoesBetween 3 = .ok (.istore 4, 2) := by decide +kernel
theorem dX6_echoesBetween_5 : decode cX6_echoesBetween 5 = .ok (.iload 4, 2) := by decide +kernel
theorem dX6_echoesBetween_7 : decode cX6_echoesBetween 7 = .ok (.iload_n 2, 1) := by decide +kernel
theorem dX6_echoesBetween_8 : decode cX6_echoesBetween 8 = .ok (.if_icmp .gt 18, 3) := by decide +kernel
theorem dX6_echoesBetween_11 : decode cX6_echoesBetween 11 = .ok (.iload_n 3, 1) := by decide +kernel
theorem dX6_echoesBetween_12 : decode cX6_echoesBetween 12 = .ok (.aload_n 0, 1) := by decide +kernel
theorem dX6_echoesBetween_13 : decode cX6_echoesBetween 13 = .ok (.iload 4, 2) := by decide +kernel
theorem dX6_echoesBetween_15 : decode cX6_echoesBetween 15 = .ok (.invokevirtual 64, 3) := by decide +kernel
theorem dX6_echoesBetween_18 : decode cX6_echoesBetween 18 = .ok (.iadd, 1) := by decide +kernel
theorem dX6_echoesBetween_19 : decode cX6_echoesBetween 19 = .ok (.istore_n 3, 1) := by decide +kernel
theorem dX6_echoesBetween_20 : decode cX6_echoesBetween 20 = .ok (.iinc 4 1, 3) := by decide +kernel
theorem dX6_echoesBetween_23 : decode cX6_echoesBetween 23 = .ok (.goto (-18), 3) := by decide +kernel
theorem dX6_echoesBetween_26 : decode cX6_echoesBetween 26 = .ok (.iload_n 3, 1) := by decide +kernel
theorem dX6_echoesBetween_27 : decode cX6_echoesBetween 27 = .ok (.ireturn, 1) := by decide +kernel
theorem dX6_emptySeatsIn_0 : decode cX6_emptySeatsIn 0 = .ok (.aload_n 0, 1) := by decide +kernel
theorem dX6_emptySeatsIn_1 : decode cX6_emptySeatsIn 1 = .ok (.getfield 9, 3) := by decide +kernel
theorem dX6_emptySeatsIn_4 : decode cX6_emptySeatsIn 4 = .ok (.iload_n 1, 1) := by decide +kernel
theorem dX6_emptySeatsIn_5 : decode cX6_emptySeatsIn 5 = .ok (.iaload, 1) := by decide +kernel
theorem dX6_emptySeatsIn_6 : decode cX6_emptySeatsIn 6 = .ok (.aload_n 0, 1) := by decide +kernel
theorem dX6_emptySeatsIn_7 : decode cX6_emptySeatsIn 7 = .ok (.getfield 15, 3) := by decide +kernel
theorem dX6_emptySeatsIn_10 : decode cX6_emptySeatsIn 10 = .ok (.iload_n 1, 1) := by decide +kernel
theorem dX6_emptySeatsIn_11 : decode cX6_emptySeatsIn 11 = .ok (.iaload, 1) := by decide +kernel
theorem dX6_emptySeatsIn_12 : decode cX6_emptySeatsIn 12 = .ok (.iadd, 1) := by decide +kernel
theorem dX6_emptySeatsIn_13 : decode cX6_emptySeatsIn 13 = .ok (.aload_n 0, 1) := by decide +kernel
theorem dX6_emptySeatsIn_14 : decode cX6_emptySeatsIn 14 = .ok (.iload_n 1, 1) := by decide +kernel
theorem dX6_emptySeatsIn_15 : decode cX6_emptySeatsIn 15 = .ok (.invokevirtual 64, 3) := by decide +kernel
theorem dX6_emptySeatsIn_18 : decode cX6_emptySeatsIn 18 = .ok (.isub, 1) := by decide +kernel
theorem dX6_emptySeatsIn_19 : decode cX6_emptySeatsIn 19 = .ok (.ireturn, 1) := by decide +kernel
theorem dX6_overfull_0 : decode cX6_overfull 0 = .ok (.aload_n 0, 1) := by decide +kernel
theorem dX6_overfull_1 : decode cX6_overfull 1 = .ok (.iload_n 1, 1) := by decide +kernel
theorem dX6_overfull_2 : decode cX6_overfull 2 = .ok (.invokevirtual 64, 3) := by decide +kernel
theorem dX6_overfull_5 : decode cX6_overfull 5 = .ok (.aload_n 0, 1) := by decide +kernel
theorem dX6_overfull_6 : decode cX6_overfull 6 = .ok (.getfield 9, 3) := by decide +kernel
theorem dX6_overfull_9 : decode cX6_overfull 9 = .ok (.iload_n 1, 1) := by decide +kernel
theorem dX6_overfull_10 : decode cX6_overfull 10 = .ok (.iaload, 1) := by decide +kernel
theorem dX6_overfull_11 : decode cX6_overfull 11 = .ok (.if_icmp .le 7, 3) := by decide +kernel
theorem dX6_overfull_14 : decode cX6_overfull 14 = .ok (.iconst 1, 1) := by decide +kernel
theorem dX6_overfull_15 : decode cX6_overfull 15 = .ok (.goto 4, 3) := by decide +kernel
theorem dX6_overfull_18 : decode cX6_overfull 18 = .ok (.iconst 0, 1) := by decide +kernel
theorem dX6_overfull_19 : decode cX6_overfull 19 = .ok (.ireturn, 1) := by decide +kernel
theorem dX6_seatsSuffice_0 : decode cX6_seatsSuffice 0 = .ok (.iconst 0, 1) := by decide +kernel
theorem dX6_seatsSuffice_1 : decode cX6_seatsSuffice 1 = .ok (.istore_n 1, 1) := by decide +kernel
theorem dX6_seatsSuffice_2 : decode cX6_seatsSuffice 2 = .ok (.iload_n 1, 1) := by decide +kernel
theorem dX6_seatsSuffice_3 : decode cX6_seatsSuffice 3 = .ok (.aload_n 0, 1) := by decide +kernel
theorem dX6_seatsSuffice_4 : decode cX6_seatsSuffice 4 = .ok (.getfield 41, 3) := by decide +kernel
theorem dX6_seatsSuffice_7 : decode cX6_seatsSuffice 7 = .ok (.if_icmp .ge 19, 3) := by decide +kernel
theorem dX6_seatsSuffice_10 : decode cX6_seatsSuffice 10 = .ok (.aload_n 0, 1) := by decide +kernel
theorem dX6_seatsSuffice_11 : decode cX6_seatsSuffice 11 = .ok (.iload_n 1, 1) := by decide +kernel
theorem dX6_seatsSuffice_12 : decode cX6_seatsSuffice 12 = .ok (.invokevirtual 68, 3) := by decide +kernel
theorem dX6_seatsSuffice_15 : decode cX6_seatsSuffice 15 = .ok (.ifCond .ge 5, 3) := by decide +kernel
theorem dX6_seatsSuffice_18 : decode cX6_seatsSuffice 18 = .ok (.iconst 0, 1) := by decide +kernel
theorem dX6_seatsSuffice_19 : decode cX6_seatsSuffice 19 = .ok (.ireturn, 1) := by decide +kernel
theorem dX6_seatsSuffice_20 : decode cX6_seatsSuffice 20 = .ok (.iinc 1 1, 3) := by decide +kernel
theorem dX6_seatsSuffice_23 : decode cX6_seatsSuffice 23 = .ok (.goto (-21), 3) := by decide +kernel
theorem dX6_seatsSuffice_26 : decode cX6_seatsSuffice 26 = .ok (.iconst 1, 1) := by decide +kernel
theorem dX6_seatsSuffice_27 : decode cX6_seatsSuffice 27 = .ok (.ireturn, 1) := by decide +kernel
theorem dX6_lockedRows_0 : decode cX6_lockedRows 0 = .ok (.iconst 0, 1) := by decide +kernel
theorem dX6_lockedRows_1 : decode cX6_lockedRows 1 = .ok (.istore_n 1, 1) := by decide +kernel
theorem dX6_lockedRows_2 : decode cX6_lockedRows 2 = .ok (.iconst 0, 1) := by decide +kernel
theorem dX6_lockedRows_3 : decode cX6_lockedRows 3 = .ok (.istore_n 2, 1) := by decide +kernel
theorem dX6_lockedRows_4 : decode cX6_lockedRows 4 = .ok (.iload_n 2, 1) := by decide +kernel
theorem dX6_lockedRows_5 : decode cX6_lockedRows 5 = .ok (.aload_n 0, 1) := by decide +kernel
theorem dX6_lockedRows_6 : decode cX6_lockedRows 6 = .ok (.getfield 41, 3) := by decide +kernel
theorem dX6_lockedRows_9 : decode cX6_lockedRows 9 = .ok (.if_icmp .ge 21, 3) := by decide +kernel
theorem dX6_lockedRows_12 : decode cX6_lockedRows 12 = .ok (.aload_n 0, 1) := by decide +kernel
theorem dX6_lockedRows_13 : decode cX6_lockedRows 13 = .ok (.getfield 18, 3) := by decide +kernel
theorem dX6_lockedRows_16 : decode cX6_lockedRows 16 = .ok (.iload_n 2, 1) := by decide +kernel
theorem dX6_lockedRows_17 : decode cX6_lockedRows 17 = .ok (.baload, 1) := by decide +kernel
theorem dX6_lockedRows_18 : decode cX6_lockedRows 18 = .ok (.ifCond .eq 6, 3) := by decide +kernel
theorem dX6_lockedRows_21 : decode cX6_lockedRows 21 = .ok (.iinc 1 1, 3) := by decide +kernel
theorem dX6_lockedRows_24 : decode cX6_lockedRows 24 = .ok (.iinc 2 1, 3) := by decide +kernel
theorem dX6_lockedRows_27 : decode cX6_lockedRows 27 = .ok (.goto (-23), 3) := by decide +kernel
theorem dX6_lockedRows_30 : decode cX6_lockedRows 30 = .ok (.iload_n 1, 1) := by decide +kernel
theorem dX6_lockedRows_31 : decode cX6_lockedRows 31 = .ok (.ireturn, 1) := by decide +kernel
theorem dX6_boxesNaming_0 : decode cX6_boxesNaming 0 = .ok (.iconst 0, 1) := by decide +kernel
theorem dX6_boxesNaming_1 : decode cX6_boxesNaming 1 = .ok (.istore_n 2, 1) := by decide +kernel
theorem dX6_boxesNaming_2 : decode cX6_boxesNaming 2 = .ok (.iconst 0, 1) := by decide +kernel
theorem dX6_boxesNaming_3 : decode cX6_boxesNaming 3 = .ok (.istore_n 3, 1) := by decide +kernel
theorem dX6_boxesNaming_4 : decode cX6_boxesNaming 4 = .ok (.iload_n 3, 1) := by decide +kernel
theorem dX6_boxesNaming_5 : decode cX6_boxesNaming 5 = .ok (.bipush 8, 2) := by decide +kernel
theorem dX6_boxesNaming_7 : decode cX6_boxesNaming 7 = .ok (.if_icmp .ge 22, 3) := by decide +kernel
theorem dX6_boxesNaming_10 : decode cX6_boxesNaming 10 = .ok (.aload_n 0, 1) := by decide +kernel
theorem dX6_boxesNaming_11 : decode cX6_boxesNaming 11 = .ok (.getfield 22, 3) := by decide +kernel
theorem dX6_boxesNaming_14 : decode cX6_boxesNaming 14 = .ok (.iload_n 3, 1) := by decide +kernel
theorem dX6_boxesNaming_15 : decode cX6_boxesNaming 15 = .ok (.iaload, 1) := by decide +kernel
theorem dX6_boxesNaming_16 : decode cX6_boxesNaming 16 = .ok (.iload_n 1, 1) := by decide +kernel
theorem dX6_boxesNaming_17 : decode cX6_boxesNaming 17 = .ok (.if_icmp .ne 6, 3) := by decide +kernel
theorem dX6_boxesNaming_20 : decode cX6_boxesNaming 20 = .ok (.iinc 2 1, 3) := by decide +kernel
theorem dX6_boxesNaming_23 : decode cX6_boxesNaming 23 = .ok (.iinc 3 1, 3) := by decide +kernel
theorem dX6_boxesNaming_26 : decode cX6_boxesNaming 26 = .ok (.goto (-22), 3) := by decide +kernel
theorem dX6_boxesNaming_29 : decode cX6_boxesNaming 29 = .ok (.iload_n 2, 1) := by decide +kernel
theorem dX6_boxesNaming_30 : decode cX6_boxesNaming 30 = .ok (.ireturn, 1) := by decide +kernel
theorem dX6_loudnessOfAll_0 : decode cX6_loudnessOfAll 0 = .ok (.lconst 0, 1) := by decide +kernel
theorem dX6_loudnessOfAll_1 : decode cX6_loudnessOfAll 1 = .ok (.lstore_n 1, 1) := by decide +kernel
theorem dX6_loudnessOfAll_2 : decode cX6_loudnessOfAll 2 = .ok (.iconst 0, 1) := by decide +kernel
theorem dX6_loudnessOfAll_3 : decode cX6_loudnessOfAll 3 = .ok (.istore_n 3, 1) := by decide +kernel
theorem dX6_loudnessOfAll_4 : decode cX6_loudnessOfAll 4 = .ok (.iload_n 3, 1) := by decide +kernel
theorem dX6_loudnessOfAll_5 : decode cX6_loudnessOfAll 5 = .ok (.aload_n 0, 1) := by decide +kernel
theorem dX6_loudnessOfAll_6 : decode cX6_loudnessOfAll 6 = .ok (.getfield 45, 3) := by decide +kernel
theorem dX6_loudnessOfAll_9 : decode cX6_loudnessOfAll 9 = .ok (.if_icmp .ge 19, 3) := by decide +kernel
theorem dX6_loudnessOfAll_12 : decode cX6_loudnessOfAll 12 = .ok (.lload_n 1, 1) := by decide +kernel
theorem dX6_loudnessOfAll_13 : decode cX6_loudnessOfAll 13 = .ok (.aload_n 0, 1) := by decide +kernel
theorem dX6_loudnessOfAll_14 : decode cX6_loudnessOfAll 14 = .ok (.getfield 31, 3) := by decide +kernel
theorem dX6_loudnessOfAll_17 : decode cX6_loudnessOfAll 17 = .ok (.iload_n 3, 1) := by decide +kernel
theorem dX6_loudnessOfAll_18 : decode cX6_loudnessOfAll 18 = .ok (.iaload, 1) := by decide +kernel
theorem dX6_loudnessOfAll_19 : decode cX6_loudnessOfAll 19 = .ok (.i2l, 1) := by decide +kernel
theorem dX6_loudnessOfAll_20 : decode cX6_loudnessOfAll 20 = .ok (.ladd, 1) := by decide +kernel
theorem dX6_loudnessOfAll_21 : decode cX6_loudnessOfAll 21 = .ok (.lstore_n 1, 1) := by decide +kernel
theorem dX6_loudnessOfAll_22 : decode cX6_loudnessOfAll 22 = .ok (.iinc 3 1, 3) := by decide +kernel
theorem dX6_loudnessOfAll_25 : decode cX6_loudnessOfAll 25 = .ok (.goto (-21), 3) := by decide +kernel
theorem dX6_loudnessOfAll_28 : decode cX6_loudnessOfAll 28 = .ok (.lload_n 1, 1) := by decide +kernel
theorem dX6_loudnessOfAll_29 : decode cX6_loudnessOfAll 29 = .ok (.lreturn, 1) := by decide +kernel
theorem dX6_loudestSlot_0 : decode cX6_loudestSlot 0 = .ok (.iconst (-1), 1) := by decide +kernel
theorem dX6_loudestSlot_1 : decode cX6_loudestSlot 1 = .ok (.istore_n 3, 1) := by decide +kernel
theorem dX6_loudestSlot_2 : decode cX6_loudestSlot 2 = .ok (.iconst 0, 1) := by decide +kernel
theorem dX6_loudestSlot_3 : decode cX6_loudestSlot 3 = .ok (.istore 4, 2) := by decide +kernel
theorem dX6_loudestSlot_5 : decode cX6_loudestSlot 5 = .ok (.iconst 0, 1) := by decide +kernel
theorem dX6_loudestSlot_6 : decode cX6_loudestSlot 6 = .ok (.istore 5, 2) := by decide +kernel
theorem dX6_loudestSlot_8 : decode cX6_loudestSlot 8 = .ok (.iload 5, 2) := by decide +kernel
theorem dX6_loudestSlot_10 : decode cX6_loudestSlot 10 = .ok (.aload_n 0, 1) := by decide +kernel
theorem dX6_loudestSlot_11 : decode cX6_loudestSlot 11 = .ok (.getfield 45, 3) := by decide +kernel
theorem dX6_loudestSlot_14 : decode cX6_loudestSlot 14 = .ok (.if_icmp .ge 67, 3) := by decide +kernel
theorem dX6_loudestSlot_17 : decode cX6_loudestSlot 17 = .ok (.aload_n 0, 1) := by decide +kernel
theorem dX6_loudestSlot_18 : decode cX6_loudestSlot 18 = .ok (.getfield 28, 3) := by decide +kernel
theorem dX6_loudestSlot_21 : decode cX6_loudestSlot 21 = .ok (.iload 5, 2) := by decide +kernel
theorem dX6_loudestSlot_23 : decode cX6_loudestSlot 23 = .ok (.iaload, 1) := by decide +kernel
theorem dX6_loudestSlot_24 : decode cX6_loudestSlot 24 = .ok (.iload_n 1, 1) := by decide +kernel
theorem dX6_loudestSlot_25 : decode cX6_loudestSlot 25 = .ok (.if_icmp .lt 18, 3) := by decide +kernel
theorem dX6_loudestSlot_28 : decode cX6_loudestSlot 28 = .ok (.aload_n 0, 1) := by decide +kernel
theorem dX6_loudestSlot_29 : decode cX6_loudestSlot 29 = .ok (.getfield 28, 3) := by decide +kernel
theorem dX6_loudestSlot_32 : decode cX6_loudestSlot 32 = .ok (.iload 5, 2) := by decide +kernel
theorem dX6_loudestSlot_34 : decode cX6_loudestSlot 34 = .ok (.iaload, 1) := by decide +kernel
theorem dX6_loudestSlot_35 : decode cX6_loudestSlot 35 = .ok (.iload_n 2, 1) := by decide +kernel
theorem dX6_loudestSlot_36 : decode cX6_loudestSlot 36 = .ok (.if_icmp .gt 7, 3) := by decide +kernel
theorem dX6_loudestSlot_39 : decode cX6_loudestSlot 39 = .ok (.iconst 1, 1) := by decide +kernel
theorem dX6_loudestSlot_40 : decode cX6_loudestSlot 40 = .ok (.goto 4, 3) := by decide +kernel
theorem dX6_loudestSlot_43 : decode cX6_loudestSlot 43 = .ok (.iconst 0, 1) := by decide +kernel
theorem dX6_loudestSlot_44 : decode cX6_loudestSlot 44 = .ok (.istore 6, 2) := by decide +kernel
theorem dX6_loudestSlot_46 : decode cX6_loudestSlot 46 = .ok (.iload 6, 2) := by decide +kernel
theorem dX6_loudestSlot_48 : decode cX6_loudestSlot 48 = .ok (.ifCond .eq 27, 3) := by decide +kernel
theorem dX6_loudestSlot_51 : decode cX6_loudestSlot 51 = .ok (.aload_n 0, 1) := by decide +kernel
theorem dX6_loudestSlot_52 : decode cX6_loudestSlot 52 = .ok (.getfield 31, 3) := by decide +kernel
theorem dX6_loudestSlot_55 : decode cX6_loudestSlot 55 = .ok (.iload 5, 2) := by decide +kernel
theorem dX6_loudestSlot_57 : decode cX6_loudestSlot 57 = .ok (.iaload, 1) := by decide +kernel
theorem dX6_loudestSlot_58 : decode cX6_loudestSlot 58 = .ok (.iload 4, 2) := by decide +kernel
theorem dX6_loudestSlot_60 : decode cX6_loudestSlot 60 = .ok (.if_icmp .le 15, 3) := by decide +kernel
theorem dX6_loudestSlot_63 : decode cX6_loudestSlot 63 = .ok (.iload 5, 2) := by decide +kernel
theorem dX6_loudestSlot_65 : decode cX6_loudestSlot 65 = .ok (.istore_n 3, 1) := by decide +kernel
theorem dX6_loudestSlot_66 : decode cX6_loudestSlot 66 = .ok (.aload_n 0, 1) := by decide +kernel
theorem dX6_loudestSlot_67 : decode cX6_loudestSlot 67 = .ok (.getfield 31, 3) := by decide +kernel
theorem dX6_loudestSlot_70 : decode cX6_loudestSlot 70 = .ok (.iload 5, 2) := by decide +kernel
theorem dX6_loudestSlot_72 : decode cX6_loudestSlot 72 = .ok (.iaload, 1) := by decide +kernel
theorem dX6_loudestSlot_73 : decode cX6_loudestSlot 73 = .ok (.istore 4, 2) := by decide +kernel
theorem dX6_loudestSlot_75 : decode cX6_loudestSlot 75 = .ok (.iinc 5 1, 3) := by decide +kernel
theorem dX6_loudestSlot_78 : decode cX6_loudestSlot 78 = .ok (.goto (-70), 3) := by decide +kernel
theorem dX6_loudestSlot_81 : decode cX6_loudestSlot 81 = .ok (.iload_n 3, 1) := by decide +kernel
theorem dX6_loudestSlot_82 : decode cX6_loudestSlot 82 = .ok (.ireturn, 1) := by decide +kernel
theorem dX6_idAt_0 : decode cX6_idAt 0 = .ok (.iconst 0, 1) := by decide +kernel
theorem dX6_idAt_1 : decode cX6_idAt 1 = .ok (.istore_n 3, 1) := by decide +kernel
theorem dX6_idAt_2 : decode cX6_idAt 2 = .ok (.iconst 0, 1) := by decide +kernel
theorem dX6_idAt_3 : decode cX6_idAt 3 = .ok (.istore 4, 2) := by decide +kernel
theorem dX6_idAt_5 : decode cX6_idAt 5 = .ok (.iload 4, 2) := by decide +kernel
theorem dX6_idAt_7 : decode cX6_idAt 7 = .ok (.aload_n 0, 1) := by decide +kernel
theorem dX6_idAt_8 : decode cX6_idAt 8 = .ok (.getfield 45, 3) := by decide +kernel
theorem dX6_idAt_11 : decode cX6_idAt 11 = .ok (.if_icmp .ge 36, 3) := by decide +kernel
theorem dX6_idAt_14 : decode cX6_idAt 14 = .ok (.aload_n 0, 1) := by decide +kernel
theorem dX6_idAt_15 : decode cX6_idAt 15 = .ok (.getfield 28, 3) := by decide +kernel
theorem dX6_idAt_18 : decode cX6_idAt 18 = .ok (.iload 4, 2) := by decide +kernel
theorem dX6_idAt_20 : decode cX6_idAt 20 = .ok (.iaload, 1) := by decide +kernel
theorem dX6_idAt_21 : decode cX6_idAt 21 = .ok (.iload_n 1, 1) := by decide +kernel
theorem dX6_idAt_22 : decode cX6_idAt 22 = .ok (.if_icmp .ne 19, 3) := by decide +kernel
theorem dX6_idAt_25 : decode cX6_idAt 25 = .ok (.iload_n 3, 1) := by decide +kernel
theorem dX6_idAt_26 : decode cX6_idAt 26 = .ok (.iload_n 2, 1) := by decide +kernel
theorem dX6_idAt_27 : decode cX6_idAt 27 = .ok (.if_icmp .ne 11, 3) := by decide +kernel
theorem dX6_idAt_30 : decode cX6_idAt 30 = .ok (.aload_n 0, 1) := by decide +kernel
theorem dX6_idAt_31 : decode cX6_idAt 31 = .ok (.getfield 25, 3) := by decide +kernel
theorem dX6_idAt_34 : decode cX6_idAt 34 = .ok (.iload 4, 2) := by decide +kernel
theorem dX6_idAt_36 : decode cX6_idAt 36 = .ok (.iaload, 1) := by decide +kernel
theorem dX6_idAt_37 : decode cX6_idAt 37 = .ok (.ireturn, 1) := by decide +kernel
theorem dX6_idAt_38 : decode cX6_idAt 38 = .ok (.iinc 3 1, 3) := by decide +kernel
theorem dX6_idAt_41 : decode cX6_idAt 41 = .ok (.iinc 4 1, 3) := by decide +kernel
theorem dX6_idAt_44 : decode cX6_idAt 44 = .ok (.goto (-39), 3) := by decide +kernel
theorem dX6_idAt_47 : decode cX6_idAt 47 = .ok (.iconst (-1), 1) := by decide +kernel
theorem dX6_idAt_48 : decode cX6_idAt 48 = .ok (.ireturn, 1) := by decide +kernel
theorem dX6_positionOf_0 : decode cX6_positionOf 0 = .ok (.iconst 0, 1) := by decide +kernel
theorem dX6_positionOf_1 : decode cX6_positionOf 1 = .ok (.istore_n 2, 1) := by decide +kernel
theorem dX6_positionOf_2 : decode cX6_positionOf 2 = .ok (.iconst 0, 1) := by decide +kernel
theorem dX6_positionOf_3 : decode cX6_positionOf 3 = .ok (.istore_n 3, 1) := by decide +kernel
theorem dX6_positionOf_4 : decode cX6_positionOf 4 = .ok (.iload_n 3, 1) := by decide +kernel
theorem dX6_positionOf_5 : decode cX6_positionOf 5 = .ok (.iload_n 1, 1) := by decide +kernel
theorem dX6_positionOf_6 : decode cX6_positionOf 6 = .ok (.if_icmp .ge 27, 3) := by decide +kernel
theorem dX6_positionOf_9 : decode cX6_positionOf 9 = .ok (.aload_n 0, 1) := by decide +kernel
theorem dX6_positionOf_10 : decode cX6_positionOf 10 = .ok (.getfield 28, 3) := by decide +kernel
theorem dX6_positionOf_13 : decode cX6_positionOf 13 = .ok (.iload_n 3, 1) := by decide +kernel
theorem dX6_positionOf_14 : decode cX6_positionOf 14 = .ok (.iaload, 1) := by decide +kernel
theorem dX6_positionOf_15 : decode cX6_positionOf 15 = .ok (.aload_n 0, 1) := by decide +kernel
theorem dX6_positionOf_16 : decode cX6_positionOf 16 = .ok (.getfield 28, 3) := by decide +kernel
theorem dX6_positionOf_19 : decode cX6_positionOf 19 = .ok (.iload_n 1, 1) := by decide +kernel
theorem dX6_positionOf_20 : decode cX6_positionOf 20 = .ok (.iaload, 1) := by decide +kernel
theorem dX6_positionOf_21 : decode cX6_positionOf 21 = .ok (.if_icmp .ne 6, 3) := by decide +kernel
theorem dX6_positionOf_24 : decode cX6_positionOf 24 = .ok (.iinc 2 1, 3) := by decide +kernel
theorem dX6_positionOf_27 : decode cX6_positionOf 27 = .ok (.iinc 3 1, 3) := by decide +kernel
theorem dX6_positionOf_30 : decode cX6_positionOf 30 = .ok (.goto (-26), 3) := by decide +kernel
theorem dX6_positionOf_33 : decode cX6_positionOf 33 = .ok (.iload_n 2, 1) := by decide +kernel
theorem dX6_positionOf_34 : decode cX6_positionOf 34 = .ok (.ireturn, 1) := by decide +kernel
theorem dX6_rankOf_0 : decode cX6_rankOf 0 = .ok (.aload_n 0, 1) := by decide +kernel
theorem dX6_rankOf_1 : decode cX6_rankOf 1 = .ok (.iconst 0, 1) := by decide +kernel
theorem dX6_rankOf_2 : decode cX6_rankOf 2 = .ok (.aload_n 0, 1) := by decide +kernel
theorem dX6_rankOf_3 : decode cX6_rankOf 3 = .ok (.getfield 28, 3) := by decide +kernel
theorem dX6_rankOf_6 : decode cX6_rankOf 6 = .ok (.iload_n 1, 1) := by decide +kernel
theorem dX6_rankOf_7 : decode cX6_rankOf 7 = .ok (.iaload, 1) := by decide +kernel
theorem dX6_rankOf_8 : decode cX6_rankOf 8 = .ok (.iconst 1, 1) := by decide +kernel
theorem dX6_rankOf_9 : decode cX6_rankOf 9 = .ok (.isub, 1) := by decide +kernel
theorem dX6_rankOf_10 : decode cX6_rankOf 10 = .ok (.invokevirtual 74, 3) := by decide +kernel
theorem dX6_rankOf_13 : decode cX6_rankOf 13 = .ok (.aload_n 0, 1) := by decide +kernel
theorem dX6_rankOf_14 : decode cX6_rankOf 14 = .ok (.iload_n 1, 1) := by decide +kernel
theorem dX6_rankOf_15 : decode cX6_rankOf 15 = .ok (.invokevirtual 78, 3) := by decide +kernel
theorem dX6_rankOf_18 : decode cX6_rankOf 18 = .ok (.iadd, 1) := by decide +kernel
theorem dX6_rankOf_19 : decode cX6_rankOf 19 = .ok (.ireturn, 1) := by decide +kernel
theorem dX6_idRanked_0 : decode cX6_idRanked 0 = .ok (.iload_n 1, 1) := by decide +kernel
theorem dX6_idRanked_1 : decode cX6_idRanked 1 = .ok (.istore_n 2, 1) := by decide +kernel
theorem dX6_idRanked_2 : decode cX6_idRanked 2 = .ok (.iconst 0, 1) := by decide +kernel
theorem dX6_idRanked_3 : decode cX6_idRanked 3 = .ok (.istore_n 3, 1) := by decide +kernel
theorem dX6_idRanked_4 : decode cX6_idRanked 4 = .ok (.iload_n 3, 1) := by decide +kernel
theorem dX6_idRanked_5 : decode cX6_idRanked 5 = .ok (.aload_n 0, 1) := by decide +kernel
theorem dX6_idRanked_6 : decode cX6_idRanked 6 = .ok (.getfield 41, 3) := by decide +kernel
theorem dX6_idRanked_9 : decode cX6_idRanked 9 = .ok (.if_icmp .ge 34, 3) := by decide +kernel
theorem dX6_idRanked_12 : decode cX6_idRanked 12 = .ok (.aload_n 0, 1) := by decide +kernel
theorem dX6_idRanked_13 : decode cX6_idRanked 13 = .ok (.iload_n 3, 1) := by decide +kernel
theorem dX6_idRanked_14 : decode cX6_idRanked 14 = .ok (.invokevirtual 64, 3) := by decide +kernel
theorem dX6_idRanked_17 : decode cX6_idRanked 17 = .ok (.istore 4, 2) := by decide +kernel
theorem dX6_idRanked_19 : decode cX6_idRanked 19 = .ok (.iload_n 2, 1) := by decide +kernel
theorem dX6_idRanked_20 : decode cX6_idRanked 20 = .ok (.iload 4, 2) := by decide +kernel
theorem dX6_idRanked_22 : decode cX6_idRanked 22 = .ok (.if_icmp .ge 10, 3) := by decide +kernel
theorem dX6_idRanked_25 : decode cX6_idRanked 25 = .ok (.aload_n 0, 1) := by decide +kernel
theorem dX6_idRanked_26 : decode cX6_idRanked 26 = .ok (.iload_n 3, 1) := by decide +kernel
theorem dX6_idRanked_27 : decode cX6_idRanked 27 = .ok (.iload_n 2, 1) := by decide +kernel
theorem dX6_idRanked_28 : decode cX6_idRanked 28 = .ok (.invokevirtual 81, 3) := by decide +kernel
theorem dX6_idRanked_31 : decode cX6_idRanked 31 = .ok (.ireturn, 1) := by decide +kernel
theorem dX6_idRanked_32 : decode cX6_idRanked 32 = .ok (.iload_n 2, 1) := by decide +kernel
theorem dX6_idRanked_33 : decode cX6_idRanked 33 = .ok (.iload 4, 2) := by decide +kernel
theorem dX6_idRanked_35 : decode cX6_idRanked 35 = .ok (.isub, 1) := by decide +kernel
theorem dX6_idRanked_36 : decode cX6_idRanked 36 = .ok (.istore_n 2, 1) := by decide +kernel
theorem dX6_idRanked_37 : decode cX6_idRanked 37 = .ok (.iinc 3 1, 3) := by decide +kernel
theorem dX6_idRanked_40 : decode cX6_idRanked 40 = .ok (.goto (-36), 3) := by decide +kernel
theorem dX6_idRanked_43 : decode cX6_idRanked 43 = .ok (.iconst (-1), 1) := by decide +kernel
theorem dX6_idRanked_44 : decode cX6_idRanked 44 = .ok (.ireturn, 1) := by decide +kernel
theorem dX6_heirSlotOf_0 : decode cX6_heirSlotOf 0 = .ok (.aload_n 0, 1) := by decide +kernel
theorem dX6_heirSlotOf_1 : decode cX6_heirSlotOf 1 = .ok (.getfield 34, 3) := by decide +kernel
theorem dX6_heirSlotOf_4 : decode cX6_heirSlotOf 4 = .ok (.iload_n 1, 1) := by decide +kernel
theorem dX6_heirSlotOf_5 : decode cX6_heirSlotOf 5 = .ok (.iaload, 1) := by decide +kernel
theorem dX6_heirSlotOf_6 : decode cX6_heirSlotOf 6 = .ok (.iconst (-1), 1) := by decide +kernel
theorem dX6_heirSlotOf_7 : decode cX6_heirSlotOf 7 = .ok (.if_icmp .ne 7, 3) := by decide +kernel
theorem dX6_heirSlotOf_10 : decode cX6_heirSlotOf 10 = .ok (.iconst (-1), 1) := by decide +kernel
theorem dX6_heirSlotOf_11 : decode cX6_heirSlotOf 11 = .ok (.goto 13, 3) := by decide +kernel
theorem dX6_heirSlotOf_14 : decode cX6_heirSlotOf 14 = .ok (.aload_n 0, 1) := by decide +kernel
theorem dX6_heirSlotOf_15 : decode cX6_heirSlotOf 15 = .ok (.aload_n 0, 1) := by decide +kernel
theorem dX6_heirSlotOf_16 : decode cX6_heirSlotOf 16 = .ok (.getfield 34, 3) := by decide +kernel
theorem dX6_heirSlotOf_19 : decode cX6_heirSlotOf 19 = .ok (.iload_n 1, 1) := by decide +kernel
theorem dX6_heirSlotOf_20 : decode cX6_heirSlotOf 20 = .ok (.iaload, 1) := by decide +kernel
theorem dX6_heirSlotOf_21 : decode cX6_heirSlotOf 21 = .ok (.invokevirtual 84, 3) := by decide +kernel
theorem dX6_heirSlotOf_24 : decode cX6_heirSlotOf 24 = .ok (.ireturn, 1) := by decide +kernel
theorem dX6_lastSlotFrom_0 : decode cX6_lastSlotFrom 0 = .ok (.iload_n 1, 1) := by decide +kernel
theorem dX6_lastSlotFrom_1 : decode cX6_lastSlotFrom 1 = .ok (.istore_n 2, 1) := by decide +kernel
theorem dX6_lastSlotFrom_2 : decode cX6_lastSlotFrom 2 = .ok (.aload_n 0, 1) := by decide +kernel
theorem dX6_lastSlotFrom_3 : decode cX6_lastSlotFrom 3 = .ok (.iload_n 1, 1) := by decide +kernel
theorem dX6_lastSlotFrom_4 : decode cX6_lastSlotFrom 4 = .ok (.invokevirtual 87, 3) := by decide +kernel
theorem dX6_lastSlotFrom_7 : decode cX6_lastSlotFrom 7 = .ok (.istore_n 3, 1) := by decide +kernel
theorem dX6_lastSlotFrom_8 : decode cX6_lastSlotFrom 8 = .ok (.iconst 0, 1) := by decide +kernel
theorem dX6_lastSlotFrom_9 : decode cX6_lastSlotFrom 9 = .ok (.istore 4, 2) := by decide +kernel
theorem dX6_lastSlotFrom_11 : decode cX6_lastSlotFrom 11 = .ok (.iload 4, 2) := by decide +kernel
theorem dX6_lastSlotFrom_13 : decode cX6_lastSlotFrom 13 = .ok (.bipush 24, 2) := by decide +kernel
theorem dX6_lastSlotFrom_15 : decode cX6_lastSlotFrom 15 = .ok (.if_icmp .ge 22, 3) := by decide +kernel
theorem dX6_lastSlotFrom_18 : decode cX6_lastSlotFrom 18 = .ok (.iload_n 3, 1) := by decide +kernel
theorem dX6_lastSlotFrom_19 : decode cX6_lastSlotFrom 19 = .ok (.iconst (-1), 1) := by decide +kernel
theorem dX6_lastSlotFrom_20 : decode cX6_lastSlotFrom 20 = .ok (.if_icmp .eq 17, 3) := by decide +kernel
theorem dX6_lastSlotFrom_23 : decode cX6_lastSlotFrom 23 = .ok (.iload_n 3, 1) := by decide +kernel
theorem dX6_lastSlotFrom_24 : decode cX6_lastSlotFrom 24 = .ok (.istore_n 2, 1) := by decide +kernel
theorem dX6_lastSlotFrom_25 : decode cX6_lastSlotFrom 25 = .ok (.aload_n 0, 1) := by decide +kernel
theorem dX6_lastSlotFrom_26 : decode cX6_lastSlotFrom 26 = .ok (.iload_n 2, 1) := by decide +kernel
theorem dX6_lastSlotFrom_27 : decode cX6_lastSlotFrom 27 = .ok (.invokevirtual 87, 3) := by decide +kernel
theorem dX6_lastSlotFrom_30 : decode cX6_lastSlotFrom 30 = .ok (.istore_n 3, 1) := by decide +kernel
theorem dX6_lastSlotFrom_31 : decode cX6_lastSlotFrom 31 = .ok (.iinc 4 1, 3) := by decide +kernel
theorem dX6_lastSlotFrom_34 : decode cX6_lastSlotFrom 34 = .ok (.goto (-23), 3) := by decide +kernel
theorem dX6_lastSlotFrom_37 : decode cX6_lastSlotFrom 37 = .ok (.iload_n 2, 1) := by decide +kernel
theorem dX6_lastSlotFrom_38 : decode cX6_lastSlotFrom 38 = .ok (.ireturn, 1) := by decide +kernel
theorem dX6_chainLengthFrom_0 : decode cX6_chainLengthFrom 0 = .ok (.iconst 0, 1) := by decide +kernel
theorem dX6_chainLengthFrom_1 : decode cX6_chainLengthFrom 1 = .ok (.istore_n 2, 1) := by decide +kernel
theorem dX6_chainLengthFrom_2 : decode cX6_chainLengthFrom 2 = .ok (.aload_n 0, 1) := by decide +kernel
theorem dX6_chainLengthFrom_3 : decode cX6_chainLengthFrom 3 = .ok (.iload_n 1, 1) := by decide +kernel
theorem dX6_chainLengthFrom_4 : decode cX6_chainLengthFrom 4 = .ok (.invokevirtual 87, 3) := by decide +kernel
theorem dX6_chainLengthFrom_7 : decode cX6_chainLengthFrom 7 = .ok (.istore_n 3, 1) := by decide +kernel
theorem dX6_chainLengthFrom_8 : decode cX6_chainLengthFrom 8 = .ok (.iload_n 2, 1) := by decide +kernel
theorem dX6_chainLengthFrom_9 : decode cX6_chainLengthFrom 9 = .ok (.bipush 24, 2) := by decide +kernel
theorem dX6_chainLengthFrom_11 : decode cX6_chainLengthFrom 11 = .ok (.if_icmp .ge 20, 3) := by decide +kernel
theorem dX6_chainLengthFrom_14 : decode cX6_chainLengthFrom 14 = .ok (.iload_n 3, 1) := by decide +kernel
theorem dX6_chainLengthFrom_15 : decode cX6_chainLengthFrom 15 = .ok (.iconst (-1), 1) := by decide +kernel
theorem dX6_chainLengthFrom_16 : decode cX6_chainLengthFrom 16 = .ok (.if_icmp .eq 15, 3) := by decide +kernel
theorem dX6_chainLengthFrom_19 : decode cX6_chainLengthFrom 19 = .ok (.iinc 2 1, 3) := by decide +kernel
theorem dX6_chainLengthFrom_22 : decode cX6_chainLengthFrom 22 = .ok (.aload_n 0, 1) := by decide +kernel
theorem dX6_chainLengthFrom_23 : decode cX6_chainLengthFrom 23 = .ok (.iload_n 3, 1) := by decide +kernel
theorem dX6_chainLengthFrom_24 : decode cX6_chainLengthFrom 24 = .ok (.invokevirtual 87, 3) := by decide +kernel
theorem dX6_chainLengthFrom_27 : decode cX6_chainLengthFrom 27 = .ok (.istore_n 3, 1) := by decide +kernel
theorem dX6_chainLengthFrom_28 : decode cX6_chainLengthFrom 28 = .ok (.goto (-20), 3) := by decide +kernel
theorem dX6_chainLengthFrom_31 : decode cX6_chainLengthFrom 31 = .ok (.iload_n 2, 1) := by decide +kernel
theorem dX6_chainLengthFrom_32 : decode cX6_chainLengthFrom 32 = .ok (.ireturn, 1) := by decide +kernel
theorem dX6_chainPasses_0 : decode cX6_chainPasses 0 = .ok (.iload_n 1, 1) := by decide +kernel
theorem dX6_chainPasses_1 : decode cX6_chainPasses 1 = .ok (.istore_n 3, 1) := by decide +kernel
theorem dX6_chainPasses_2 : decode cX6_chainPasses 2 = .ok (.iconst 0, 1) := by decide +kernel
theorem dX6_chainPasses_3 : decode cX6_chainPasses 3 = .ok (.istore 4, 2) := by decide +kernel
theorem dX6_chainPasses_5 : decode cX6_chainPasses 5 = .ok (.iload 4, 2) := by decide +kernel
theorem dX6_chainPasses_7 : decode cX6_chainPasses 7 = .ok (.bipush 24, 2) := by decide +kernel
theorem dX6_chainPasses_9 : decode cX6_chainPasses 9 = .ok (.if_icmp .ge 27, 3) := by decide +kernel
theorem dX6_chainPasses_12 : decode cX6_chainPasses 12 = .ok (.iload_n 3, 1) := by decide +kernel
theorem dX6_chainPasses_13 : decode cX6_chainPasses 13 = .ok (.iconst (-1), 1) := by decide +kernel
theorem dX6_chainPasses_14 : decode cX6_chainPasses 14 = .ok (.if_icmp .eq 22, 3) := by decide +kernel
theorem dX6_chainPasses_17 : decode cX6_chainPasses 17 = .ok (.iload_n 3, 1) := by decide +kernel
theorem dX6_chainPasses_18 : decode cX6_chainPasses 18 = .ok (.iload_n 2, 1) := by decide +kernel
theorem dX6_chainPasses_19 : decode cX6_chainPasses 19 = .ok (.if_icmp .ne 5, 3) := by decide +kernel
theorem dX6_chainPasses_22 : decode cX6_chainPasses 22 = .ok (.iconst 1, 1) := by decide +kernel
theorem dX6_chainPasses_23 : decode cX6_chainPasses 23 = .ok (.ireturn, 1) := by decide +kernel
theorem dX6_chainPasses_24 : decode cX6_chainPasses 24 = .ok (.aload_n 0, 1) := by decide +kernel
theorem dX6_chainPasses_25 : decode cX6_chainPasses 25 = .ok (.iload_n 3, 1) := by decide +kernel
theorem dX6_chainPasses_26 : decode cX6_chainPasses 26 = .ok (.invokevirtual 87, 3) := by decide +kernel
theorem dX6_chainPasses_29 : decode cX6_chainPasses 29 = .ok (.istore_n 3, 1) := by decide +kernel
theorem dX6_chainPasses_30 : decode cX6_chainPasses 30 = .ok (.iinc 4 1, 3) := by decide +kernel
theorem dX6_chainPasses_33 : decode cX6_chainPasses 33 = .ok (.goto (-28), 3) := by decide +kernel
theorem dX6_chainPasses_36 : decode cX6_chainPasses 36 = .ok (.iconst 0, 1) := by decide +kernel
theorem dX6_chainPasses_37 : decode cX6_chainPasses 37 = .ok (.ireturn, 1) := by decide +kernel
theorem dX6_echoesWithHeir_0 : decode cX6_echoesWithHeir 0 = .ok (.iconst 0, 1) := by decide +kernel
theorem dX6_echoesWithHeir_1 : decode cX6_echoesWithHeir 1 = .ok (.istore_n 2, 1) := by decide +kernel
theorem dX6_echoesWithHeir_2 : decode cX6_echoesWithHeir 2 = .ok (.iconst 0, 1) := by decide +kernel
theorem dX6_echoesWithHeir_3 : decode cX6_echoesWithHeir 3 = .ok (.istore_n 3, 1) := by decide +kernel
theorem dX6_echoesWithHeir_4 : decode cX6_echoesWithHeir 4 = .ok (.iload_n 3, 1) := by decide +kernel
theorem dX6_echoesWithHeir_5 : decode cX6_echoesWithHeir 5 = .ok (.aload_n 0, 1) := by decide +kernel
theorem dX6_echoesWithHeir_6 : decode cX6_echoesWithHeir 6 = .ok (.getfield 45, 3) := by decide +kernel
theorem dX6_echoesWithHeir_9 : decode cX6_echoesWithHeir 9 = .ok (.if_icmp .ge 22, 3) := by decide +kernel
theorem dX6_echoesWithHeir_12 : decode cX6_echoesWithHeir 12 = .ok (.aload_n 0, 1) := by decide +kernel
theorem dX6_echoesWithHeir_13 : decode cX6_echoesWithHeir 13 = .ok (.getfield 34, 3) := by decide +kernel
theorem dX6_echoesWithHeir_16 : decode cX6_echoesWithHeir 16 = .ok (.iload_n 3, 1) := by decide +kernel
theorem dX6_echoesWithHeir_17 : decode cX6_echoesWithHeir 17 = .ok (.iaload, 1) := by decide +kernel
theorem dX6_echoesWithHeir_18 : decode cX6_echoesWithHeir 18 = .ok (.iload_n 1, 1) := by decide +kernel
theorem dX6_echoesWithHeir_19 : decode cX6_echoesWithHeir 19 = .ok (.if_icmp .ne 6, 3) := by decide +kernel
theorem dX6_echoesWithHeir_22 : decode cX6_echoesWithHeir 22 = .ok (.iinc 2 1, 3) := by decide +kernel
theorem dX6_echoesWithHeir_25 : decode cX6_echoesWithHeir 25 = .ok (.iinc 3 1, 3) := by decide +kernel
theorem dX6_echoesWithHeir_28 : decode cX6_echoesWithHeir 28 = .ok (.goto (-24), 3) := by decide +kernel
theorem dX6_echoesWithHeir_31 : decode cX6_echoesWithHeir 31 = .ok (.iload_n 2, 1) := by decide +kernel
theorem dX6_echoesWithHeir_32 : decode cX6_echoesWithHeir 32 = .ok (.ireturn, 1) := by decide +kernel
theorem dX6_rowForSpreading_0 : decode cX6_rowForSpreading 0 = .ok (.iconst 1, 1) := by decide +kernel
theorem dX6_rowForSpreading_1 : decode cX6_rowForSpreading 1 = .ok (.istore_n 2, 1) := by decide +kernel
theorem dX6_rowForSpreading_2 : decode cX6_rowForSpreading 2 = .ok (.iload_n 2, 1) := by decide +kernel
theorem dX6_rowForSpreading_3 : decode cX6_rowForSpreading 3 = .ok (.aload_n 0, 1) := by decide +kernel
theorem dX6_rowForSpreading_4 : decode cX6_rowForSpreading 4 = .ok (.getfield 41, 3) := by decide +kernel
theorem dX6_rowForSpreading_7 : decode cX6_rowForSpreading 7 = .ok (.if_icmp .ge 62, 3) := by decide +kernel
theorem dX6_rowForSpreading_10 : decode cX6_rowForSpreading 10 = .ok (.iload_n 1, 1) := by decide +kernel
theorem dX6_rowForSpreading_11 : decode cX6_rowForSpreading 11 = .ok (.iload_n 2, 1) := by decide +kernel
theorem dX6_rowForSpreading_12 : decode cX6_rowForSpreading 12 = .ok (.iadd, 1) := by decide +kernel
theorem dX6_rowForSpreading_13 : decode cX6_rowForSpreading 13 = .ok (.istore_n 3, 1) := by decide +kernel
theorem dX6_rowForSpreading_14 : decode cX6_rowForSpreading 14 = .ok (.iload_n 3, 1) := by decide +kernel
theorem dX6_rowForSpreading_15 : decode cX6_rowForSpreading 15 = .ok (.aload_n 0, 1) := by decide +kernel
theorem dX6_rowForSpreading_16 : decode cX6_rowForSpreading 16 = .ok (.getfield 41, 3) := by decide +kernel
theorem dX6_rowForSpreading_19 : decode cX6_rowForSpreading 19 = .ok (.if_icmp .ge 7, 3) := by decide +kernel
theorem dX6_rowForSpreading_22 : decode cX6_rowForSpreading 22 = .ok (.iload_n 3, 1) := by decide +kernel
theorem dX6_rowForSpreading_23 : decode cX6_rowForSpreading 23 = .ok (.goto 9, 3) := by decide +kernel
theorem dX6_rowForSpreading_26 : decode cX6_rowForSpreading 26 = .ok (.iload_n 3, 1) := by decide +kernel
theorem dX6_rowForSpreading_27 : decode cX6_rowForSpreading 27 = .ok (.aload_n 0, 1) := by decide +kernel
theorem dX6_rowForSpreading_28 : decode cX6_rowForSpreading 28 = .ok (.getfield 41, 3) := by decide +kernel
theorem dX6_rowForSpreading_31 : decode cX6_rowForSpreading 31 = .ok (.isub, 1) := by decide +kernel
theorem dX6_rowForSpreading_32 : decode cX6_rowForSpreading 32 = .ok (.istore 4, 2) := by decide +kernel
theorem dX6_rowForSpreading_34 : decode cX6_rowForSpreading 34 = .ok (.aload_n 0, 1) := by decide +kernel
theorem dX6_rowForSpreading_35 : decode cX6_rowForSpreading 35 = .ok (.getfield 18, 3) := by decide +kernel
theorem dX6_rowForSpreading_38 : decode cX6_rowForSpreading 38 = .ok (.iload 4, 2) := by decide +kernel
theorem dX6_rowForSpreading_40 : decode cX6_rowForSpreading 40 = .ok (.baload, 1) := by decide +kernel
theorem dX6_rowForSpreading_41 : decode cX6_rowForSpreading 41 = .ok (.ifCond .ne 22, 3) := by decide +kernel
theorem dX6_rowForSpreading_44 : decode cX6_rowForSpreading 44 = .ok (.aload_n 0, 1) := by decide +kernel
theorem dX6_rowForSpreading_45 : decode cX6_rowForSpreading 45 = .ok (.iload 4, 2) := by decide +kernel
theorem dX6_rowForSpreading_47 : decode cX6_rowForSpreading 47 = .ok (.invokevirtual 64, 3) := by decide +kernel
theorem dX6_rowForSpreading_50 : decode cX6_rowForSpreading 50 = .ok (.aload_n 0, 1) := by decide +kernel
theorem dX6_rowForSpreading_51 : decode cX6_rowForSpreading 51 = .ok (.getfield 9, 3) := by decide +kernel
theorem dX6_rowForSpreading_54 : decode cX6_rowForSpreading 54 = .ok (.iload 4, 2) := by decide +kernel
theorem dX6_rowForSpreading_56 : decode cX6_rowForSpreading 56 = .ok (.iaload, 1) := by decide +kernel
theorem dX6_rowForSpreading_57 : decode cX6_rowForSpreading 57 = .ok (.if_icmp .ge 6, 3) := by decide +kernel
theorem dX6_rowForSpreading_60 : decode cX6_rowForSpreading 60 = .ok (.iload 4, 2) := by decide +kernel
theorem dX6_rowForSpreading_62 : decode cX6_rowForSpreading 62 = .ok (.ireturn, 1) := by decide +kernel
theorem dX6_rowForSpreading_63 : decode cX6_rowForSpreading 63 = .ok (.iinc 2 1, 3) := by decide +kernel
theorem dX6_rowForSpreading_66 : decode cX6_rowForSpreading 66 = .ok (.goto (-64), 3) := by decide +kernel
theorem dX6_rowForSpreading_69 : decode cX6_rowForSpreading 69 = .ok (.iconst (-1), 1) := by decide +kernel
theorem dX6_rowForSpreading_70 : decode cX6_rowForSpreading 70 = .ok (.ireturn, 1) := by decide +kernel
theorem dX7_init_0 : decode cX7_init 0 = .ok (.aload_n 0, 1) := by decide +kernel
theorem dX7_init_1 : decode cX7_init 1 = .ok (.invokespecial 1, 3) := by decide +kernel
theorem dX7_init_4 : decode cX7_init 4 = .ok (.aload_n 0, 1) := by decide +kernel
theorem dX7_init_5 : decode cX7_init 5 = .ok (.new 7, 3) := by decide +kernel
theorem dX7_init_8 : decode cX7_init 8 = .ok (.dup, 1) := by decide +kernel
theorem dX7_init_9 : decode cX7_init 9 = .ok (.invokespecial 9, 3) := by decide +kernel
theorem dX7_init_12 : decode cX7_init 12 = .ok (.putfield 10, 3) := by decide +kernel
theorem dX7_init_15 : decode cX7_init 15 = .ok (.aload_n 0, 1) := by decide +kernel
theorem dX7_init_16 : decode cX7_init 16 = .ok (.new 16, 3) := by decide +kernel
theorem dX7_init_19 : decode cX7_init 19 = .ok (.dup, 1) := by decide +kernel
theorem dX7_init_20 : decode cX7_init 20 = .ok (.invokespecial 18, 3) := by decide +kernel
theorem dX7_init_23 : decode cX7_init 23 = .ok (.putfield 19, 3) := by decide +kernel
theorem dX7_init_26 : decode cX7_init 26 = .ok (.aload_n 0, 1) := by decide +kernel
theorem dX7_init_27 : decode cX7_init 27 = .ok (.new 23, 3) := by decide +kernel
theorem dX7_init_30 : decode cX7_init 30 = .ok (.dup, 1) := by decide +kernel
theorem dX7_init_31 : decode cX7_init 31 = .ok (.invokespecial 25, 3) := by decide +kernel
theorem dX7_init_34 : decode cX7_init 34 = .ok (.putfield 26, 3) := by decide +kernel
theorem dX7_init_37 : decode cX7_init 37 = .ok (.aload_n 0, 1) := by decide +kernel
theorem dX7_init_38 : decode cX7_init 38 = .ok (.new 30, 3) := by decide +kernel
theorem dX7_init_41 : decode cX7_init 41 = .ok (.dup, 1) := by decide +kernel
theorem dX7_init_42 : decode cX7_init 42 = .ok (.invokespecial 32, 3) := by decide +kernel
theorem dX7_init_45 : decode cX7_init 45 = .ok (.putfield 33, 3) := by decide +kernel
theorem dX7_init_48 : decode cX7_init 48 = .ok (.aload_n 0, 1) := by decide +kernel
theorem dX7_init_49 : decode cX7_init 49 = .ok (.new 37, 3) := by decide +kernel
theorem dX7_init_52 : decode cX7_init 52 = .ok (.dup, 1) := by decide +kernel
theorem dX7_init_53 : decode cX7_init 53 = .ok (.invokespecial 39, 3) := by decide +kernel
theorem dX7_init_56 : decode cX7_init 56 = .ok (.putfield 40, 3) := by decide +kernel
theorem dX7_init_59 : decode cX7_init 59 = .ok (.aload_n 0, 1) := by decide +kernel
theorem dX7_init_60 : decode cX7_init 60 = .ok (.new 44, 3) := by decide +kernel
theorem dX7_init_63 : decode cX7_init 63 = .ok (.dup, 1) := by decide +kernel
theorem dX7_init_64 : decode cX7_init 64 = .ok (.invokespecial 46, 3) := by decide +kernel
theorem dX7_init_67 : decode cX7_init 67 = .ok (.putfield 47, 3) := by decide +kernel
theorem dX7_init_70 : decode cX7_init 70 = .ok (.aload_n 0, 1) := by decide +kernel
theorem dX7_init_71 : decode cX7_init 71 = .ok (.new 44, 3) := by decide +kernel
theorem dX7_init_74 : decode cX7_init 74 = .ok (.dup, 1) := by decide +kernel
theorem dX7_init_75 : decode cX7_init 75 = .ok (.invokespecial 46, 3) := by decide +kernel
theorem dX7_init_78 : decode cX7_init 78 = .ok (.putfield 51, 3) := by decide +kernel
theorem dX7_init_81 : decode cX7_init 81 = .ok (.aload_n 0, 1) := by decide +kernel
theorem dX7_init_82 : decode cX7_init 82 = .ok (.iconst 0, 1) := by decide +kernel
theorem dX7_init_83 : decode cX7_init 83 = .ok (.putfield 54, 3) := by decide +kernel
theorem dX7_init_86 : decode cX7_init 86 = .ok (.aload_n 0, 1) := by decide +kernel
theorem dX7_init_87 : decode cX7_init 87 = .ok (.iconst (-1), 1) := by decide +kernel
theorem dX7_init_88 : decode cX7_init 88 = .ok (.putfield 58, 3) := by decide +kernel
theorem dX7_init_91 : decode cX7_init 91 = .ok (.aload_n 0, 1) := by decide +kernel
theorem dX7_init_92 : decode cX7_init 92 = .ok (.iconst (-1), 1) := by decide +kernel
theorem dX7_init_93 : decode cX7_init 93 = .ok (.putfield 62, 3) := by decide +kernel
theorem dX7_init_96 : decode cX7_init 96 = .ok (.return_, 1) := by decide +kernel
theorem dX7_addRow_0 : decode cX7_addRow 0 = .ok (.aload_n 0, 1) := by decide +kernel
theorem dX7_addRow_1 : decode cX7_addRow 1 = .ok (.iconst 0, 1) := by decide +kernel
theorem dX7_addRow_2 : decode cX7_addRow 2 = .ok (.iload_n 1, 1) := by decide +kernel
theorem dX7_addRow_3 : decode cX7_addRow 3 = .ok (.iconst 0, 1) := by decide +kernel
theorem dX7_addRow_4 : decode cX7_addRow 4 = .ok (.invokevirtual 65, 3) := by decide +kernel
theorem dX7_addRow_7 : decode cX7_addRow 7 = .ok (.ireturn, 1) := by decide +kernel
theorem dX7_addPhantoms_0 : decode cX7_addPhantoms 0 = .ok (.aload_n 0, 1) := by decide +kernel
theorem dX7_addPhantoms_1 : decode cX7_addPhantoms 1 = .ok (.iconst 1, 1) := by decide +kernel
theorem dX7_addPhantoms_2 : decode cX7_addPhantoms 2 = .ok (.iload_n 1, 1) := by decide +kernel
theorem dX7_addPhantoms_3 : decode cX7_addPhantoms 3 = .ok (.iload_n 2, 1) := by decide +kernel
theorem dX7_addPhantoms_4 : decode cX7_addPhantoms 4 = .ok (.invokevirtual 65, 3) := by decide +kernel
theorem dX7_addPhantoms_7 : decode cX7_addPhantoms 7 = .ok (.ireturn, 1) := by decide +kernel
theorem dX7_removePhantoms_0 : decode cX7_removePhantoms 0 = .ok (.aload_n 0, 1) := by decide +kernel
theorem dX7_removePhantoms_1 : decode cX7_removePhantoms 1 = .ok (.iconst 2, 1) := by decide +kernel
theorem dX7_removePhantoms_2 : decode cX7_removePhantoms 2 = .ok (.iload_n 1, 1) := by decide +kernel
theorem dX7_removePhantoms_3 : decode cX7_removePhantoms 3 = .ok (.iload_n 2, 1) := by decide +kernel
theorem dX7_removePhantoms_4 : decode cX7_removePhantoms 4 = .ok (.invokevirtual 65, 3) := by decide +kernel
theorem dX7_removePhantoms_7 : decode cX7_removePhantoms 7 = .ok (.ireturn, 1) := by decide +kernel
theorem dX7_add_0 : decode cX7_add 0 = .ok (.aload_n 0, 1) := by decide +kernel
theorem dX7_add_1 : decode cX7_add 1 = .ok (.iconst 3, 1) := by decide +kernel
theorem dX7_add_2 : decode cX7_add 2 = .ok (.iload_n 1, 1) := by decide +kernel
theorem dX7_add_3 : decode cX7_add 3 = .ok (.iload_n 2, 1) := by decide +kernel
theorem dX7_add_4 : decode cX7_add 4 = .ok (.invokevirtual 65, 3) := by decide +kernel
theorem dX7_add_7 : decode cX7_add 7 = .ok (.ireturn, 1) := by decide +kernel
theorem dX7_move_0 : decode cX7_move 0 = .ok (.aload_n 0, 1) := by decide +kernel
theorem dX7_move_1 : decode cX7_move 1 = .ok (.iconst 4, 1) := by decide +kernel
theorem dX7_move_2 : decode cX7_move 2 = .ok (.iload_n 1, 1) := by decide +kernel
theorem dX7_move_3 : decode cX7_move 3 = .ok (.iload_n 2, 1) := by decide +kernel
theorem dX7_move_4 : decode cX7_move 4 = .ok (.invokevirtual 65, 3) := by decide +kernel
theorem dX7_move_7 : decode cX7_move 7 = .ok (.ireturn, 1) := by decide +kernel
theorem dX7_remove_0 : decode cX7_remove 0 = .ok (.aload_n 0, 1) := by decide +kernel
theorem dX7_remove_1 : decode cX7_remove 1 = .ok (.iconst 5, 1) := by decide +kernel
theorem dX7_remove_2 : decode cX7_remove 2 = .ok (.iload_n 1, 1) := by decide +kernel
theorem dX7_remove_3 : decode cX7_remove 3 = .ok (.iconst 0, 1) := by decide +kernel
theorem dX7_remove_4 : decode cX7_remove 4 = .ok (.invokevirtual 65, 3) := by decide +kernel
theorem dX7_remove_7 : decode cX7_remove 7 = .ok (.ireturn, 1) := by decide +kernel
theorem dX7_setHeir_0 : decode cX7_setHeir 0 = .ok (.aload_n 0, 1) := by decide +kernel
theorem dX7_setHeir_1 : decode cX7_setHeir 1 = .ok (.bipush 6, 2) := by decide +kernel
theorem dX7_setHeir_3 : decode cX7_setHeir 3 = .ok (.iload_n 1, 1) := by decide +kernel
theorem dX7_setHeir_4 : decode cX7_setHeir 4 = .ok (.iload_n 2, 1) := by decide +kernel
theorem dX7_setHeir_5 : decode cX7_setHeir 5 = .ok (.invokevirtual 65, 3) := by decide +kernel
theorem dX7_setHeir_8 : decode cX7_setHeir 8 = .ok (.ireturn, 1) := by decide +kernel
theorem dX7_clearHeir_0 : decode cX7_clearHeir 0 = .ok (.aload_n 0, 1) := by decide +kernel
theorem dX7_clearHeir_1 : decode cX7_clearHeir 1 = .ok (.bipush 7, 2) := by decide +kernel
theorem dX7_clearHeir_3 : decode cX7_clearHeir 3 = .ok (.iload_n 1, 1) := by decide +kernel
theorem dX7_clearHeir_4 : decode cX7_clearHeir 4 = .ok (.iconst 0, 1) := by decide +kernel
theorem dX7_clearHeir_5 : decode cX7_clearHeir 5 = .ok (.invokevirtual 65, 3) := by decide +kernel
theorem dX7_clearHeir_8 : decode cX7_clearHeir 8 = .ok (.ireturn, 1) := by decide +kernel
theorem dX7_lock_0 : decode cX7_lock 0 = .ok (.aload_n 0, 1) := by decide +kernel
theorem dX7_lock_1 : decode cX7_lock 1 = .ok (.bipush 8, 2) := by decide +kernel
theorem dX7_lock_3 : decode cX7_lock 3 = .ok (.iload_n 1, 1) := by decide +kernel
theorem dX7_lock_4 : decode cX7_lock 4 = .ok (.iconst 0, 1) := by decide +kernel
theorem dX7_lock_5 : decode cX7_lock 5 = .ok (.invokevirtual 65, 3) := by decide +kernel
theorem dX7_lock_8 : decode cX7_lock 8 = .ok (.ireturn, 1) := by decide +kernel
theorem dX7_unlock_0 : decode cX7_unlock 0 = .ok (.aload_n 0, 1) := by decide +kernel
theorem dX7_unlock_1 : decode cX7_unlock 1 = .ok (.bipush 9, 2) := by decide +kernel
theorem dX7_unlock_3 : decode cX7_unlock 3 = .ok (.iload_n 1, 1) := by decide +kernel
theorem dX7_unlock_4 : decode cX7_unlock 4 = .ok (.iconst 0, 1) := by decide +kernel
theorem dX7_unlock_5 : decode cX7_unlock 5 = .ok (.invokevirtual 65, 3) := by decide +kernel
theorem dX7_unlock_8 : decode cX7_unlock 8 = .ok (.ireturn, 1) := by decide +kernel
theorem dX7_nameRow_0 : decode cX7_nameRow 0 = .ok (.aload_n 0, 1) := by decide +kernel
theorem dX7_nameRow_1 : decode cX7_nameRow 1 = .ok (.bipush 10, 2) := by decide +kernel
theorem dX7_nameRow_3 : decode cX7_nameRow 3 = .ok (.iload_n 1, 1) := by decide +kernel
theorem dX7_nameRow_4 : decode cX7_nameRow 4 = .ok (.iload_n 2, 1) := by decide +kernel
theorem dX7_nameRow_5 : decode cX7_nameRow 5 = .ok (.invokevirtual 65, 3) := by decide +kernel
theorem dX7_nameRow_8 : decode cX7_nameRow 8 = .ok (.ireturn, 1) := by decide +kernel
theorem dX7_spread_0 : decode cX7_spread 0 = .ok (.aload_n 0, 1) := by decide +kernel
theorem dX7_spread_1 : decode cX7_spread 1 = .ok (.bipush 11, 2) := by decide +kernel
theorem dX7_spread_3 : decode cX7_spread 3 = .ok (.iload_n 1, 1) := by decide +kernel
theorem dX7_spread_4 : decode cX7_spread 4 = .ok (.iconst 0, 1) := by decide +kernel
theorem dX7_spread_5 : decode cX7_spread 5 = .ok (.invokevirtual 65, 3) := by decide +kernel
theorem dX7_spread_8 : decode cX7_spread 8 = .ok (.ireturn, 1) := by decide +kernel
theorem dX7_change_0 : decode cX7_change 0 = .ok (.aload_n 0, 1) := by decide +kernel
theorem dX7_change_1 : decode cX7_change 1 = .ok (.getfield 10, 3) := by decide +kernel
theorem dX7_change_4 : decode cX7_change 4 = .ok (.invokevirtual 69, 3) := by decide +kernel
theorem dX7_change_7 : decode cX7_change 7 = .ok (.astore 4, 2) := by decide +kernel
theorem dX7_change_9 : decode cX7_change 9 = .ok (.aload 4, 2) := by decide +kernel
theorem dX7_change_11 : decode cX7_change 11 = .ok (.iload_n 1, 1) := by decide +kernel
theorem dX7_change_12 : decode cX7_change 12 = .ok (.iload_n 2, 1) := by decide +kernel
theorem dX7_change_13 : decode cX7_change 13 = .ok (.iload_n 3, 1) := by decide +kernel
theorem dX7_change_14 : decode cX7_change 14 = .ok (.invokestatic 73, 3) := by decide +kernel
theorem dX7_change_17 : decode cX7_change 17 = .ok (.invokestatic 79, 3) := by decide +kernel
theorem dX7_change_20 : decode cX7_change 20 = .ok (.aload 4, 2) := by decide +kernel
theorem dX7_change_22 : decode cX7_change 22 = .ok (.iload_n 1, 1) := by decide +kernel
theorem dX7_change_23 : decode cX7_change 23 = .ok (.iload_n 2, 1) := by decide +kernel
theorem dX7_change_24 : decode cX7_change 24 = .ok (.iload_n 3, 1) := by decide +kernel
theorem dX7_change_25 : decode cX7_change 25 = .ok (.invokestatic 83, 3) := by decide +kernel
theorem dX7_change_28 : decode cX7_change 28 = .ok (.istore 5, 2) := by decide +kernel
theorem dX7_change_30 : decode cX7_change 30 = .ok (.aload_n 0, 1) := by decide +kernel
theorem dX7_change_31 : decode cX7_change 31 = .ok (.getfield 10, 3) := by decide +kernel
theorem dX7_change_34 : decode cX7_change 34 = .ok (.invokevirtual 88, 3) := by decide +kernel
theorem dX7_change_37 : decode cX7_change 37 = .ok (.iload 5, 2) := by decide +kernel
theorem dX7_change_39 : decode cX7_change 39 = .ok (.ireturn, 1) := by decide +kernel
theorem dX7_throwRefusal_0 : decode cX7_throwRefusal 0 = .ok (.iload_n 0, 1) := by decide +kernel
theorem dX7_throwRefusal_1 : decode cX7_throwRefusal 1 = .ok (.iconst 1, 1) := by decide +kernel
theorem dX7_throwRefusal_2 : decode cX7_throwRefusal 2 = .ok (.if_icmp .ne 13, 3) := by decide +kernel
theorem dX7_throwRefusal_5 : decode cX7_throwRefusal 5 = .ok (.new 91, 3) := by decide +kernel
theorem dX7_throwRefusal_8 : decode cX7_throwRefusal 8 = .ok (.dup, 1) := by decide +kernel
theorem dX7_throwRefusal_9 : decode cX7_throwRefusal 9 = .ok (.ldc 93, 2) := by decide +kernel
theorem dX7_throwRefusal_11 : decode cX7_throwRefusal 11 = .ok (.invokespecial 95, 3) := by decide +kernel
theorem dX7_throwRefusal_14 : decode cX7_throwRefusal 14 = .ok (.athrow, 1) := by decide +kernel
theorem dX7_throwRefusal_15 : decode cX7_throwRefusal 15 = .ok (.iload_n 0, 1) := by decide +kernel
theorem dX7_throwRefusal_16 : decode cX7_throwRefusal 16 = .ok (.iconst 2, 1) := by decide +kernel
theorem dX7_throwRefusal_17 : decode cX7_throwRefusal 17 = .ok (.if_icmp .ne 13, 3) := by decide +kernel
theorem dX7_throwRefusal_20 : decode cX7_throwRefusal 20 = .ok (.new 98, 3) := by decide +kernel
theorem dX7_throwRefusal_23 : decode cX7_throwRefusal 23 = .ok (.dup, 1) := by decide +kernel
theorem dX7_throwRefusal_24 : decode cX7_throwRefusal 24 = .ok (.ldc 100, 2) := by decide +kernel
theorem dX7_throwRefusal_26 : decode cX7_throwRefusal 26 = .ok (.invokespecial 102, 3) := by decide +kernel
theorem dX7_throwRefusal_29 : decode cX7_throwRefusal 29 = .ok (.athrow, 1) := by decide +kernel
theorem dX7_throwRefusal_30 : decode cX7_throwRefusal 30 = .ok (.iload_n 0, 1) := by decide +kernel
theorem dX7_throwRefusal_31 : decode cX7_throwRefusal 31 = .ok (.iconst 3, 1) := by decide +kernel
theorem dX7_throwRefusal_32 : decode cX7_throwRefusal 32 = .ok (.if_icmp .ne 13, 3) := by decide +kernel
theorem dX7_throwRefusal_35 : decode cX7_throwRefusal 35 = .ok (.new 103, 3) := by decide +kernel
theorem dX7_throwRefusal_38 : decode cX7_throwRefusal 38 = .ok (.dup, 1) := by decide +kernel
theorem dX7_throwRefusal_39 : decode cX7_throwRefusal 39 = .ok (.ldc 105, 2) := by decide +kernel
theorem dX7_throwRefusal_41 : decode cX7_throwRefusal 41 = .ok (.invokespecial 107, 3) := by decide +kernel
theorem dX7_throwRefusal_44 : decode cX7_throwRefusal 44 = .ok (.athrow, 1) := by decide +kernel
theorem dX7_throwRefusal_45 : decode cX7_throwRefusal 45 = .ok (.iload_n 0, 1) := by decide +kernel
theorem dX7_throwRefusal_46 : decode cX7_throwRefusal 46 = .ok (.iconst 4, 1) := by decide +kernel
theorem dX7_throwRefusal_47 : decode cX7_throwRefusal 47 = .ok (.if_icmp .ne 13, 3) := by decide +kernel
theorem dX7_throwRefusal_50 : decode cX7_throwRefusal 50 = .ok (.new 108, 3) := by decide +kernel
theorem dX7_throwRefusal_53 : decode cX7_throwRefusal 53 = .ok (.dup, 1) := by decide +kernel
theorem dX7_throwRefusal_54 : decode cX7_throwRefusal 54 = .ok (.ldc 110, 2) := by decide +kernel
theorem dX7_throwRefusal_56 : decode cX7_throwRefusal 56 = .ok (.invokespecial 112, 3) := by decide +kernel
theorem dX7_throwRefusal_59 : decode cX7_throwRefusal 59 = .ok (.athrow, 1) := by decide +kernel
theorem dX7_throwRefusal_60 : decode cX7_throwRefusal 60 = .ok (.return_, 1) := by decide +kernel
theorem dX7_rowCount_0 : decode cX7_rowCount 0 = .ok (.aload_n 0, 1) := by decide +kernel
theorem dX7_rowCount_1 : decode cX7_rowCount 1 = .ok (.getfield 10, 3) := by decide +kernel
theorem dX7_rowCount_4 : decode cX7_rowCount 4 = .ok (.invokevirtual 113, 3) := by decide +kernel
theorem dX7_rowCount_7 : decode cX7_rowCount 7 = .ok (.getfield 116, 3) := by decide +kernel
theorem dX7_rowCount_10 : decode cX7_rowCount 10 = .ok (.ireturn, 1) := by decide +kernel
theorem dX7_capacity_0 : decode cX7_capacity 0 = .ok (.aload_n 0, 1) := by decide +kernel
theorem dX7_capacity_1 : decode cX7_capacity 1 = .ok (.iload_n 1, 1) := by decide +kernel
theorem dX7_capacity_2 : decode cX7_capacity 2 = .ok (.invokevirtual 119, 3) := by decide +kernel
theorem dX7_capacity_5 : decode cX7_capacity 5 = .ok (.getfield 123, 3) := by decide +kernel
theorem dX7_capacity_8 : decode cX7_capacity 8 = .ok (.iload_n 1, 1) := by decide +kernel
theorem dX7_capacity_9 : decode cX7_capacity 9 = .ok (.iaload, 1) := by decide +kernel
theorem dX7_capacity_10 : decode cX7_capacity 10 = .ok (.ireturn, 1) := by decide +kernel
theorem dX7_occupancy_0 : decode cX7_occupancy 0 = .ok (.aload_n 0, 1) := by decide +kernel
theorem dX7_occupancy_1 : decode cX7_occupancy 1 = .ok (.iload_n 1, 1) := by decide +kernel
theorem dX7_occupancy_2 : decode cX7_occupancy 2 = .ok (.invokevirtual 119, 3) := by decide +kernel
theorem dX7_occupancy_5 : decode cX7_occupancy 5 = .ok (.iload_n 1, 1) := by decide +kernel
theorem dX7_occupancy_6 : decode cX7_occupancy 6 = .ok (.invokevirtual 130, 3) := by decide +kernel
theorem dX7_occupancy_9 : decode cX7_occupancy 9 = .ok (.ireturn, 1) := by decide +kernel
theorem dX7_isLocked_0 : decode cX7_isLocked 0 = .ok (.aload_n 0, 1) := by decide +kernel
theorem dX7_isLocked_1 : decode cX7_isLocked 1 = .ok (.iload_n 1, 1) := by decide +kernel
theorem dX7_isLocked_2 : decode cX7_isLocked 2 = .ok (.invokevirtual 119, 3) := by decide +kernel
theorem dX7_isLocked_5 : decode cX7_isLocked 5 = .ok (.getfield 140, 3) := by decide +kernel
theorem dX7_isLocked_8 : decode cX7_isLocked 8 = .ok (.iload_n 1, 1) := by decide +kernel
theorem dX7_isLocked_9 : decode cX7_isLocked 9 = .ok (.baload, 1) := by decide +kernel
theorem dX7_isLocked_10 : decode cX7_isLocked 10 = .ok (.ireturn, 1) := by decide +kernel
theorem dX7_isCrowded_0 : decode cX7_isCrowded 0 = .ok (.aload_n 0, 1) := by decide +kernel
theorem dX7_isCrowded_1 : decode cX7_isCrowded 1 = .ok (.iload_n 1, 1) := by decide +kernel
theorem dX7_isCrowded_2 : decode cX7_isCrowded 2 = .ok (.invokevirtual 119, 3) := by decide +kernel
theorem dX7_isCrowded_5 : decode cX7_isCrowded 5 = .ok (.iload_n 1, 1) := by decide +kernel
theorem dX7_isCrowded_6 : decode cX7_isCrowded 6 = .ok (.invokevirtual 144, 3) := by decide +kernel
theorem dX7_isCrowded_9 : decode cX7_isCrowded 9 = .ok (.ireturn, 1) := by decide +kernel
theorem dX7_idInRow_0 : decode cX7_idInRow 0 = .ok (.aload_n 0, 1) := by decide +kernel
theorem dX7_idInRow_1 : decode cX7_idInRow 1 = .ok (.iload_n 1, 1) := by decide +kernel
theorem dX7_idInRow_2 : decode cX7_idInRow 2 = .ok (.invokevirtual 119, 3) := by decide +kernel
theorem dX7_idInRow_5 : decode cX7_idInRow 5 = .ok (.iload_n 1, 1) := by decide +kernel
theorem dX7_idInRow_6 : decode cX7_idInRow 6 = .ok (.iload_n 2, 1) := by decide +kernel
theorem dX7_idInRow_7 : decode cX7_idInRow 7 = .ok (.invokevirtual 148, 3) := by decide +kernel
theorem dX7_idInRow_10 : decode cX7_idInRow 10 = .ok (.istore_n 3, 1) := by decide +kernel
theorem dX7_idInRow_11 : decode cX7_idInRow 11 = .ok (.iload_n 3, 1) := by decide +kernel
theorem dX7_idInRow_12 : decode cX7_idInRow 12 = .ok (.iconst (-1), 1) := by decide +kernel
theorem dX7_idInRow_13 : decode cX7_idInRow 13 = .ok (.if_icmp .ne 13, 3) := by decide +kernel
theorem dX7_idInRow_16 : decode cX7_idInRow 16 = .ok (.new 91, 3) := by decide +kernel
theorem dX7_idInRow_19 : decode cX7_idInRow 19 = .ok (.dup, 1) := by decide +kernel
theorem dX7_idInRow_20 : decode cX7_idInRow 20 = .ok (.ldc 152, 2) := by decide +kernel
theorem dX7_idInRow_22 : decode cX7_idInRow 22 = .ok (.invokespecial 95, 3) := by decide +kernel
theorem dX7_idInRow_25 : decode cX7_idInRow 25 = .ok (.athrow, 1) := by decide +kernel
theorem dX7_idInRow_26 : decode cX7_idInRow 26 = .ok (.iload_n 3, 1) := by decide +kernel
theorem dX7_idInRow_27 : decode cX7_idInRow 27 = .ok (.ireturn, 1) := by decide +kernel
theorem dX7_theatreWithRow_0 : decode cX7_theatreWithRow 0 = .ok (.aload_n 0, 1) := by decide +kernel
theorem dX7_theatreWithRow_1 : decode cX7_theatreWithRow 1 = .ok (.getfield 10, 3) := by decide +kernel
theorem dX7_theatreWithRow_4 : decode cX7_theatreWithRow 4 = .ok (.invokevirtual 113, 3) := by decide +kernel
theorem dX7_theatreWithRow_7 : decode cX7_theatreWithRow 7 = .ok (.astore_n 2, 1) := by decide +kernel
theorem dX7_theatreWithRow_8 : decode cX7_theatreWithRow 8 = .ok (.aload_n 2, 1) := by decide +kernel
theorem dX7_theatreWithRow_9 : decode cX7_theatreWithRow 9 = .ok (.iload_n 1, 1) := by decide +kernel
theorem dX7_theatreWithRow_10 : decode cX7_theatreWithRow 10 = .ok (.invokevirtual 154, 3) := by decide +kernel
theorem dX7_theatreWithRow_13 : decode cX7_theatreWithRow 13 = .ok (.ifCond .ne 13, 3) := by decide +kernel
theorem dX7_theatreWithRow_16 : decode cX7_theatreWithRow 16 = .ok (.new 98, 3) := by decide +kernel
theorem dX7_theatreWithRow_19 : decode cX7_theatreWithRow 19 = .ok (.dup, 1) := by decide +kernel
theorem dX7_theatreWithRow_20 : decode cX7_theatreWithRow 20 = .ok (.ldc 100, 2) := by decide +kernel
theorem dX7_theatreWithRow_22 : decode cX7_theatreWithRow 22 = .ok (.invokespecial 102, 3) := by decide +kernel
theorem dX7_theatreWithRow_25 : decode cX7_theatreWithRow 25 = .ok (.athrow, 1) := by decide +kernel
theorem dX7_theatreWithRow_26 : decode cX7_theatreWithRow 26 = .ok (.aload_n 2, 1) := by decide +kernel
theorem dX7_theatreWithRow_27 : decode cX7_theatreWithRow 27 = .ok (.areturn, 1) := by decide +kernel
theorem dX7_echoCount_0 : decode cX7_echoCount 0 = .ok (.aload_n 0, 1) := by decide +kernel
theorem dX7_echoCount_1 : decode cX7_echoCount 1 = .ok (.getfield 10, 3) := by decide +kernel
theorem dX7_echoCount_4 : decode cX7_echoCount 4 = .ok (.invokevirtual 113, 3) := by decide +kernel
theorem dX7_echoCount_7 : decode cX7_echoCount 7 = .ok (.getfield 157, 3) := by decide +kernel
theorem dX7_echoCount_10 : decode cX7_echoCount 10 = .ok (.ireturn, 1) := by decide +kernel
theorem dX7_isActive_0 : decode cX7_isActive 0 = .ok (.aload_n 0, 1) := by decide +kernel
theorem dX7_isActive_1 : decode cX7_isActive 1 = .ok (.getfield 10, 3) := by decide +kernel
theorem dX7_isActive_4 : decode cX7_isActive 4 = .ok (.invokevirtual 113, 3) := by decide +kernel
theorem dX7_isActive_7 : decode cX7_isActive 7 = .ok (.iload_n 1, 1) := by decide +kernel
theorem dX7_isActive_8 : decode cX7_isActive 8 = .ok (.invokevirtual 160, 3) := by decide +kernel
theorem dX7_isActive_11 : decode cX7_isActive 11 = .ok (.iconst (-1), 1) := by decide +kernel
theorem dX7_isActive_12 : decode cX7_isActive 12 = .ok (.if_icmp .eq 7, 3) := by decide +kernel
theorem dX7_isActive_15 : decode cX7_isActive 15 = .ok (.iconst 1, 1) := by decide +kernel
theorem dX7_isActive_16 : decode cX7_isActive 16 = .ok (.goto 4, 3) := by decide +kernel
theorem dX7_isActive_19 : decode cX7_isActive 19 = .ok (.iconst 0, 1) := by decide +kernel
theorem dX7_isActive_20 : decode cX7_isActive 20 = .ok (.ireturn, 1) := by decide +kernel
theorem dX7_rowOf_0 : decode cX7_rowOf 0 = .ok (.aload_n 0, 1) := by decide +kernel
theorem dX7_rowOf_1 : decode cX7_rowOf 1 = .ok (.getfield 10, 3) := by decide +kernel
theorem dX7_rowOf_4 : decode cX7_rowOf 4 = .ok (.invokevirtual 113, 3) := by decide +kernel
theorem dX7_rowOf_7 : decode cX7_rowOf 7 = .ok (.getfield 163, 3) := by decide +kernel
theorem dX7_rowOf_10 : decode cX7_rowOf 10 = .ok (.aload_n 0, 1) := by decide +kernel
theorem dX7_rowOf_11 : decode cX7_rowOf 11 = .ok (.iload_n 1, 1) := by decide +kernel
theorem dX7_rowOf_12 : decode cX7_rowOf 12 = .ok (.invokevirtual 166, 3) := by decide +kernel
theorem dX7_rowOf_15 : decode cX7_rowOf 15 = .ok (.iaload, 1) := by decide +kernel
theorem dX7_rowOf_16 : decode cX7_rowOf 16 = .ok (.ireturn, 1) := by decide +kernel
theorem dX7_loudness_0 : decode cX7_loudness 0 = .ok (.aload_n 0, 1) := by decide +kernel
theorem dX7_loudness_1 : decode cX7_loudness 1 = .ok (.getfield 10, 3) := by decide +kernel
theorem dX7_loudness_4 : decode cX7_loudness 4 = .ok (.invokevirtual 113, 3) := by decide +kernel
theorem dX7_loudness_7 : decode cX7_loudness 7 = .ok (.getfield 169, 3) := by decide +kernel
theorem dX7_loudness_10 : decode cX7_loudness 10 = .ok (.aload_n 0, 1) := by decide +kernel
theorem dX7_loudness_11 : decode cX7_loudness 11 = .ok (.iload_n 1, 1) := by decide +kernel
theorem dX7_loudness_12 : decode cX7_loudness 12 = .ok (.invokevirtual 166, 3) := by decide +kernel
theorem dX7_loudness_15 : decode cX7_loudness 15 = .ok (.iaload, 1) := by decide +kernel
theorem dX7_loudness_16 : decode cX7_loudness 16 = .ok (.ireturn, 1) := by decide +kernel
theorem dX7_positionInRow_0 : decode cX7_positionInRow 0 = .ok (.aload_n 0, 1) := by decide +kernel
theorem dX7_positionInRow_1 : decode cX7_positionInRow 1 = .ok (.getfield 10, 3) := by decide +kernel
theorem dX7_positionInRow_4 : decode cX7_positionInRow 4 = .ok (.invokevirtual 113, 3) := by decide +kernel
theorem dX7_positionInRow_7 : decode cX7_positionInRow 7 = .ok (.aload_n 0, 1) := by decide +kernel
theorem dX7_positionInRow_8 : decode cX7_positionInRow 8 = .ok (.iload_n 1, 1) := by decide +kernel
theorem dX7_positionInRow_9 : decode cX7_positionInRow 9 = .ok (.invokevirtual 166, 3) := by decide +kernel
theorem dX7_positionInRow_12 : decode cX7_positionInRow 12 = .ok (.invokevirtual 172, 3) := by decide +kernel
theorem dX7_positionInRow_15 : decode cX7_positionInRow 15 = .ok (.ireturn, 1) := by decide +kernel
theorem dX7_heir_0 : decode cX7_heir 0 = .ok (.aload_n 0, 1) := by decide +kernel
theorem dX7_heir_1 : decode cX7_heir 1 = .ok (.getfield 10, 3) := by decide +kernel
theorem dX7_heir_4 : decode cX7_heir 4 = .ok (.invokevirtual 113, 3) := by decide +kernel
theorem dX7_heir_7 : decode cX7_heir 7 = .ok (.getfield 175, 3) := by decide +kernel
theorem dX7_heir_10 : decode cX7_heir 10 = .ok (.aload_n 0, 1) := by decide +kernel
theorem dX7_heir_11 : decode cX7_heir 11 = .ok (.iload_n 1, 1) := by decide +kernel
theorem dX7_heir_12 : decode cX7_heir 12 = .ok (.invokevirtual 166, 3) := by decide +kernel
theorem dX7_heir_15 : decode cX7_heir 15 = .ok (.iaload, 1) := by decide +kernel
theorem dX7_heir_16 : decode cX7_heir 16 = .ok (.istore_n 2, 1) := by decide +kernel
theorem dX7_heir_17 : decode cX7_heir 17 = .ok (.iload_n 2, 1) := by decide +kernel
theorem dX7_heir_18 : decode cX7_heir 18 = .ok (.iconst (-1), 1) := by decide +kernel
theorem dX7_heir_19 : decode cX7_heir 19 = .ok (.if_icmp .ne 13, 3) := by decide +kernel
theorem dX7_heir_22 : decode cX7_heir 22 = .ok (.new 108, 3) := by decide +kernel
theorem dX7_heir_25 : decode cX7_heir 25 = .ok (.dup, 1) := by decide +kernel
theorem dX7_heir_26 : decode cX7_heir 26 = .ok (.ldc 178, 2) := by decide +kernel
theorem dX7_heir_28 : decode cX7_heir 28 = .ok (.invokespecial 112, 3) := by decide +kernel
theorem dX7_heir_31 : decode cX7_heir 31 = .ok (.athrow, 1) := by decide +kernel
theorem dX7_heir_32 : decode cX7_heir 32 = .ok (.iload_n 2, 1) := by decide +kernel
theorem dX7_heir_33 : decode cX7_heir 33 = .ok (.ireturn, 1) := by decide +kernel
theorem dX7_lastHeir_0 : decode cX7_lastHeir 0 = .ok (.aload_n 0, 1) := by decide +kernel
theorem dX7_lastHeir_1 : decode cX7_lastHeir 1 = .ok (.getfield 10, 3) := by decide +kernel
theorem dX7_lastHeir_4 : decode cX7_lastHeir 4 = .ok (.invokevirtual 113, 3) := by decide +kernel
theorem dX7_lastHeir_7 : decode cX7_lastHeir 7 = .ok (.astore_n 2, 1) := by decide +kernel
theorem dX7_lastHeir_8 : decode cX7_lastHeir 8 = .ok (.aload_n 2, 1) := by decide +kernel
theorem dX7_lastHeir_9 : decode cX7_lastHeir 9 = .ok (.getfield 180, 3) := by decide +kernel
theorem dX7_lastHeir_12 : decode cX7_lastHeir 12 = .ok (.aload_n 2, 1) := by decide +kernel
theorem dX7_lastHeir_13 : decode cX7_lastHeir 13 = .ok (.aload_n 0, 1) := by decide +kernel
theorem dX7_lastHeir_14 : decode cX7_lastHeir 14 = .ok (.iload_n 1, 1) := by decide +kernel
theorem dX7_lastHeir_15 : decode cX7_lastHeir 15 = .ok (.invokevirtual 166, 3) := by decide +kernel
theorem dX7_lastHeir_18 : decode cX7_lastHeir 18 = .ok (.invokevirtual 183, 3) := by decide +kernel
theorem dX7_lastHeir_21 : decode cX7_lastHeir 21 = .ok (.iaload, 1) := by decide +kernel
theorem dX7_lastHeir_22 : decode cX7_lastHeir 22 = .ok (.ireturn, 1) := by decide +kernel
theorem dX7_lastHeirByDoubling_0 : decode cX7_lastHeirByDoubling 0 = .ok (.aload_n 0, 1) := by decide +kernel
theorem dX7_lastHeirByDoubling_1 : decode cX7_lastHeirByDoubling 1 = .ok (.iload_n 1, 1) := by decide +kernel
theorem dX7_lastHeirByDoubling_2 : decode cX7_lastHeirByDoubling 2 = .ok (.invokevirtual 166, 3) := by decide +kernel
theorem dX7_lastHeirByDoubling_5 : decode cX7_lastHeirByDoubling 5 = .ok (.istore_n 2, 1) := by decide +kernel
theorem dX7_lastHeirByDoubling_6 : decode cX7_lastHeirByDoubling 6 = .ok (.aload_n 0, 1) := by decide +kernel
theorem dX7_lastHeirByDoubling_7 : decode cX7_lastHeirByDoubling 7 = .ok (.getfield 10, 3) := by decide +kernel
theorem dX7_lastHeirByDoubling_10 : decode cX7_lastHeirByDoubling 10 = .ok (.invokevirtual 113, 3) := by decide +kernel
theorem dX7_lastHeirByDoubling_13 : decode cX7_lastHeirByDoubling 13 = .ok (.astore_n 3, 1) := by decide +kernel
theorem dX7_lastHeirByDoubling_14 : decode cX7_lastHeirByDoubling 14 = .ok (.aload_n 0, 1) := by decide +kernel
theorem dX7_lastHeirByDoubling_15 : decode cX7_lastHeirByDoubling 15 = .ok (.getfield 33, 3) := by decide +kernel
theorem dX7_lastHeirByDoubling_18 : decode cX7_lastHeirByDoubling 18 = .ok (.aload_n 3, 1) := by decide +kernel
theorem dX7_lastHeirByDoubling_19 : decode cX7_lastHeirByDoubling 19 = .ok (.invokevirtual 186, 3) := by decide +kernel
theorem dX7_lastHeirByDoubling_22 : decode cX7_lastHeirByDoubling 22 = .ok (.aload_n 3, 1) := by decide +kernel
theorem dX7_lastHeirByDoubling_23 : decode cX7_lastHeirByDoubling 23 = .ok (.getfield 180, 3) := by decide +kernel
theorem dX7_lastHeirByDoubling_26 : decode cX7_lastHeirByDoubling 26 = .ok (.aload_n 0, 1) := by decide +kernel
theorem dX7_lastHeirByDoubling_27 : decode cX7_lastHeirByDoubling 27 = .ok (.getfield 33, 3) := by decide +kernel
theorem dX7_lastHeirByDoubling_30 : decode cX7_lastHeirByDoubling 30 = .ok (.iload_n 2, 1) := by decide +kernel
theorem dX7_lastHeirByDoubling_31 : decode cX7_lastHeirByDoubling 31 = .ok (.invokevirtual 190, 3) := by decide +kernel
theorem dX7_lastHeirByDoubling_34 : decode cX7_lastHeirByDoubling 34 = .ok (.iaload, 1) := by decide +kernel
theorem dX7_lastHeirByDoubling_35 : decode cX7_lastHeirByDoubling 35 = .ok (.ireturn, 1) := by decide +kernel
theorem dX7_stepsToLastHeir_0 : decode cX7_stepsToLastHeir 0 = .ok (.aload_n 0, 1) := by decide +kernel
theorem dX7_stepsToLastHeir_1 : decode cX7_stepsToLastHeir 1 = .ok (.getfield 10, 3) := by decide +kernel
theorem dX7_stepsToLastHeir_4 : decode cX7_stepsToLastHeir 4 = .ok (.invokevirtual 113, 3) := by decide +kernel
theorem dX7_stepsToLastHeir_7 : decode cX7_stepsToLastHeir 7 = .ok (.aload_n 0, 1) := by decide +kernel
theorem dX7_stepsToLastHeir_8 : decode cX7_stepsToLastHeir 8 = .ok (.iload_n 1, 1) := by decide +kernel
theorem dX7_stepsToLastHeir_9 : decode cX7_stepsToLastHeir 9 = .ok (.invokevirtual 166, 3) := by decide +kernel
theorem dX7_stepsToLastHeir_12 : decode cX7_stepsToLastHeir 12 = .ok (.invokevirtual 193, 3) := by decide +kernel
theorem dX7_stepsToLastHeir_15 : decode cX7_stepsToLastHeir 15 = .ok (.ireturn, 1) := by decide +kernel
theorem dX7_bequeathers_0 : decode cX7_bequeathers 0 = .ok (.aload_n 0, 1) := by decide +kernel
theorem dX7_bequeathers_1 : decode cX7_bequeathers 1 = .ok (.getfield 10, 3) := by decide +kernel
theorem dX7_bequeathers_4 : decode cX7_bequeathers 4 = .ok (.invokevirtual 113, 3) := by decide +kernel
theorem dX7_bequeathers_7 : decode cX7_bequeathers 7 = .ok (.astore_n 2, 1) := by decide +kernel
theorem dX7_bequeathers_8 : decode cX7_bequeathers 8 = .ok (.aload_n 2, 1) := by decide +kernel
theorem dX7_bequeathers_9 : decode cX7_bequeathers 9 = .ok (.aload_n 2, 1) := by decide +kernel
theorem dX7_bequeathers_10 : decode cX7_bequeathers 10 = .ok (.getfield 180, 3) := by decide +kernel
theorem dX7_bequeathers_13 : decode cX7_bequeathers 13 = .ok (.aload_n 0, 1) := by decide +kernel
theorem dX7_bequeathers_14 : decode cX7_bequeathers 14 = .ok (.iload_n 1, 1) := by decide +kernel
theorem dX7_bequeathers_15 : decode cX7_bequeathers 15 = .ok (.invokevirtual 166, 3) := by decide +kernel
theorem dX7_bequeathers_18 : decode cX7_bequeathers 18 = .ok (.iaload, 1) := by decide +kernel
theorem dX7_bequeathers_19 : decode cX7_bequeathers 19 = .ok (.invokevirtual 196, 3) := by decide +kernel
theorem dX7_bequeathers_22 : decode cX7_bequeathers 22 = .ok (.ireturn, 1) := by decide +kernel
theorem dX7_slotOfActive_0 : decode cX7_slotOfActive 0 = .ok (.aload_n 0, 1) := by decide +kernel
theorem dX7_slotOfActive_1 : decode cX7_slotOfActive 1 = .ok (.getfield 10, 3) := by decide +kernel
theorem dX7_slotOfActive_4 : decode cX7_slotOfActive 4 = .ok (.invokevirtual 113, 3) := by decide +kernel
theorem dX7_slotOfActive_7 : decode cX7_slotOfActive 7 = .ok (.iload_n 1, 1) := by decide +kernel
theorem dX7_slotOfActive_8 : decode cX7_slotOfActive 8 = .ok (.invokevirtual 160, 3) := by decide +kernel
theorem dX7_slotOfActive_11 : decode cX7_slotOfActive 11 = .ok (.istore_n 2, 1) := by decide +kernel
theorem dX7_slotOfActive_12 : decode cX7_slotOfActive 12 = .ok (.iload_n 2, 1) := by decide +kernel
theorem dX7_slotOfActive_13 : decode cX7_slotOfActive 13 = .ok (.iconst (-1), 1) := by decide +kernel
theorem dX7_slotOfActive_14 : decode cX7_slotOfActive 14 = .ok (.if_icmp .ne 13, 3) := by decide +kernel
theorem dX7_slotOfActive_17 : decode cX7_slotOfActive 17 = .ok (.new 91, 3) := by decide +kernel
theorem dX7_slotOfActive_20 : decode cX7_slotOfActive 20 = .ok (.dup, 1) := by decide +kernel
theorem dX7_slotOfActive_21 : decode cX7_slotOfActive 21 = .ok (.ldc 93, 2) := by decide +kernel
theorem dX7_slotOfActive_23 : decode cX7_slotOfActive 23 = .ok (.invokespecial 95, 3) := by decide +kernel
theorem dX7_slotOfActive_26 : decode cX7_slotOfActive 26 = .ok (.athrow, 1) := by decide +kernel
theorem dX7_slotOfActive_27 : decode cX7_slotOfActive 27 = .ok (.iload_n 2, 1) := by decide +kernel
theorem dX7_slotOfActive_28 : decode cX7_slotOfActive 28 = .ok (.ireturn, 1) := by decide +kernel
theorem dX7_countInRows_0 : decode cX7_countInRows 0 = .ok (.aload_n 0, 1) := by decide +kernel
theorem dX7_countInRows_1 : decode cX7_countInRows 1 = .ok (.iload_n 1, 1) := by decide +kernel
theorem dX7_countInRows_2 : decode cX7_countInRows 2 = .ok (.iload_n 2, 1) := by decide +kernel
theorem dX7_countInRows_3 : decode cX7_countInRows 3 = .ok (.invokevirtual 199, 3) := by decide +kernel
theorem dX7_countInRows_6 : decode cX7_countInRows 6 = .ok (.iload_n 1, 1) := by decide +kernel
theorem dX7_countInRows_7 : decode cX7_countInRows 7 = .ok (.iload_n 2, 1) := by decide +kernel
theorem dX7_countInRows_8 : decode cX7_countInRows 8 = .ok (.invokevirtual 203, 3) := by decide +kernel
theorem dX7_countInRows_11 : decode cX7_countInRows 11 = .ok (.ireturn, 1) := by decide +kernel
theorem dX7_countInRowsByTree_0 : decode cX7_countInRowsByTree 0 = .ok (.aload_n 0, 1) := by decide +kernel
theorem dX7_countInRowsByTree_1 : decode cX7_countInRowsByTree 1 = .ok (.getfield 26, 3) := by decide +kernel
theorem dX7_countInRowsByTree_4 : decode cX7_countInRowsByTree 4 = .ok (.aload_n 0, 1) := by decide +kernel
theorem dX7_countInRowsByTree_5 : decode cX7_countInRowsByTree 5 = .ok (.iload_n 1, 1) := by decide +kernel
theorem dX7_countInRowsByTree_6 : decode cX7_countInRowsByTree 6 = .ok (.iload_n 2, 1) := by decide +kernel
theorem dX7_countInRowsByTree_7 : decode cX7_countInRowsByTree 7 = .ok (.invokevirtual 199, 3) := by decide +kernel
theorem dX7_countInRowsByTree_10 : decode cX7_countInRowsByTree 10 = .ok (.invokevirtual 206, 3) := by decide +kernel
theorem dX7_countInRowsByTree_13 : decode cX7_countInRowsByTree 13 = .ok (.aload_n 0, 1) := by decide +kernel
theorem dX7_countInRowsByTree_14 : decode cX7_countInRowsByTree 14 = .ok (.getfield 26, 3) := by decide +kernel
theorem dX7_countInRowsByTree_17 : decode cX7_countInRowsByTree 17 = .ok (.iload_n 1, 1) := by decide +kernel
theorem dX7_countInRowsByTree_18 : decode cX7_countInRowsByTree 18 = .ok (.iload_n 2, 1) := by decide +kernel
theorem dX7_countInRowsByTree_19 : decode cX7_countInRowsByTree 19 = .ok (.invokevirtual 207, 3) := by decide +kernel
theorem dX7_countInRowsByTree_22 : decode cX7_countInRowsByTree 22 = .ok (.ireturn, 1) := by decide +kernel
theorem dX7_idByRank_0 : decode cX7_idByRank 0 = .ok (.aload_n 0, 1) := by decide +kernel
theorem dX7_idByRank_1 : decode cX7_idByRank 1 = .ok (.iload_n 1, 1) := by decide +kernel
theorem dX7_idByRank_2 : decode cX7_idByRank 2 = .ok (.invokevirtual 210, 3) := by decide +kernel
theorem dX7_idByRank_5 : decode cX7_idByRank 5 = .ok (.iload_n 1, 1) := by decide +kernel
theorem dX7_idByRank_6 : decode cX7_idByRank 6 = .ok (.invokevirtual 213, 3) := by decide +kernel
theorem dX7_idByRank_9 : decode cX7_idByRank 9 = .ok (.ireturn, 1) := by decide +kernel
theorem dX7_idByRankByTree_0 : decode cX7_idByRankByTree 0 = .ok (.aload_n 0, 1) := by decide +kernel
theorem dX7_idByRankByTree_1 : decode cX7_idByRankByTree 1 = .ok (.iload_n 1, 1) := by decide +kernel
theorem dX7_idByRankByTree_2 : decode cX7_idByRankByTree 2 = .ok (.invokevirtual 210, 3) := by decide +kernel
theorem dX7_idByRankByTree_5 : decode cX7_idByRankByTree 5 = .ok (.astore_n 2, 1) := by decide +kernel
theorem dX7_idByRankByTree_6 : decode cX7_idByRankByTree 6 = .ok (.aload_n 0, 1) := by decide +kernel
theorem dX7_idByRankByTree_7 : decode cX7_idByRankByTree 7 = .ok (.getfield 26, 3) := by decide +kernel
theorem dX7_idByRankByTree_10 : decode cX7_idByRankByTree 10 = .ok (.aload_n 2, 1) := by decide +kernel
theorem dX7_idByRankByTree_11 : decode cX7_idByRankByTree 11 = .ok (.invokevirtual 206, 3) := by decide +kernel
theorem dX7_idByRankByTree_14 : decode cX7_idByRankByTree 14 = .ok (.aload_n 0, 1) := by decide +kernel
theorem dX7_idByRankByTree_15 : decode cX7_idByRankByTree 15 = .ok (.aload_n 2, 1) := by decide +kernel
theorem dX7_idByRankByTree_16 : decode cX7_idByRankByTree 16 = .ok (.iload_n 1, 1) := by decide +kernel
theorem dX7_idByRankByTree_17 : decode cX7_idByRankByTree 17 = .ok (.invokevirtual 216, 3) := by decide +kernel
theorem dX7_idByRankByTree_20 : decode cX7_idByRankByTree 20 = .ok (.ireturn, 1) := by decide +kernel
theorem dX7_rank_0 : decode cX7_rank 0 = .ok (.aload_n 0, 1) := by decide +kernel
theorem dX7_rank_1 : decode cX7_rank 1 = .ok (.getfield 10, 3) := by decide +kernel
theorem dX7_rank_4 : decode cX7_rank 4 = .ok (.invokevirtual 113, 3) := by decide +kernel
theorem dX7_rank_7 : decode cX7_rank 7 = .ok (.aload_n 0, 1) := by decide +kernel
theorem dX7_rank_8 : decode cX7_rank 8 = .ok (.iload_n 1, 1) := by decide +kernel
theorem dX7_rank_9 : decode cX7_rank 9 = .ok (.invokevirtual 166, 3) := by decide +kernel
theorem dX7_rank_12 : decode cX7_rank 12 = .ok (.invokevirtual 220, 3) := by decide +kernel
theorem dX7_rank_15 : decode cX7_rank 15 = .ok (.ireturn, 1) := by decide +kernel
theorem dX7_loudest_0 : decode cX7_loudest 0 = .ok (.aload_n 0, 1) := by decide +kernel
theorem dX7_loudest_1 : decode cX7_loudest 1 = .ok (.getfield 10, 3) := by decide +kernel
theorem dX7_loudest_4 : decode cX7_loudest 4 = .ok (.invokevirtual 113, 3) := by decide +kernel
theorem dX7_loudest_7 : decode cX7_loudest 7 = .ok (.astore_n 1, 1) := by decide +kernel
theorem dX7_loudest_8 : decode cX7_loudest 8 = .ok (.aload_n 1, 1) := by decide +kernel
theorem dX7_loudest_9 : decode cX7_loudest 9 = .ok (.iconst 0, 1) := by decide +kernel
theorem dX7_loudest_10 : decode cX7_loudest 10 = .ok (.bipush 7, 2) := by decide +kernel
theorem dX7_loudest_12 : decode cX7_loudest 12 = .ok (.invokevirtual 223, 3) := by decide +kernel
theorem dX7_loudest_15 : decode cX7_loudest 15 = .ok (.istore_n 2, 1) := by decide +kernel
theorem dX7_loudest_16 : decode cX7_loudest 16 = .ok (.iload_n 2, 1) := by decide +kernel
theorem dX7_loudest_17 : decode cX7_loudest 17 = .ok (.iconst (-1), 1) := by decide +kernel
theorem dX7_loudest_18 : decode cX7_loudest 18 = .ok (.if_icmp .ne 13, 3) := by decide +kernel
theorem dX7_loudest_21 : decode cX7_loudest 21 = .ok (.new 91, 3) := by decide +kernel
theorem dX7_loudest_24 : decode cX7_loudest 24 = .ok (.dup, 1) := by decide +kernel
theorem dX7_loudest_25 : decode cX7_loudest 25 = .ok (.ldc 226, 2) := by decide +kernel
theorem dX7_loudest_27 : decode cX7_loudest 27 = .ok (.invokespecial 95, 3) := by decide +kernel
theorem dX7_loudest_30 : decode cX7_loudest 30 = .ok (.athrow, 1) := by decide +kernel
theorem dX7_loudest_31 : decode cX7_loudest 31 = .ok (.aload_n 1, 1) := by decide +kernel
theorem dX7_loudest_32 : decode cX7_loudest 32 = .ok (.getfield 180, 3) := by decide +kernel
theorem dX7_loudest_35 : decode cX7_loudest 35 = .ok (.iload_n 2, 1) := by decide +kernel
theorem dX7_loudest_36 : decode cX7_loudest 36 = .ok (.iaload, 1) := by decide +kernel
theorem dX7_loudest_37 : decode cX7_loudest 37 = .ok (.ireturn, 1) := by decide +kernel
theorem dX7_theatreWithRange_0 : decode cX7_theatreWithRange 0 = .ok (.aload_n 0, 1) := by decide +kernel
theorem dX7_theatreWithRange_1 : decode cX7_theatreWithRange 1 = .ok (.getfield 10, 3) := by decide +kernel
theorem dX7_theatreWithRange_4 : decode cX7_theatreWithRange 4 = .ok (.invokevirtual 113, 3) := by decide +kernel
theorem dX7_theatreWithRange_7 : decode cX7_theatreWithRange 7 = .ok (.astore_n 3, 1) := by decide +kernel
theorem dX7_theatreWithRange_8 : decode cX7_theatreWithRange 8 = .ok (.aload_n 3, 1) := by decide +kernel
theorem dX7_theatreWithRange_9 : decode cX7_theatreWithRange 9 = .ok (.iload_n 1, 1) := by decide +kernel
theorem dX7_theatreWithRange_10 : decode cX7_theatreWithRange 10 = .ok (.invokevirtual 154, 3) := by decide +kernel
theorem dX7_theatreWithRange_13 : decode cX7_theatreWithRange 13 = .ok (.ifCond .eq 11, 3) := by decide +kernel
theorem dX7_theatreWithRange_16 : decode cX7_theatreWithRange 16 = .ok (.aload_n 3, 1) := by decide +kernel
theorem dX7_theatreWithRange_17 : decode cX7_theatreWithRange 17 = .ok (.iload_n 2, 1) := by decide +kernel
theorem dX7_theatreWithRange_18 : decode cX7_theatreWithRange 18 = .ok (.invokevirtual 154, 3) := by decide +kernel
theorem dX7_theatreWithRange_21 : decode cX7_theatreWithRange 21 = .ok (.ifCond .ne 13, 3) := by decide +kernel
theorem dX7_theatreWithRange_24 : decode cX7_theatreWithRange 24 = .ok (.new 98, 3) := by decide +kernel
theorem dX7_theatreWithRange_27 : decode cX7_theatreWithRange 27 = .ok (.dup, 1) := by decide +kernel
theorem dX7_theatreWithRange_28 : decode cX7_theatreWithRange 28 = .ok (.ldc 100, 2) := by decide +kernel
theorem dX7_theatreWithRange_30 : decode cX7_theatreWithRange 30 = .ok (.invokespecial 102, 3) := by decide +kernel
theorem dX7_theatreWithRange_33 : decode cX7_theatreWithRange 33 = .ok (.athrow, 1) := by decide +kernel
theorem dX7_theatreWithRange_34 : decode cX7_theatreWithRange 34 = .ok (.iload_n 1, 1) := by decide +kernel
theorem dX7_theatreWithRange_35 : decode cX7_theatreWithRange 35 = .ok (.iload_n 2, 1) := by decide +kernel
theorem dX7_theatreWithRange_36 : decode cX7_theatreWithRange 36 = .ok (.if_icmp .le 13, 3) := by decide +kernel
theorem dX7_theatreWithRange_39 : decode cX7_theatreWithRange 39 = .ok (.new 103, 3) := by decide +kernel
theorem dX7_theatreWithRange_42 : decode cX7_theatreWithRange 42 = .ok (.dup, 1) := by decide +kernel
theorem dX7_theatreWithRange_43 : decode cX7_theatreWithRange 43 = .ok (.ldc 234, 2) := by decide +kernel
theorem dX7_theatreWithRange_45 : decode cX7_theatreWithRange 45 = .ok (.invokespecial 107, 3) := by decide +kernel
theorem dX7_theatreWithRange_48 : decode cX7_theatreWithRange 48 = .ok (.athrow, 1) := by decide +kernel
theorem dX7_theatreWithRange_49 : decode cX7_theatreWithRange 49 = .ok (.aload_n 3, 1) := by decide +kernel
theorem dX7_theatreWithRange_50 : decode cX7_theatreWithRange 50 = .ok (.areturn, 1) := by decide +kernel
theorem dX7_theatreWithRank_0 : decode cX7_theatreWithRank 0 = .ok (.aload_n 0, 1) := by decide +kernel
theorem dX7_theatreWithRank_1 : decode cX7_theatreWithRank 1 = .ok (.getfield 10, 3) := by decide +kernel
theorem dX7_theatreWithRank_4 : decode cX7_theatreWithRank 4 = .ok (.invokevirtual 113, 3) := by decide +kernel
theorem dX7_theatreWithRank_7 : decode cX7_theatreWithRank 7 = .ok (.astore_n 2, 1) := by decide +kernel
theorem dX7_theatreWithRank_8 : decode cX7_theatreWithRank 8 = .ok (.iload_n 1, 1) := by decide +kernel
theorem dX7_theatreWithRank_9 : decode cX7_theatreWithRank 9 = .ok (.ifCond .lt 11, 3) := by decide +kernel
theorem dX7_theatreWithRank_12 : decode cX7_theatreWithRank 12 = .ok (.iload_n 1, 1) := by decide +kernel
theorem dX7_theatreWithRank_13 : decode cX7_theatreWithRank 13 = .ok (.aload_n 2, 1) := by decide +kernel
theorem dX7_theatreWithRank_14 : decode cX7_theatreWithRank 14 = .ok (.getfield 157, 3) := by decide +kernel
theorem dX7_theatreWithRank_17 : decode cX7_theatreWithRank 17 = .ok (.if_icmp .lt 13, 3) := by decide +kernel
theorem dX7_theatreWithRank_20 : decode cX7_theatreWithRank 20 = .ok (.new 91, 3) := by decide +kernel
theorem dX7_theatreWithRank_23 : decode cX7_theatreWithRank 23 = .ok (.dup, 1) := by decide +kernel
theorem dX7_theatreWithRank_24 : decode cX7_theatreWithRank 24 = .ok (.ldc 236, 2) := by decide +kernel
theorem dX7_theatreWithRank_26 : decode cX7_theatreWithRank 26 = .ok (.invokespecial 95, 3) := by decide +kernel
theorem dX7_theatreWithRank_29 : decode cX7_theatreWithRank 29 = .ok (.athrow, 1) := by decide +kernel
theorem dX7_theatreWithRank_30 : decode cX7_theatreWithRank 30 = .ok (.aload_n 2, 1) := by decide +kernel
theorem dX7_theatreWithRank_31 : decode cX7_theatreWithRank 31 = .ok (.areturn, 1) := by decide +kernel
theorem dX7_idRankedByTree_0 : decode cX7_idRankedByTree 0 = .ok (.aload_n 0, 1) := by decide +kernel
theorem dX7_idRankedByTree_1 : decode cX7_idRankedByTree 1 = .ok (.getfield 26, 3) := by decide +kernel
theorem dX7_idRankedByTree_4 : decode cX7_idRankedByTree 4 = .ok (.iload_n 2, 1) := by decide +kernel
theorem dX7_idRankedByTree_5 : decode cX7_idRankedByTree 5 = .ok (.invokevirtual 238, 3) := by decide +kernel
theorem dX7_idRankedByTree_8 : decode cX7_idRankedByTree 8 = .ok (.istore_n 3, 1) := by decide +kernel
theorem dX7_idRankedByTree_9 : decode cX7_idRankedByTree 9 = .ok (.aload_n 1, 1) := by decide +kernel
theorem dX7_idRankedByTree_10 : decode cX7_idRankedByTree 10 = .ok (.iload_n 3, 1) := by decide +kernel
theorem dX7_idRankedByTree_11 : decode cX7_idRankedByTree 11 = .ok (.iload_n 2, 1) := by decide +kernel
theorem dX7_idRankedByTree_12 : decode cX7_idRankedByTree 12 = .ok (.aload_n 0, 1) := by decide +kernel
theorem dX7_idRankedByTree_13 : decode cX7_idRankedByTree 13 = .ok (.getfield 26, 3) := by decide +kernel
theorem dX7_idRankedByTree_16 : decode cX7_idRankedByTree 16 = .ok (.iload_n 3, 1) := by decide +kernel
theorem dX7_idRankedByTree_17 : decode cX7_idRankedByTree 17 = .ok (.invokevirtual 241, 3) := by decide +kernel
theorem dX7_idRankedByTree_20 : decode cX7_idRankedByTree 20 = .ok (.isub, 1) := by decide +kernel
theorem dX7_idRankedByTree_21 : decode cX7_idRankedByTree 21 = .ok (.invokevirtual 148, 3) := by decide +kernel
theorem dX7_idRankedByTree_24 : decode cX7_idRankedByTree 24 = .ok (.ireturn, 1) := by decide +kernel
theorem dX7_namedRow_0 : decode cX7_namedRow 0 = .ok (.aload_n 0, 1) := by decide +kernel
theorem dX7_namedRow_1 : decode cX7_namedRow 1 = .ok (.iload_n 1, 1) := by decide +kernel
theorem dX7_namedRow_2 : decode cX7_namedRow 2 = .ok (.invokevirtual 244, 3) := by decide +kernel
theorem dX7_namedRow_5 : decode cX7_namedRow 5 = .ok (.istore_n 2, 1) := by decide +kernel
theorem dX7_namedRow_6 : decode cX7_namedRow 6 = .ok (.iload_n 2, 1) := by decide +kernel
theorem dX7_namedRow_7 : decode cX7_namedRow 7 = .ok (.iconst (-1), 1) := by decide +kernel
theorem dX7_namedRow_8 : decode cX7_namedRow 8 = .ok (.if_icmp .ne 13, 3) := by decide +kernel
theorem dX7_namedRow_11 : decode cX7_namedRow 11 = .ok (.new 91, 3) := by decide +kernel
theorem dX7_namedRow_14 : decode cX7_namedRow 14 = .ok (.dup, 1) := by decide +kernel
theorem dX7_namedRow_15 : decode cX7_namedRow 15 = .ok (.ldc 248, 2) := by decide +kernel
theorem dX7_namedRow_17 : decode cX7_namedRow 17 = .ok (.invokespecial 95, 3) := by decide +kernel
theorem dX7_namedRow_20 : decode cX7_namedRow 20 = .ok (.athrow, 1) := by decide +kernel
theorem dX7_namedRow_21 : decode cX7_namedRow 21 = .ok (.iload_n 2, 1) := by decide +kernel
theorem dX7_namedRow_22 : decode cX7_namedRow 22 = .ok (.ireturn, 1) := by decide +kernel
theorem dX7_boxCount_0 : decode cX7_boxCount 0 = .ok (.aload_n 0, 1) := by decide +kernel
theorem dX7_boxCount_1 : decode cX7_boxCount 1 = .ok (.iload_n 1, 1) := by decide +kernel
theorem dX7_boxCount_2 : decode cX7_boxCount 2 = .ok (.invokevirtual 119, 3) := by decide +kernel
theorem dX7_boxCount_5 : decode cX7_boxCount 5 = .ok (.iload_n 1, 1) := by decide +kernel
theorem dX7_boxCount_6 : decode cX7_boxCount 6 = .ok (.invokevirtual 250, 3) := by decide +kernel
theorem dX7_boxCount_9 : decode cX7_boxCount 9 = .ok (.ireturn, 1) := by decide +kernel
theorem dX7_rowNamedBy_0 : decode cX7_rowNamedBy 0 = .ok (.iload_n 1, 1) := by decide +kernel
theorem dX7_rowNamedBy_1 : decode cX7_rowNamedBy 1 = .ok (.invokestatic 253, 3) := by decide +kernel
theorem dX7_rowNamedBy_4 : decode cX7_rowNamedBy 4 = .ok (.ifCond .ne 14, 3) := by decide +kernel
theorem dX7_rowNamedBy_7 : decode cX7_rowNamedBy 7 = .ok (.new 103, 3) := by decide +kernel
theorem dX7_rowNamedBy_10 : decode cX7_rowNamedBy 10 = .ok (.dup, 1) := by decide +kernel
theorem dX7_rowNamedBy_11 : decode cX7_rowNamedBy 11 = .ok (.ldc_w 256, 3) := by decide +kernel
theorem dX7_rowNamedBy_14 : decode cX7_rowNamedBy 14 = .ok (.invokespecial 107, 3) := by decide +kernel
theorem dX7_rowNamedBy_17 : decode cX7_rowNamedBy 17 = .ok (.athrow, 1) := by decide +kernel
theorem dX7_rowNamedBy_18 : decode cX7_rowNamedBy 18 = .ok (.aload_n 0, 1) := by decide +kernel
theorem dX7_rowNamedBy_19 : decode cX7_rowNamedBy 19 = .ok (.getfield 10, 3) := by decide +kernel
theorem dX7_rowNamedBy_22 : decode cX7_rowNamedBy 22 = .ok (.invokevirtual 113, 3) := by decide +kernel
theorem dX7_rowNamedBy_25 : decode cX7_rowNamedBy 25 = .ok (.getfield 258, 3) := by decide +kernel
theorem dX7_rowNamedBy_28 : decode cX7_rowNamedBy 28 = .ok (.iload_n 1, 1) := by decide +kernel
theorem dX7_rowNamedBy_29 : decode cX7_rowNamedBy 29 = .ok (.bipush 97, 2) := by decide +kernel
theorem dX7_rowNamedBy_31 : decode cX7_rowNamedBy 31 = .ok (.isub, 1) := by decide +kernel
theorem dX7_rowNamedBy_32 : decode cX7_rowNamedBy 32 = .ok (.iaload, 1) := by decide +kernel
theorem dX7_rowNamedBy_33 : decode cX7_rowNamedBy 33 = .ok (.ireturn, 1) := by decide +kernel
theorem dX7_moveCount_0 : decode cX7_moveCount 0 = .ok (.aload_n 0, 1) := by decide +kernel
theorem dX7_moveCount_1 : decode cX7_moveCount 1 = .ok (.getfield 10, 3) := by decide +kernel
theorem dX7_moveCount_4 : decode cX7_moveCount 4 = .ok (.invokevirtual 113, 3) := by decide +kernel
theorem dX7_moveCount_7 : decode cX7_moveCount 7 = .ok (.getfield 261, 3) := by decide +kernel
theorem dX7_moveCount_10 : decode cX7_moveCount 10 = .ok (.ireturn, 1) := by decide +kernel
theorem dX7_removeCount_0 : decode cX7_removeCount 0 = .ok (.aload_n 0, 1) := by decide +kernel
theorem dX7_removeCount_1 : decode cX7_removeCount 1 = .ok (.getfield 10, 3) := by decide +kernel
theorem dX7_removeCount_4 : decode cX7_removeCount 4 = .ok (.invokevirtual 113, 3) := by decide +kernel
theorem dX7_removeCount_7 : decode cX7_removeCount 7 = .ok (.getfield 264, 3) := by decide +kernel
theorem dX7_removeCount_10 : decode cX7_removeCount 10 = .ok (.ireturn, 1) := by decide +kernel
theorem dX7_addedLoudness_0 : decode cX7_addedLoudness 0 = .ok (.aload_n 0, 1) := by decide +kernel
theorem dX7_addedLoudness_1 : decode cX7_addedLoudness 1 = .ok (.getfield 10, 3) := by decide +kernel
theorem dX7_addedLoudness_4 : decode cX7_addedLoudness 4 = .ok (.invokevirtual 113, 3) := by decide +kernel
theorem dX7_addedLoudness_7 : decode cX7_addedLoudness 7 = .ok (.getfield 267, 3) := by decide +kernel
theorem dX7_addedLoudness_10 : decode cX7_addedLoudness 10 = .ok (.lreturn, 1) := by decide +kernel
theorem dX7_lostLoudness_0 : decode cX7_lostLoudness 0 = .ok (.aload_n 0, 1) := by decide +kernel
theorem dX7_lostLoudness_1 : decode cX7_lostLoudness 1 = .ok (.getfield 10, 3) := by decide +kernel
theorem dX7_lostLoudness_4 : decode cX7_lostLoudness 4 = .ok (.invokevirtual 113, 3) := by decide +kernel
theorem dX7_lostLoudness_7 : decode cX7_lostLoudness 7 = .ok (.getfield 271, 3) := by decide +kernel
theorem dX7_lostLoudness_10 : decode cX7_lostLoudness 10 = .ok (.lreturn, 1) := by decide +kernel
theorem dX7_activeLoudness_0 : decode cX7_activeLoudness 0 = .ok (.aload_n 0, 1) := by decide +kernel
theorem dX7_activeLoudness_1 : decode cX7_activeLoudness 1 = .ok (.getfield 10, 3) := by decide +kernel
theorem dX7_activeLoudness_4 : decode cX7_activeLoudness 4 = .ok (.invokevirtual 113, 3) := by decide +kernel
theorem dX7_activeLoudness_7 : decode cX7_activeLoudness 7 = .ok (.invokevirtual 274, 3) := by decide +kernel
theorem dX7_activeLoudness_10 : decode cX7_activeLoudness 10 = .ok (.lreturn, 1) := by decide +kernel
theorem dX7_isConsistent_0 : decode cX7_isConsistent 0 = .ok (.aload_n 0, 1) := by decide +kernel
theorem dX7_isConsistent_1 : decode cX7_isConsistent 1 = .ok (.getfield 10, 3) := by decide +kernel
theorem dX7_isConsistent_4 : decode cX7_isConsistent 4 = .ok (.invokevirtual 113, 3) := by decide +kernel
theorem dX7_isConsistent_7 : decode cX7_isConsistent 7 = .ok (.astore_n 1, 1) := by decide +kernel
theorem dX7_isConsistent_8 : decode cX7_isConsistent 8 = .ok (.aload_n 0, 1) := by decide +kernel
theorem dX7_isConsistent_9 : decode cX7_isConsistent 9 = .ok (.aload_n 1, 1) := by decide +kernel
theorem dX7_isConsistent_10 : decode cX7_isConsistent 10 = .ok (.invokevirtual 284, 3) := by decide +kernel
theorem dX7_isConsistent_13 : decode cX7_isConsistent 13 = .ok (.ifCond .eq 47, 3) := by decide +kernel
theorem dX7_isConsistent_16 : decode cX7_isConsistent 16 = .ok (.aload_n 0, 1) := by decide +kernel
theorem dX7_isConsistent_17 : decode cX7_isConsistent 17 = .ok (.aload_n 1, 1) := by decide +kernel
theorem dX7_isConsistent_18 : decode cX7_isConsistent 18 = .ok (.invokevirtual 288, 3) := by decide +kernel
theorem dX7_isConsistent_21 : decode cX7_isConsistent 21 = .ok (.ifCond .eq 39, 3) := by decide +kernel
theorem dX7_isConsistent_24 : decode cX7_isConsistent 24 = .ok (.aload_n 0, 1) := by decide +kernel
theorem dX7_isConsistent_25 : decode cX7_isConsistent 25 = .ok (.aload_n 1, 1) := by decide +kernel
theorem dX7_isConsistent_26 : decode cX7_isConsistent 26 = .ok (.invokevirtual 291, 3) := by decide +kernel
theorem dX7_isConsistent_29 : decode cX7_isConsistent 29 = .ok (.ifCond .eq 31, 3) := by decide +kernel
theorem dX7_isConsistent_32 : decode cX7_isConsistent 32 = .ok (.aload_n 1, 1) := by decide +kernel
theorem dX7_isConsistent_33 : decode cX7_isConsistent 33 = .ok (.invokevirtual 294, 3) := by decide +kernel
theorem dX7_isConsistent_36 : decode cX7_isConsistent 36 = .ok (.ifCond .eq 24, 3) := by decide +kernel
theorem dX7_isConsistent_39 : decode cX7_isConsistent 39 = .ok (.aload_n 1, 1) := by decide +kernel
theorem dX7_isConsistent_40 : decode cX7_isConsistent 40 = .ok (.getfield 267, 3) := by decide +kernel
theorem dX7_isConsistent_43 : decode cX7_isConsistent 43 = .ok (.aload_n 1, 1) := by decide +kernel
theorem dX7_isConsistent_44 : decode cX7_isConsistent 44 = .ok (.invokevirtual 274, 3) := by decide +kernel
theorem dX7_isConsistent_47 : decode cX7_isConsistent 47 = .ok (.aload_n 1, 1) := by decide +kernel
theorem dX7_isConsistent_48 : decode cX7_isConsistent 48 = .ok (.getfield 271, 3) := by decide +kernel
theorem dX7_isConsistent_51 : decode cX7_isConsistent 51 = .ok (.ladd, 1) := by decide +kernel
theorem dX7_isConsistent_52 : decode cX7_isConsistent 52 = .ok (.lcmp, 1) := by decide +kernel
theorem dX7_isConsistent_53 : decode cX7_isConsistent 53 = .ok (.ifCond .ne 7, 3) := by decide +kernel
theorem dX7_isConsistent_56 : decode cX7_isConsistent 56 = .ok (.iconst 1, 1) := by decide +kernel
theorem dX7_isConsistent_57 : decode cX7_isConsistent 57 = .ok (.goto 4, 3) := by decide +kernel
theorem dX7_isConsistent_60 : decode cX7_isConsistent 60 = .ok (.iconst 0, 1) := by decide +kernel
theorem dX7_isConsistent_61 : decode cX7_isConsistent 61 = .ok (.ireturn, 1) := by decide +kernel
theorem dX7_lastHeirsAgree_0 : decode cX7_lastHeirsAgree 0 = .ok (.aload_n 0, 1) := by decide +kernel
theorem dX7_lastHeirsAgree_1 : decode cX7_lastHeirsAgree 1 = .ok (.getfield 33, 3) := by decide +kernel
theorem dX7_lastHeirsAgree_4 : decode cX7_lastHeirsAgree 4 = .ok (.aload_n 1, 1) := by decide +kernel
theorem dX7_lastHeirsAgree_5 : decode cX7_lastHeirsAgree 5 = .ok (.invokevirtual 186, 3) := by decide +kernel
theorem dX7_lastHeirsAgree_8 : decode cX7_lastHeirsAgree 8 = .ok (.iconst 0, 1) := by decide +kernel
theorem dX7_lastHeirsAgree_9 : decode cX7_lastHeirsAgree 9 = .ok (.istore_n 2, 1) := by decide +kernel
theorem dX7_lastHeirsAgree_10 : decode cX7_lastHeirsAgree 10 = .ok (.iload_n 2, 1) := by decide +kernel
theorem dX7_lastHeirsAgree_11 : decode cX7_lastHeirsAgree 11 = .ok (.aload_n 1, 1) := by decide +kernel
theorem dX7_lastHeirsAgree_12 : decode cX7_lastHeirsAgree 12 = .ok (.getfield 157, 3) := by decide +kernel
theorem dX7_lastHeirsAgree_15 : decode cX7_lastHeirsAgree 15 = .ok (.if_icmp .ge 27, 3) := by decide +kernel
theorem dX7_lastHeirsAgree_18 : decode cX7_lastHeirsAgree 18 = .ok (.aload_n 1, 1) := by decide +kernel
theorem dX7_lastHeirsAgree_19 : decode cX7_lastHeirsAgree 19 = .ok (.iload_n 2, 1) := by decide +kernel
theorem dX7_lastHeirsAgree_20 : decode cX7_lastHeirsAgree 20 = .ok (.invokevirtual 183, 3) := by decide +kernel
theorem dX7_lastHeirsAgree_23 : decode cX7_lastHeirsAgree 23 = .ok (.aload_n 0, 1) := by decide +kernel
theorem dX7_lastHeirsAgree_24 : decode cX7_lastHeirsAgree 24 = .ok (.getfield 33, 3) := by decide +kernel
theorem dX7_lastHeirsAgree_27 : decode cX7_lastHeirsAgree 27 = .ok (.iload_n 2, 1) := by decide +kernel
theorem dX7_lastHeirsAgree_28 : decode cX7_lastHeirsAgree 28 = .ok (.invokevirtual 190, 3) := by decide +kernel
theorem dX7_lastHeirsAgree_31 : decode cX7_lastHeirsAgree 31 = .ok (.if_icmp .eq 5, 3) := by decide +kernel
theorem dX7_lastHeirsAgree_34 : decode cX7_lastHeirsAgree 34 = .ok (.iconst 0, 1) := by decide +kernel
theorem dX7_lastHeirsAgree_35 : decode cX7_lastHeirsAgree 35 = .ok (.ireturn, 1) := by decide +kernel
theorem dX7_lastHeirsAgree_36 : decode cX7_lastHeirsAgree 36 = .ok (.iinc 2 1, 3) := by decide +kernel
theorem dX7_lastHeirsAgree_39 : decode cX7_lastHeirsAgree 39 = .ok (.goto (-29), 3) := by decide +kernel
theorem dX7_lastHeirsAgree_42 : decode cX7_lastHeirsAgree 42 = .ok (.iconst 1, 1) := by decide +kernel
theorem dX7_lastHeirsAgree_43 : decode cX7_lastHeirsAgree 43 = .ok (.ireturn, 1) := by decide +kernel
theorem dX7_ranksAgree_0 : decode cX7_ranksAgree 0 = .ok (.aload_n 0, 1) := by decide +kernel
theorem dX7_ranksAgree_1 : decode cX7_ranksAgree 1 = .ok (.getfield 26, 3) := by decide +kernel
theorem dX7_ranksAgree_4 : decode cX7_ranksAgree 4 = .ok (.aload_n 1, 1) := by decide +kernel
theorem dX7_ranksAgree_5 : decode cX7_ranksAgree 5 = .ok (.invokevirtual 206, 3) := by decide +kernel
theorem dX7_ranksAgree_8 : decode cX7_ranksAgree 8 = .ok (.iconst 0, 1) := by decide +kernel
theorem dX7_ranksAgree_9 : decode cX7_ranksAgree 9 = .ok (.istore_n 2, 1) := by decide +kernel
theorem dX7_ranksAgree_10 : decode cX7_ranksAgree 10 = .ok (.iload_n 2, 1) := by decide +kernel
theorem dX7_ranksAgree_11 : decode cX7_ranksAgree 11 = .ok (.aload_n 1, 1) := by decide +kernel
theorem dX7_ranksAgree_12 : decode cX7_ranksAgree 12 = .ok (.getfield 157, 3) := by decide +kernel
theorem dX7_ranksAgree_15 : decode cX7_ranksAgree 15 = .ok (.if_icmp .ge 25, 3) := by decide +kernel
theorem dX7_ranksAgree_18 : decode cX7_ranksAgree 18 = .ok (.aload_n 1, 1) := by decide +kernel
theorem dX7_ranksAgree_19 : decode cX7_ranksAgree 19 = .ok (.iload_n 2, 1) := by decide +kernel
theorem dX7_ranksAgree_20 : decode cX7_ranksAgree 20 = .ok (.invokevirtual 213, 3) := by decide +kernel
theorem dX7_ranksAgree_23 : decode cX7_ranksAgree 23 = .ok (.aload_n 0, 1) := by decide +kernel
theorem dX7_ranksAgree_24 : decode cX7_ranksAgree 24 = .ok (.aload_n 1, 1) := by decide +kernel
theorem dX7_ranksAgree_25 : decode cX7_ranksAgree 25 = .ok (.iload_n 2, 1) := by decide +kernel
theorem dX7_ranksAgree_26 : decode cX7_ranksAgree 26 = .ok (.invokevirtual 216, 3) := by decide +kernel
theorem dX7_ranksAgree_29 : decode cX7_ranksAgree 29 = .ok (.if_icmp .eq 5, 3) := by decide +kernel
theorem dX7_ranksAgree_32 : decode cX7_ranksAgree 32 = .ok (.iconst 0, 1) := by decide +kernel
theorem dX7_ranksAgree_33 : decode cX7_ranksAgree 33 = .ok (.ireturn, 1) := by decide +kernel
theorem dX7_ranksAgree_34 : decode cX7_ranksAgree 34 = .ok (.iinc 2 1, 3) := by decide +kernel
theorem dX7_ranksAgree_37 : decode cX7_ranksAgree 37 = .ok (.goto (-27), 3) := by decide +kernel
theorem dX7_ranksAgree_40 : decode cX7_ranksAgree 40 = .ok (.iconst 1, 1) := by decide +kernel
theorem dX7_ranksAgree_41 : decode cX7_ranksAgree 41 = .ok (.ireturn, 1) := by decide +kernel
theorem dX7_rangesAgree_0 : decode cX7_rangesAgree 0 = .ok (.aload_n 0, 1) := by decide +kernel
theorem dX7_rangesAgree_1 : decode cX7_rangesAgree 1 = .ok (.getfield 26, 3) := by decide +kernel
theorem dX7_rangesAgree_4 : decode cX7_rangesAgree 4 = .ok (.aload_n 1, 1) := by decide +kernel
theorem dX7_rangesAgree_5 : decode cX7_rangesAgree 5 = .ok (.invokevirtual 206, 3) := by decide +kernel
theorem dX7_rangesAgree_8 : decode cX7_rangesAgree 8 = .ok (.iconst 0, 1) := by decide +kernel
theorem dX7_rangesAgree_9 : decode cX7_rangesAgree 9 = .ok (.istore_n 2, 1) := by decide +kernel
theorem dX7_rangesAgree_10 : decode cX7_rangesAgree 10 = .ok (.iload_n 2, 1) := by decide +kernel
theorem dX7_rangesAgree_11 : decode cX7_rangesAgree 11 = .ok (.aload_n 1, 1) := by decide +kernel
theorem dX7_rangesAgree_12 : decode cX7_rangesAgree 12 = .ok (.getfield 116, 3) := by decide +kernel
theorem dX7_rangesAgree_15 : decode cX7_rangesAgree 15 = .ok (.if_icmp .ge 45, 3) := by decide +kernel
theorem dX7_rangesAgree_18 : decode cX7_rangesAgree 18 = .ok (.iload_n 2, 1) := by decide +kernel
theorem dX7_rangesAgree_19 : decode cX7_rangesAgree 19 = .ok (.istore_n 3, 1) := by decide +kernel
theorem dX7_rangesAgree_20 : decode cX7_rangesAgree 20 = .ok (.iload_n 3, 1) := by decide +kernel
theorem dX7_rangesAgree_21 : decode cX7_rangesAgree 21 = .ok (.aload_n 1, 1) := by decide +kernel
theorem dX7_rangesAgree_22 : decode cX7_rangesAgree 22 = .ok (.getfield 116, 3) := by decide +kernel
theorem dX7_rangesAgree_25 : decode cX7_rangesAgree 25 = .ok (.if_icmp .ge 29, 3) := by decide +kernel
theorem dX7_rangesAgree_28 : decode cX7_rangesAgree 28 = .ok (.aload_n 1, 1) := by decide +kernel
theorem dX7_rangesAgree_29 : decode cX7_rangesAgree 29 = .ok (.iload_n 2, 1) := by decide +kernel
theorem dX7_rangesAgree_30 : decode cX7_rangesAgree 30 = .ok (.iload_n 3, 1) := by decide +kernel
theorem dX7_rangesAgree_31 : decode cX7_rangesAgree 31 = .ok (.invokevirtual 203, 3) := by decide +kernel
theorem dX7_rangesAgree_34 : decode cX7_rangesAgree 34 = .ok (.aload_n 0, 1) := by decide +kernel
theorem dX7_rangesAgree_35 : decode cX7_rangesAgree 35 = .ok (.getfield 26, 3) := by decide +kernel
theorem dX7_rangesAgree_38 : decode cX7_rangesAgree 38 = .ok (.iload_n 2, 1) := by decide +kernel
theorem dX7_rangesAgree_39 : decode cX7_rangesAgree 39 = .ok (.iload_n 3, 1) := by decide +kernel
theorem dX7_rangesAgree_40 : decode cX7_rangesAgree 40 = .ok (.invokevirtual 207, 3) := by decide +kernel
theorem dX7_rangesAgree_43 : decode cX7_rangesAgree 43 = .ok (.if_icmp .eq 5, 3) := by decide +kernel
theorem dX7_rangesAgree_46 : decode cX7_rangesAgree 46 = .ok (.iconst 0, 1) := by decide +kernel
theorem dX7_rangesAgree_47 : decode cX7_rangesAgree 47 = .ok (.ireturn, 1) := by decide +kernel
theorem dX7_rangesAgree_48 : decode cX7_rangesAgree 48 = .ok (.iinc 3 1, 3) := by decide +kernel
theorem dX7_rangesAgree_51 : decode cX7_rangesAgree 51 = .ok (.goto (-31), 3) := by decide +kernel
theorem dX7_rangesAgree_54 : decode cX7_rangesAgree 54 = .ok (.iinc 2 1, 3) := by decide +kernel
theorem dX7_rangesAgree_57 : decode cX7_rangesAgree 57 = .ok (.goto (-47), 3) := by decide +kernel
theorem dX7_rangesAgree_60 : decode cX7_rangesAgree 60 = .ok (.iconst 1, 1) := by decide +kernel
theorem dX7_rangesAgree_61 : decode cX7_rangesAgree 61 = .ok (.ireturn, 1) := by decide +kernel
theorem dX7_formatRow_0 : decode cX7_formatRow 0 = .ok (.aload_n 0, 1) := by decide +kernel
theorem dX7_formatRow_1 : decode cX7_formatRow 1 = .ok (.iload_n 1, 1) := by decide +kernel
theorem dX7_formatRow_2 : decode cX7_formatRow 2 = .ok (.invokevirtual 119, 3) := by decide +kernel
theorem dX7_formatRow_5 : decode cX7_formatRow 5 = .ok (.astore_n 2, 1) := by decide +kernel
theorem dX7_formatRow_6 : decode cX7_formatRow 6 = .ok (.aload_n 0, 1) := by decide +kernel
theorem dX7_formatRow_7 : decode cX7_formatRow 7 = .ok (.getfield 51, 3) := by decide +kernel
theorem dX7_formatRow_10 : decode cX7_formatRow 10 = .ok (.iconst 0, 1) := by decide +kernel
theorem dX7_formatRow_11 : decode cX7_formatRow 11 = .ok (.invokevirtual 298, 3) := by decide +kernel
theorem dX7_formatRow_14 : decode cX7_formatRow 14 = .ok (.aload_n 0, 1) := by decide +kernel
theorem dX7_formatRow_15 : decode cX7_formatRow 15 = .ok (.getfield 51, 3) := by decide +kernel
theorem dX7_formatRow_18 : decode cX7_formatRow 18 = .ok (.iload_n 1, 1) := by decide +kernel
theorem dX7_formatRow_19 : decode cX7_formatRow 19 = .ok (.invokevirtual 301, 3) := by decide +kernel
theorem dX7_formatRow_22 : decode cX7_formatRow 22 = .ok (.bipush 91, 2) := by decide +kernel
theorem dX7_formatRow_24 : decode cX7_formatRow 24 = .ok (.invokevirtual 305, 3) := by decide +kernel
theorem dX7_formatRow_27 : decode cX7_formatRow 27 = .ok (.aload_n 2, 1) := by decide +kernel
theorem dX7_formatRow_28 : decode cX7_formatRow 28 = .ok (.iload_n 1, 1) := by decide +kernel
theorem dX7_formatRow_29 : decode cX7_formatRow 29 = .ok (.invokevirtual 130, 3) := by decide +kernel
theorem dX7_formatRow_32 : decode cX7_formatRow 32 = .ok (.invokevirtual 301, 3) := by decide +kernel
theorem dX7_formatRow_35 : decode cX7_formatRow 35 = .ok (.pop, 1) := by decide +kernel
theorem dX7_formatRow_36 : decode cX7_formatRow 36 = .ok (.aload_n 0, 1) := by decide +kernel
theorem dX7_formatRow_37 : decode cX7_formatRow 37 = .ok (.getfield 51, 3) := by decide +kernel
theorem dX7_formatRow_40 : decode cX7_formatRow 40 = .ok (.bipush 47, 2) := by decide +kernel
theorem dX7_formatRow_42 : decode cX7_formatRow 42 = .ok (.invokevirtual 305, 3) := by decide +kernel
theorem dX7_formatRow_45 : decode cX7_formatRow 45 = .ok (.aload_n 2, 1) := by decide +kernel
theorem dX7_formatRow_46 : decode cX7_formatRow 46 = .ok (.getfield 123, 3) := by decide +kernel
theorem dX7_formatRow_49 : decode cX7_formatRow 49 = .ok (.iload_n 1, 1) := by decide +kernel
theorem dX7_formatRow_50 : decode cX7_formatRow 50 = .ok (.iaload, 1) := by decide +kernel
theorem dX7_formatRow_51 : decode cX7_formatRow 51 = .ok (.invokevirtual 301, 3) := by decide +kernel
theorem dX7_formatRow_54 : decode cX7_formatRow 54 = .ok (.pop, 1) := by decide +kernel
theorem dX7_formatRow_55 : decode cX7_formatRow 55 = .ok (.aload_n 2, 1) := by decide +kernel
theorem dX7_formatRow_56 : decode cX7_formatRow 56 = .ok (.getfield 127, 3) := by decide +kernel
theorem dX7_formatRow_59 : decode cX7_formatRow 59 = .ok (.iload_n 1, 1) := by decide +kernel
theorem dX7_formatRow_60 : decode cX7_formatRow 60 = .ok (.iaload, 1) := by decide +kernel
theorem dX7_formatRow_61 : decode cX7_formatRow 61 = .ok (.ifCond .le 22, 3) := by decide +kernel
theorem dX7_formatRow_64 : decode cX7_formatRow 64 = .ok (.aload_n 0, 1) := by decide +kernel
theorem dX7_formatRow_65 : decode cX7_formatRow 65 = .ok (.getfield 51, 3) := by decide +kernel
theorem dX7_formatRow_68 : decode cX7_formatRow 68 = .ok (.bipush 43, 2) := by decide +kernel
theorem dX7_formatRow_70 : decode cX7_formatRow 70 = .ok (.invokevirtual 305, 3) := by decide +kernel
theorem dX7_formatRow_73 : decode cX7_formatRow 73 = .ok (.aload_n 2, 1) := by decide +kernel
theorem dX7_formatRow_74 : decode cX7_formatRow 74 = .ok (.getfield 127, 3) := by decide +kernel
theorem dX7_formatRow_77 : decode cX7_formatRow 77 = .ok (.iload_n 1, 1) := by decide +kernel
theorem dX7_formatRow_78 : decode cX7_formatRow 78 = .ok (.iaload, 1) := by decide +kernel
theorem dX7_formatRow_79 : decode cX7_formatRow 79 = .ok (.invokevirtual 301, 3) := by decide +kernel
theorem dX7_formatRow_82 : decode cX7_formatRow 82 = .ok (.pop, 1) := by decide +kernel
theorem dX7_formatRow_83 : decode cX7_formatRow 83 = .ok (.aload_n 0, 1) := by decide +kernel
theorem dX7_formatRow_84 : decode cX7_formatRow 84 = .ok (.getfield 51, 3) := by decide +kernel
theorem dX7_formatRow_87 : decode cX7_formatRow 87 = .ok (.bipush 93, 2) := by decide +kernel
theorem dX7_formatRow_89 : decode cX7_formatRow 89 = .ok (.invokevirtual 305, 3) := by decide +kernel
theorem dX7_formatRow_92 : decode cX7_formatRow 92 = .ok (.pop, 1) := by decide +kernel
theorem dX7_formatRow_93 : decode cX7_formatRow 93 = .ok (.aload_n 2, 1) := by decide +kernel
theorem dX7_formatRow_94 : decode cX7_formatRow 94 = .ok (.getfield 140, 3) := by decide +kernel
theorem dX7_formatRow_97 : decode cX7_formatRow 97 = .ok (.iload_n 1, 1) := by decide +kernel
theorem dX7_formatRow_98 : decode cX7_formatRow 98 = .ok (.baload, 1) := by decide +kernel
theorem dX7_formatRow_99 : decode cX7_formatRow 99 = .ok (.ifCond .eq 13, 3) := by decide +kernel
theorem dX7_formatRow_102 : decode cX7_formatRow 102 = .ok (.aload_n 0, 1) := by decide +kernel
theorem dX7_formatRow_103 : decode cX7_formatRow 103 = .ok (.getfield 51, 3) := by decide +kernel
theorem dX7_formatRow_106 : decode cX7_formatRow 106 = .ok (.bipush 33, 2) := by decide +kernel
theorem dX7_formatRow_108 : decode cX7_formatRow 108 = .ok (.invokevirtual 305, 3) := by decide +kernel
theorem dX7_formatRow_111 : decode cX7_formatRow 111 = .ok (.pop, 1) := by decide +kernel
theorem dX7_formatRow_112 : decode cX7_formatRow 112 = .ok (.aload_n 0, 1) := by decide +kernel
theorem dX7_formatRow_113 : decode cX7_formatRow 113 = .ok (.aload_n 2, 1) := by decide +kernel
theorem dX7_formatRow_114 : decode cX7_formatRow 114 = .ok (.iload_n 1, 1) := by decide +kernel
theorem dX7_formatRow_115 : decode cX7_formatRow 115 = .ok (.invokevirtual 308, 3) := by decide +kernel
theorem dX7_formatRow_118 : decode cX7_formatRow 118 = .ok (.aload_n 0, 1) := by decide +kernel
theorem dX7_formatRow_119 : decode cX7_formatRow 119 = .ok (.getfield 51, 3) := by decide +kernel
theorem dX7_formatRow_122 : decode cX7_formatRow 122 = .ok (.invokevirtual 312, 3) := by decide +kernel
theorem dX7_formatRow_125 : decode cX7_formatRow 125 = .ok (.ireturn, 1) := by decide +kernel
theorem dX7_appendEchoesOf_0 : decode cX7_appendEchoesOf 0 = .ok (.iconst 0, 1) := by decide +kernel
theorem dX7_appendEchoesOf_1 : decode cX7_appendEchoesOf 1 = .ok (.istore_n 3, 1) := by decide +kernel
theorem dX7_appendEchoesOf_2 : decode cX7_appendEchoesOf 2 = .ok (.iload_n 3, 1) := by decide +kernel
theorem dX7_appendEchoesOf_3 : decode cX7_appendEchoesOf 3 = .ok (.aload_n 1, 1) := by decide +kernel
theorem dX7_appendEchoesOf_4 : decode cX7_appendEchoesOf 4 = .ok (.getfield 157, 3) := by decide +kernel
theorem dX7_appendEchoesOf_7 : decode cX7_appendEchoesOf 7 = .ok (.if_icmp .ge 57, 3) := by decide +kernel
theorem dX7_appendEchoesOf_10 : decode cX7_appendEchoesOf 10 = .ok (.aload_n 1, 1) := by decide +kernel
theorem dX7_appendEchoesOf_11 : decode cX7_appendEchoesOf 11 = .ok (.getfield 163, 3) := by decide +kernel
theorem dX7_appendEchoesOf_14 : decode cX7_appendEchoesOf 14 = .ok (.iload_n 3, 1) := by decide +kernel
theorem dX7_appendEchoesOf_15 : decode cX7_appendEchoesOf 15 = .ok (.iaload, 1) := by decide +kernel
theorem dX7_appendEchoesOf_16 : decode cX7_appendEchoesOf 16 = .ok (.iload_n 2, 1) := by decide +kernel
theorem dX7_appendEchoesOf_17 : decode cX7_appendEchoesOf 17 = .ok (.if_icmp .ne 41, 3) := by decide +kernel
theorem dX7_appendEchoesOf_20 : decode cX7_appendEchoesOf 20 = .ok (.aload_n 0, 1) := by decide +kernel
theorem dX7_appendEchoesOf_21 : decode cX7_appendEchoesOf 21 = .ok (.getfield 51, 3) := by decide +kernel
theorem dX7_appendEchoesOf_24 : decode cX7_appendEchoesOf 24 = .ok (.bipush 32, 2) := by decide +kernel
theorem dX7_appendEchoesOf_26 : decode cX7_appendEchoesOf 26 = .ok (.invokevirtual 305, 3) := by decide +kernel
theorem dX7_appendEchoesOf_29 : decode cX7_appendEchoesOf 29 = .ok (.aload_n 1, 1) := by decide +kernel
theorem dX7_appendEchoesOf_30 : decode cX7_appendEchoesOf 30 = .ok (.getfield 180, 3) := by decide +kernel
theorem dX7_appendEchoesOf_33 : decode cX7_appendEchoesOf 33 = .ok (.iload_n 3, 1) := by decide +kernel
theorem dX7_appendEchoesOf_34 : decode cX7_appendEchoesOf 34 = .ok (.iaload, 1) := by decide +kernel
theorem dX7_appendEchoesOf_35 : decode cX7_appendEchoesOf 35 = .ok (.invokevirtual 301, 3) := by decide +kernel
theorem dX7_appendEchoesOf_38 : decode cX7_appendEchoesOf 38 = .ok (.pop, 1) := by decide +kernel
theorem dX7_appendEchoesOf_39 : decode cX7_appendEchoesOf 39 = .ok (.aload_n 0, 1) := by decide +kernel
theorem dX7_appendEchoesOf_40 : decode cX7_appendEchoesOf 40 = .ok (.getfield 51, 3) := by decide +kernel
theorem dX7_appendEchoesOf_43 : decode cX7_appendEchoesOf 43 = .ok (.bipush 58, 2) := by decide +kernel
theorem dX7_appendEchoesOf_45 : decode cX7_appendEchoesOf 45 = .ok (.invokevirtual 305, 3) := by decide +kernel
theorem dX7_appendEchoesOf_48 : decode cX7_appendEchoesOf 48 = .ok (.aload_n 1, 1) := by decide +kernel
theorem dX7_appendEchoesOf_49 : decode cX7_appendEchoesOf 49 = .ok (.getfield 169, 3) := by decide +kernel
theorem dX7_appendEchoesOf_52 : decode cX7_appendEchoesOf 52 = .ok (.iload_n 3, 1) := by decide +kernel
theorem dX7_appendEchoesOf_53 : decode cX7_appendEchoesOf 53 = .ok (.iaload, 1) := by decide +kernel
theorem dX7_appendEchoesOf_54 : decode cX7_appendEchoesOf 54 = .ok (.invokevirtual 301, 3) := by decide +kernel
theorem dX7_appendEchoesOf_57 : decode cX7_appendEchoesOf 57 = .ok (.pop, 1) := by decide +kernel
theorem dX7_appendEchoesOf_58 : decode cX7_appendEchoesOf 58 = .ok (.iinc 3 1, 3) := by decide +kernel
theorem dX7_appendEchoesOf_61 : decode cX7_appendEchoesOf 61 = .ok (.goto (-59), 3) := by decide +kernel
theorem dX7_appendEchoesOf_64 : decode cX7_appendEchoesOf 64 = .ok (.return_, 1) := by decide +kernel
theorem dX7_formatEcho_0 : decode cX7_formatEcho 0 = .ok (.aload_n 0, 1) := by decide +kernel
theorem dX7_formatEcho_1 : decode cX7_formatEcho 1 = .ok (.iload_n 1, 1) := by decide +kernel
theorem dX7_formatEcho_2 : decode cX7_formatEcho 2 = .ok (.invokevirtual 166, 3) := by decide +kernel
theorem dX7_formatEcho_5 : decode cX7_formatEcho 5 = .ok (.istore_n 2, 1) := by decide +kernel
theorem dX7_formatEcho_6 : decode cX7_formatEcho 6 = .ok (.aload_n 0, 1) := by decide +kernel
theorem dX7_formatEcho_7 : decode cX7_formatEcho 7 = .ok (.getfield 10, 3) := by decide +kernel
theorem dX7_formatEcho_10 : decode cX7_formatEcho 10 = .ok (.invokevirtual 113, 3) := by decide +kernel
theorem dX7_formatEcho_13 : decode cX7_formatEcho 13 = .ok (.astore_n 3, 1) := by decide +kernel
theorem dX7_formatEcho_14 : decode cX7_formatEcho 14 = .ok (.aload_n 0, 1) := by decide +kernel
theorem dX7_formatEcho_15 : decode cX7_formatEcho 15 = .ok (.getfield 51, 3) := by decide +kernel
theorem dX7_formatEcho_18 : decode cX7_formatEcho 18 = .ok (.iconst 0, 1) := by decide +kernel
theorem dX7_formatEcho_19 : decode cX7_formatEcho 19 = .ok (.invokevirtual 298, 3) := by decide +kernel
theorem dX7_formatEcho_22 : decode cX7_formatEcho 22 = .ok (.aload_n 0, 1) := by decide +kernel
theorem dX7_formatEcho_23 : decode cX7_formatEcho 23 = .ok (.getfield 51, 3) := by decide +kernel
theorem dX7_formatEcho_26 : decode cX7_formatEcho 26 = .ok (.bipush 35, 2) := by decide +kernel
theorem dX7_formatEcho_28 : decode cX7_formatEcho 28 = .ok (.invokevirtual 305, 3) := by decide +kernel
theorem dX7_formatEcho_31 : decode cX7_formatEcho 31 = .ok (.iload_n 1, 1) := by decide +kernel
theorem dX7_formatEcho_32 : decode cX7_formatEcho 32 = .ok (.invokevirtual 301, 3) := by decide +kernel
theorem dX7_formatEcho_35 : decode cX7_formatEcho 35 = .ok (.pop, 1) := by decide +kernel
theorem dX7_formatEcho_36 : decode cX7_formatEcho 36 = .ok (.aload_n 0, 1) := by decide +kernel
theorem dX7_formatEcho_37 : decode cX7_formatEcho 37 = .ok (.getfield 51, 3) := by decide +kernel
theorem dX7_formatEcho_40 : decode cX7_formatEcho 40 = .ok (.bipush 64, 2) := by decide +kernel
theorem dX7_formatEcho_42 : decode cX7_formatEcho 42 = .ok (.invokevirtual 305, 3) := by decide +kernel
theorem dX7_formatEcho_45 : decode cX7_formatEcho 45 = .ok (.aload_n 3, 1) := by decide +kernel
theorem dX7_formatEcho_46 : decode cX7_formatEcho 46 = .ok (.getfield 163, 3) := by decide +kernel
theorem dX7_formatEcho_49 : decode cX7_formatEcho 49 = .ok (.iload_n 2, 1) := by decide +kernel
theorem dX7_formatEcho_50 : decode cX7_formatEcho 50 = .ok (.iaload, 1) := by decide +kernel
theorem dX7_formatEcho_51 : decode cX7_formatEcho 51 = .ok (.invokevirtual 301, 3) := by decide +kernel
theorem dX7_formatEcho_54 : decode cX7_formatEcho 54 = .ok (.pop, 1) := by decide +kernel
theorem dX7_formatEcho_55 : decode cX7_formatEcho 55 = .ok (.aload_n 0, 1) := by decide +kernel
theorem dX7_formatEcho_56 : decode cX7_formatEcho 56 = .ok (.getfield 51, 3) := by decide +kernel
theorem dX7_formatEcho_59 : decode cX7_formatEcho 59 = .ok (.bipush 61, 2) := by decide +kernel
theorem dX7_formatEcho_61 : decode cX7_formatEcho 61 = .ok (.invokevirtual 305, 3) := by decide +kernel
theorem dX7_formatEcho_64 : decode cX7_formatEcho 64 = .ok (.aload_n 3, 1) := by decide +kernel
theorem dX7_formatEcho_65 : decode cX7_formatEcho 65 = .ok (.getfield 169, 3) := by decide +kernel
theorem dX7_formatEcho_68 : decode cX7_formatEcho 68 = .ok (.iload_n 2, 1) := by decide +kernel
theorem dX7_formatEcho_69 : decode cX7_formatEcho 69 = .ok (.iaload, 1) := by decide +kernel
theorem dX7_formatEcho_70 : decode cX7_formatEcho 70 = .ok (.invokevirtual 301, 3) := by decide +kernel
theorem dX7_formatEcho_73 : decode cX7_formatEcho 73 = .ok (.pop, 1) := by decide +kernel
theorem dX7_formatEcho_74 : decode cX7_formatEcho 74 = .ok (.aload_n 3, 1) := by decide +kernel
theorem dX7_formatEcho_75 : decode cX7_formatEcho 75 = .ok (.getfield 175, 3) := by decide +kernel
theorem dX7_formatEcho_78 : decode cX7_formatEcho 78 = .ok (.iload_n 2, 1) := by decide +kernel
theorem dX7_formatEcho_79 : decode cX7_formatEcho 79 = .ok (.iaload, 1) := by decide +kernel
theorem dX7_formatEcho_80 : decode cX7_formatEcho 80 = .ok (.iconst (-1), 1) := by decide +kernel
theorem dX7_formatEcho_81 : decode cX7_formatEcho 81 = .ok (.if_icmp .eq 22, 3) := by decide +kernel
theorem dX7_formatEcho_84 : decode cX7_formatEcho 84 = .ok (.aload_n 0, 1) := by decide +kernel
theorem dX7_formatEcho_85 : decode cX7_formatEcho 85 = .ok (.getfield 51, 3) := by decide +kernel
theorem dX7_formatEcho_88 : decode cX7_formatEcho 88 = .ok (.bipush 62, 2) := by decide +kernel
theorem dX7_formatEcho_90 : decode cX7_formatEcho 90 = .ok (.invokevirtual 305, 3) := by decide +kernel
theorem dX7_formatEcho_93 : decode cX7_formatEcho 93 = .ok (.aload_n 3, 1) := by decide +kernel
theorem dX7_formatEcho_94 : decode cX7_formatEcho 94 = .ok (.getfield 175, 3) := by decide +kernel
theorem dX7_formatEcho_97 : decode cX7_formatEcho 97 = .ok (.iload_n 2, 1) := by decide +kernel
theorem dX7_formatEcho_98 : decode cX7_formatEcho 98 = .ok (.iaload, 1) := by decide +kernel
theorem dX7_formatEcho_99 : decode cX7_formatEcho 99 = .ok (.invokevirtual 301, 3) := by decide +kernel
theorem dX7_formatEcho_102 : decode cX7_formatEcho 102 = .ok (.pop, 1) := by decide +kernel
theorem dX7_formatEcho_103 : decode cX7_formatEcho 103 = .ok (.aload_n 0, 1) := by decide +kernel
theorem dX7_formatEcho_104 : decode cX7_formatEcho 104 = .ok (.getfield 51, 3) := by decide +kernel
theorem dX7_formatEcho_107 : decode cX7_formatEcho 107 = .ok (.invokevirtual 312, 3) := by decide +kernel
theorem dX7_formatEcho_110 : decode cX7_formatEcho 110 = .ok (.ireturn, 1) := by decide +kernel
theorem dX7_lineChar_0 : decode cX7_lineChar 0 = .ok (.iload_n 1, 1) := by decide +kernel
theorem dX7_lineChar_1 : decode cX7_lineChar 1 = .ok (.ifCond .lt 14, 3) := by decide +kernel
theorem dX7_lineChar_4 : decode cX7_lineChar 4 = .ok (.iload_n 1, 1) := by decide +kernel
theorem dX7_lineChar_5 : decode cX7_lineChar 5 = .ok (.aload_n 0, 1) := by decide +kernel
theorem dX7_lineChar_6 : decode cX7_lineChar 6 = .ok (.getfield 51, 3) := by decide +kernel
theorem dX7_lineChar_9 : decode cX7_lineChar 9 = .ok (.invokevirtual 312, 3) := by decide +kernel
theorem dX7_lineChar_12 : decode cX7_lineChar 12 = .ok (.if_icmp .lt 14, 3) := by decide +kernel
theorem dX7_lineChar_15 : decode cX7_lineChar 15 = .ok (.new 98, 3) := by decide +kernel
theorem dX7_lineChar_18 : decode cX7_lineChar 18 = .ok (.dup, 1) := by decide +kernel
theorem dX7_lineChar_19 : decode cX7_lineChar 19 = .ok (.ldc_w 315, 3) := by decide +kernel
theorem dX7_lineChar_22 : decode cX7_lineChar 22 = .ok (.invokespecial 102, 3) := by decide +kernel
theorem dX7_lineChar_25 : decode cX7_lineChar 25 = .ok (.athrow, 1) := by decide +kernel
theorem dX7_lineChar_26 : decode cX7_lineChar 26 = .ok (.aload_n 0, 1) := by decide +kernel
theorem dX7_lineChar_27 : decode cX7_lineChar 27 = .ok (.getfield 51, 3) := by decide +kernel
theorem dX7_lineChar_30 : decode cX7_lineChar 30 = .ok (.iload_n 1, 1) := by decide +kernel
theorem dX7_lineChar_31 : decode cX7_lineChar 31 = .ok (.invokevirtual 317, 3) := by decide +kernel
theorem dX7_lineChar_34 : decode cX7_lineChar 34 = .ok (.ireturn, 1) := by decide +kernel
theorem dX7_append_0 : decode cX7_append 0 = .ok (.iload_n 1, 1) := by decide +kernel
theorem dX7_append_1 : decode cX7_append 1 = .ok (.bipush 32, 2) := by decide +kernel
theorem dX7_append_3 : decode cX7_append 3 = .ok (.if_icmp .lt 9, 3) := by decide +kernel
theorem dX7_append_6 : decode cX7_append 6 = .ok (.iload_n 1, 1) := by decide +kernel
theorem dX7_append_7 : decode cX7_append 7 = .ok (.bipush 126, 2) := by decide +kernel
theorem dX7_append_9 : decode cX7_append 9 = .ok (.if_icmp .le 14, 3) := by decide +kernel
theorem dX7_append_12 : decode cX7_append 12 = .ok (.new 103, 3) := by decide +kernel
theorem dX7_append_15 : decode cX7_append 15 = .ok (.dup, 1) := by decide +kernel
theorem dX7_append_16 : decode cX7_append 16 = .ok (.ldc_w 321, 3) := by decide +kernel
theorem dX7_append_19 : decode cX7_append 19 = .ok (.invokespecial 107, 3) := by decide +kernel
theorem dX7_append_22 : decode cX7_append 22 = .ok (.athrow, 1) := by decide +kernel
theorem dX7_append_23 : decode cX7_append 23 = .ok (.aload_n 0, 1) := by decide +kernel
theorem dX7_append_24 : decode cX7_append 24 = .ok (.getfield 47, 3) := by decide +kernel
theorem dX7_append_27 : decode cX7_append 27 = .ok (.invokevirtual 312, 3) := by decide +kernel
theorem dX7_append_30 : decode cX7_append 30 = .ok (.bipush 60, 2) := by decide +kernel
theorem dX7_append_32 : decode cX7_append 32 = .ok (.if_icmp .lt 14, 3) := by decide +kernel
theorem dX7_append_35 : decode cX7_append 35 = .ok (.new 108, 3) := by decide +kernel
theorem dX7_append_38 : decode cX7_append 38 = .ok (.dup, 1) := by decide +kernel
theorem dX7_append_39 : decode cX7_append 39 = .ok (.ldc_w 323, 3) := by decide +kernel
theorem dX7_append_42 : decode cX7_append 42 = .ok (.invokespecial 112, 3) := by decide +kernel
theorem dX7_append_45 : decode cX7_append 45 = .ok (.athrow, 1) := by decide +kernel
theorem dX7_append_46 : decode cX7_append 46 = .ok (.aload_n 0, 1) := by decide +kernel
theorem dX7_append_47 : decode cX7_append 47 = .ok (.getfield 47, 3) := by decide +kernel
theorem dX7_append_50 : decode cX7_append 50 = .ok (.iload_n 1, 1) := by decide +kernel
theorem dX7_append_51 : decode cX7_append 51 = .ok (.invokevirtual 305, 3) := by decide +kernel
theorem dX7_append_54 : decode cX7_append 54 = .ok (.pop, 1) := by decide +kernel
theorem dX7_append_55 : decode cX7_append 55 = .ok (.aload_n 0, 1) := by decide +kernel
theorem dX7_append_56 : decode cX7_append 56 = .ok (.getfield 47, 3) := by decide +kernel
theorem dX7_append_59 : decode cX7_append 59 = .ok (.invokevirtual 312, 3) := by decide +kernel
theorem dX7_append_62 : decode cX7_append 62 = .ok (.ireturn, 1) := by decide +kernel
theorem dX7_run_0 : decode cX7_run 0 = .ok (.aload_n 0, 1) := by decide +kernel
theorem dX7_run_1 : decode cX7_run 1 = .ok (.getfield 40, 3) := by decide +kernel
theorem dX7_run_4 : decode cX7_run 4 = .ok (.aload_n 0, 1) := by decide +kernel
theorem dX7_run_5 : decode cX7_run 5 = .ok (.getfield 47, 3) := by decide +kernel
theorem dX7_run_8 : decode cX7_run 8 = .ok (.invokevirtual 325, 3) := by decide +kernel
theorem dX7_run_11 : decode cX7_run 11 = .ok (.istore_n 1, 1) := by decide +kernel
theorem dX7_run_12 : decode cX7_run 12 = .ok (.aload_n 0, 1) := by decide +kernel
theorem dX7_run_13 : decode cX7_run 13 = .ok (.getfield 47, 3) := by decide +kernel
theorem dX7_run_16 : decode cX7_run 16 = .ok (.iconst 0, 1) := by decide +kernel
theorem dX7_run_17 : decode cX7_run 17 = .ok (.invokevirtual 298, 3) := by decide +kernel
theorem dX7_run_20 : decode cX7_run 20 = .ok (.iload_n 1, 1) := by decide +kernel
theorem dX7_run_21 : decode cX7_run 21 = .ok (.iconst (-1), 1) := by decide +kernel
theorem dX7_run_22 : decode cX7_run 22 = .ok (.if_icmp .eq 19, 3) := by decide +kernel
theorem dX7_run_25 : decode cX7_run 25 = .ok (.aload_n 0, 1) := by decide +kernel
theorem dX7_run_26 : decode cX7_run 26 = .ok (.iload_n 1, 1) := by decide +kernel
theorem dX7_run_27 : decode cX7_run 27 = .ok (.putfield 58, 3) := by decide +kernel
theorem dX7_run_30 : decode cX7_run 30 = .ok (.new 103, 3) := by decide +kernel
theorem dX7_run_33 : decode cX7_run 33 = .ok (.dup, 1) := by decide +kernel
theorem dX7_run_34 : decode cX7_run 34 = .ok (.ldc_w 329, 3) := by decide +kernel
theorem dX7_run_37 : decode cX7_run 37 = .ok (.invokespecial 107, 3) := by decide +kernel
theorem dX7_run_40 : decode cX7_run 40 = .ok (.athrow, 1) := by decide +kernel
theorem dX7_run_41 : decode cX7_run 41 = .ok (.aload_n 0, 1) := by decide +kernel
theorem dX7_run_42 : decode cX7_run 42 = .ok (.getfield 40, 3) := by decide +kernel
theorem dX7_run_45 : decode cX7_run 45 = .ok (.aload_n 0, 1) := by decide +kernel
theorem dX7_run_46 : decode cX7_run 46 = .ok (.getfield 10, 3) := by decide +kernel
theorem dX7_run_49 : decode cX7_run 49 = .ok (.invokevirtual 69, 3) := by decide +kernel
theorem dX7_run_52 : decode cX7_run 52 = .ok (.invokevirtual 331, 3) := by decide +kernel
theorem dX7_run_55 : decode cX7_run 55 = .ok (.istore_n 2, 1) := by decide +kernel
theorem dX7_run_56 : decode cX7_run 56 = .ok (.iload_n 2, 1) := by decide +kernel
theorem dX7_run_57 : decode cX7_run 57 = .ok (.iconst (-1), 1) := by decide +kernel
theorem dX7_run_58 : decode cX7_run 58 = .ok (.if_icmp .eq 19, 3) := by decide +kernel
theorem dX7_run_61 : decode cX7_run 61 = .ok (.aload_n 0, 1) := by decide +kernel
theorem dX7_run_62 : decode cX7_run 62 = .ok (.iload_n 2, 1) := by decide +kernel
theorem dX7_run_63 : decode cX7_run 63 = .ok (.putfield 62, 3) := by decide +kernel
theorem dX7_run_66 : decode cX7_run 66 = .ok (.new 108, 3) := by decide +kernel
theorem dX7_run_69 : decode cX7_run 69 = .ok (.dup, 1) := by decide +kernel
theorem dX7_run_70 : decode cX7_run 70 = .ok (.ldc_w 334, 3) := by decide +kernel
theorem dX7_run_73 : decode cX7_run 73 = .ok (.invokespecial 112, 3) := by decide +kernel
theorem dX7_run_76 : decode cX7_run 76 = .ok (.athrow, 1) := by decide +kernel
theorem dX7_run_77 : decode cX7_run 77 = .ok (.aload_n 0, 1) := by decide +kernel
theorem dX7_run_78 : decode cX7_run 78 = .ok (.getfield 10, 3) := by decide +kernel
theorem dX7_run_81 : decode cX7_run 81 = .ok (.invokevirtual 88, 3) := by decide +kernel
theorem dX7_run_84 : decode cX7_run 84 = .ok (.aload_n 0, 1) := by decide +kernel
theorem dX7_run_85 : decode cX7_run 85 = .ok (.getfield 40, 3) := by decide +kernel
theorem dX7_run_88 : decode cX7_run 88 = .ok (.getfield 336, 3) := by decide +kernel
theorem dX7_run_91 : decode cX7_run 91 = .ok (.ireturn, 1) := by decide +kernel
theorem dX7_undoableCount_0 : decode cX7_undoableCount 0 = .ok (.aload_n 0, 1) := by decide +kernel
theorem dX7_undoableCount_1 : decode cX7_undoableCount 1 = .ok (.getfield 10, 3) := by decide +kernel
theorem dX7_undoableCount_4 : decode cX7_undoableCount 4 = .ok (.getfield 343, 3) := by decide +kernel
theorem dX7_undoableCount_7 : decode cX7_undoableCount 7 = .ok (.ireturn, 1) := by decide +kernel
theorem dX7_undo_0 : decode cX7_undo 0 = .ok (.aload_n 0, 1) := by decide +kernel
theorem dX7_undo_1 : decode cX7_undo 1 = .ok (.getfield 10, 3) := by decide +kernel
theorem dX7_undo_4 : decode cX7_undo 4 = .ok (.getfield 343, 3) := by decide +kernel
theorem dX7_undo_7 : decode cX7_undo 7 = .ok (.ifCond .ne 14, 3) := by decide +kernel
theorem dX7_undo_10 : decode cX7_undo 10 = .ok (.new 108, 3) := by decide +kernel
theorem dX7_undo_13 : decode cX7_undo 13 = .ok (.dup, 1) := by decide +kernel
theorem dX7_undo_14 : decode cX7_undo 14 = .ok (.ldc_w 346, 3) := by decide +kernel
theorem dX7_undo_17 : decode cX7_undo 17 = .ok (.invokespecial 112, 3) := by decide +kernel
theorem dX7_undo_20 : decode cX7_undo 20 = .ok (.athrow, 1) := by decide +kernel
theorem dX7_undo_21 : decode cX7_undo 21 = .ok (.aload_n 0, 1) := by decide +kernel
theorem dX7_undo_22 : decode cX7_undo 22 = .ok (.getfield 10, 3) := by decide +kernel
theorem dX7_undo_25 : decode cX7_undo 25 = .ok (.invokevirtual 348, 3) := by decide +kernel
theorem dX7_undo_28 : decode cX7_undo 28 = .ok (.aload_n 0, 1) := by decide +kernel
theorem dX7_undo_29 : decode cX7_undo 29 = .ok (.getfield 10, 3) := by decide +kernel
theorem dX7_undo_32 : decode cX7_undo 32 = .ok (.getfield 343, 3) := by decide +kernel
theorem dX7_undo_35 : decode cX7_undo 35 = .ok (.ireturn, 1) := by decide +kernel
theorem dX7_save_0 : decode cX7_save 0 = .ok (.aload_n 0, 1) := by decide +kernel
theorem dX7_save_1 : decode cX7_save 1 = .ok (.getfield 19, 3) := by decide +kernel
theorem dX7_save_4 : decode cX7_save 4 = .ok (.aload_n 0, 1) := by decide +kernel
theorem dX7_save_5 : decode cX7_save 5 = .ok (.getfield 10, 3) := by decide +kernel
theorem dX7_save_8 : decode cX7_save 8 = .ok (.invokevirtual 113, 3) := by decide +kernel
theorem dX7_save_11 : decode cX7_save 11 = .ok (.invokevirtual 351, 3) := by decide +kernel
theorem dX7_save_14 : decode cX7_save 14 = .ok (.aload_n 0, 1) := by decide +kernel
theorem dX7_save_15 : decode cX7_save 15 = .ok (.iconst 1, 1) := by decide +kernel
theorem dX7_save_16 : decode cX7_save 16 = .ok (.putfield 54, 3) := by decide +kernel
theorem dX7_save_19 : decode cX7_save 19 = .ok (.aload_n 0, 1) := by decide +kernel
theorem dX7_save_20 : decode cX7_save 20 = .ok (.getfield 19, 3) := by decide +kernel
theorem dX7_save_23 : decode cX7_save 23 = .ok (.getfield 157, 3) := by decide +kernel
theorem dX7_save_26 : decode cX7_save 26 = .ok (.ireturn, 1) := by decide +kernel
theorem dX7_restore_0 : decode cX7_restore 0 = .ok (.aload_n 0, 1) := by decide +kernel
theorem dX7_restore_1 : decode cX7_restore 1 = .ok (.getfield 54, 3) := by decide +kernel
theorem dX7_restore_4 : decode cX7_restore 4 = .ok (.ifCond .ne 14, 3) := by decide +kernel
theorem dX7_restore_7 : decode cX7_restore 7 = .ok (.new 108, 3) := by decide +kernel
theorem dX7_restore_10 : decode cX7_restore 10 = .ok (.dup, 1) := by decide +kernel
theorem dX7_restore_11 : decode cX7_restore 11 = .ok (.ldc_w 354, 3) := by decide +kernel
theorem dX7_restore_14 : decode cX7_restore 14 = .ok (.invokespecial 112, 3) := by decide +kernel
theorem dX7_restore_17 : decode cX7_restore 17 = .ok (.athrow, 1) := by decide +kernel
theorem dX7_restore_18 : decode cX7_restore 18 = .ok (.aload_n 0, 1) := by decide +kernel
theorem dX7_restore_19 : decode cX7_restore 19 = .ok (.getfield 10, 3) := by decide +kernel
theorem dX7_restore_22 : decode cX7_restore 22 = .ok (.aload_n 0, 1) := by decide +kernel
theorem dX7_restore_23 : decode cX7_restore 23 = .ok (.getfield 19, 3) := by decide +kernel
theorem dX7_restore_26 : decode cX7_restore 26 = .ok (.invokevirtual 356, 3) := by decide +kernel
theorem dX7_restore_29 : decode cX7_restore 29 = .ok (.aload_n 0, 1) := by decide +kernel
theorem dX7_restore_30 : decode cX7_restore 30 = .ok (.getfield 19, 3) := by decide +kernel
theorem dX7_restore_33 : decode cX7_restore 33 = .ok (.getfield 157, 3) := by decide +kernel
theorem dX7_restore_36 : decode cX7_restore 36 = .ok (.ireturn, 1) := by decide +kernel
theorem dJ5_init_d00df_0 : decode cJ5_init_d00df 0 = .ok (.aload_n 0, 1) := by decide +kernel
theorem dJ5_init_d00df_1 : decode cJ5_init_d00df 1 = .ok (.invokespecial 3, 3) := by decide +kernel
theorem dJ5_init_d00df_4 : decode cJ5_init_d00df 4 = .ok (.getstatic 18, 3) := by decide +kernel
theorem dJ5_init_d00df_7 : decode cJ5_init_d00df 7 = .ok (.ifCond .eq 18, 3) := by decide +kernel
theorem dJ5_init_d00df_10 : decode cJ5_init_d00df 10 = .ok (.aload_n 0, 1) := by decide +kernel
theorem dJ5_init_d00df_11 : decode cJ5_init_d00df 11 = .ok (.iload_n 1, 1) := by decide +kernel
theorem dJ5_init_d00df_12 : decode cJ5_init_d00df 12 = .ok (.newarray .byte, 2) := by decide +kernel
theorem dJ5_init_d00df_14 : decode cJ5_init_d00df 14 = .ok (.putfield 15, 3) := by decide +kernel
theorem dJ5_init_d00df_17 : decode cJ5_init_d00df 17 = .ok (.aload_n 0, 1) := by decide +kernel
theorem dJ5_init_d00df_18 : decode cJ5_init_d00df 18 = .ok (.iconst 0, 1) := by decide +kernel
theorem dJ5_init_d00df_19 : decode cJ5_init_d00df 19 = .ok (.putfield 22, 3) := by decide +kernel
theorem dJ5_init_d00df_22 : decode cJ5_init_d00df 22 = .ok (.goto 16, 3) := by decide +kernel
theorem dJ5_init_d00df_25 : decode cJ5_init_d00df 25 = .ok (.aload_n 0, 1) := by decide +kernel
theorem dJ5_init_d00df_26 : decode cJ5_init_d00df 26 = .ok (.iload_n 1, 1) := by decide +kernel
theorem dJ5_init_d00df_27 : decode cJ5_init_d00df 27 = .ok (.invokestatic 26, 3) := by decide +kernel
theorem dJ5_init_d00df_30 : decode cJ5_init_d00df 30 = .ok (.putfield 15, 3) := by decide +kernel
theorem dJ5_init_d00df_33 : decode cJ5_init_d00df 33 = .ok (.aload_n 0, 1) := by decide +kernel
theorem dJ5_init_d00df_34 : decode cJ5_init_d00df 34 = .ok (.iconst 1, 1) := by decide +kernel
theorem dJ5_init_d00df_35 : decode cJ5_init_d00df 35 = .ok (.putfield 22, 3) := by decide +kernel
theorem dJ5_init_d00df_38 : decode cJ5_init_d00df 38 = .ok (.return_, 1) := by decide +kernel
theorem dJ5_length_8abf5_0 : decode cJ5_length_8abf5 0 = .ok (.aload_n 0, 1) := by decide +kernel
theorem dJ5_length_8abf5_1 : decode cJ5_length_8abf5 1 = .ok (.getfield 79, 3) := by decide +kernel
theorem dJ5_length_8abf5_4 : decode cJ5_length_8abf5 4 = .ok (.ireturn, 1) := by decide +kernel
theorem dJ5_ensureCapacityInternal_d00df_0 : decode cJ5_ensureCapacityInternal_d00df 0 = .ok (.aload_n 0, 1) := by decide +kernel
theorem dJ5_ensureCapacityInternal_d00df_1 : decode cJ5_ensureCapacityInternal_d00df 1 = .ok (.getfield 15, 3) := by decide +kernel
theorem dJ5_ensureCapacityInternal_d00df_4 : decode cJ5_ensureCapacityInternal_d00df 4 = .ok (.arraylength, 1) := by decide +kernel
theorem dJ5_ensureCapacityInternal_d00df_5 : decode cJ5_ensureCapacityInternal_d00df 5 = .ok (.aload_n 0, 1) := by decide +kernel
theorem dJ5_ensureCapacityInternal_d00df_6 : decode cJ5_ensureCapacityInternal_d00df 6 = .ok (.getfield 22, 3) := by decide +kernel
theorem dJ5_ensureCapacityInternal_d00df_9 : decode cJ5_ensureCapacityInternal_d00df 9 = .ok (.ishr, 1) := by decide +kernel
theorem dJ5_ensureCapacityInternal_d00df_10 : decode cJ5_ensureCapacityInternal_d00df 10 = .ok (.istore_n 2, 1) := by decide +kernel
theorem dJ5_ensureCapacityInternal_d00df_11 : decode cJ5_ensureCapacityInternal_d00df 11 = .ok (.iload_n 1, 1) := by decide +kernel
theorem dJ5_ensureCapacityInternal_d00df_12 : decode cJ5_ensureCapacityInternal_d00df 12 = .ok (.iload_n 2, 1) := by decide +kernel
theorem dJ5_ensureCapacityInternal_d00df_13 : decode cJ5_ensureCapacityInternal_d00df 13 = .ok (.isub, 1) := by decide +kernel
theorem dJ5_ensureCapacityInternal_d00df_14 : decode cJ5_ensureCapacityInternal_d00df 14 = .ok (.ifCond .le 24, 3) := by decide +kernel
theorem dJ5_ensureCapacityInternal_d00df_17 : decode cJ5_ensureCapacityInternal_d00df 17 = .ok (.aload_n 0, 1) := by decide +kernel
theorem dJ5_ensureCapacityInternal_d00df_18 : decode cJ5_ensureCapacityInternal_d00df 18 = .ok (.aload_n 0, 1) := by decide +kernel
theorem dJ5_ensureCapacityInternal_d00df_19 : decode cJ5_ensureCapacityInternal_d00df 19 = .ok (.getfield 15, 3) := by decide +kernel
theorem dJ5_ensureCapacityInternal_d00df_22 : decode cJ5_ensureCapacityInternal_d00df 22 = .ok (.aload_n 0, 1) := by decide +kernel
theorem dJ5_ensureCapacityInternal_d00df_23 : decode cJ5_ensureCapacityInternal_d00df 23 = .ok (.iload_n 1, 1) := by decide +kernel
theorem dJ5_ensureCapacityInternal_d00df_24 : decode cJ5_ensureCapacityInternal_d00df 24 = .ok (.invokevirtual 104, 3) := by decide +kernel
theorem dJ5_ensureCapacityInternal_d00df_27 : decode cJ5_ensureCapacityInternal_d00df 27 = .ok (.aload_n 0, 1) := by decide +kernel
theorem dJ5_ensureCapacityInternal_d00df_28 : decode cJ5_ensureCapacityInternal_d00df 28 = .ok (.getfield 22, 3) := by decide +kernel
theorem dJ5_ensureCapacityInternal_d00df_31 : decode cJ5_ensureCapacityInternal_d00df 31 = .ok (.ishl, 1) := by decide +kernel
theorem dJ5_ensureCapacityInternal_d00df_32 : decode cJ5_ensureCapacityInternal_d00df 32 = .ok (.invokestatic 108, 3) := by decide +kernel
theorem dJ5_ensureCapacityInternal_d00df_35 : decode cJ5_ensureCapacityInternal_d00df 35 = .ok (.putfield 15, 3) := by decide +kernel
theorem dJ5_ensureCapacityInternal_d00df_38 : decode cJ5_ensureCapacityInternal_d00df 38 = .ok (.return_, 1) := by decide +kernel
theorem dJ5_newCapacity_0f7a4_0 : decode cJ5_newCapacity_0f7a4 0 = .ok (.aload_n 0, 1) := by decide +kernel
theorem dJ5_newCapacity_0f7a4_1 : decode cJ5_newCapacity_0f7a4 1 = .ok (.getfield 15, 3) := by decide +kernel
theorem dJ5_newCapacity_0f7a4_4 : decode cJ5_newCapacity_0f7a4 4 = .ok (.arraylength, 1) := by decide +kernel
theorem dJ5_newCapacity_0f7a4_5 : decode cJ5_newCapacity_0f7a4 5 = .ok (.istore_n 2, 1) := by decide +kernel
theorem dJ5_newCapacity_0f7a4_6 : decode cJ5_newCapacity_0f7a4 6 = .ok (.iload_n 1, 1) := by decide +kernel
theorem dJ5_newCapacity_0f7a4_7 : decode cJ5_newCapacity_0f7a4 7 = .ok (.aload_n 0, 1) := by decide +kernel
theorem dJ5_newCapacity_0f7a4_8 : decode cJ5_newCapacity_0f7a4 8 = .ok (.getfield 22, 3) := by decide +kernel
theorem dJ5_newCapacity_0f7a4_11 : decode cJ5_newCapacity_0f7a4 11 = .ok (.ishl, 1) := by decide +kernel
theorem dJ5_newCapacity_0f7a4_12 : decode cJ5_newCapacity_0f7a4 12 = .ok (.istore_n 3, 1) := by decide +kernel
theorem dJ5_newCapacity_0f7a4_13 : decode cJ5_newCapacity_0f7a4 13 = .ok (.iload_n 3, 1) := by decide +kernel
theorem dJ5_newCapacity_0f7a4_14 : decode cJ5_newCapacity_0f7a4 14 = .ok (.iload_n 2, 1) := by decide +kernel
theorem dJ5_newCapacity_0f7a4_15 : decode cJ5_newCapacity_0f7a4 15 = .ok (.isub, 1) := by decide +kernel
theorem dJ5_newCapacity_0f7a4_16 : decode cJ5_newCapacity_0f7a4 16 = .ok (.istore 4, 2) := by decide +kernel
theorem dJ5_newCapacity_0f7a4_18 : decode cJ5_newCapacity_0f7a4 18 = .ok (.iload_n 2, 1) := by decide +kernel
theorem dJ5_newCapacity_0f7a4_19 : decode cJ5_newCapacity_0f7a4 19 = .ok (.iload 4, 2) := by decide +kernel
theorem dJ5_newCapacity_0f7a4_21 : decode cJ5_newCapacity_0f7a4 21 = .ok (.iload_n 2, 1) := by decide +kernel
theorem dJ5_newCapacity_0f7a4_22 : decode cJ5_newCapacity_0f7a4 22 = .ok (.iconst 2, 1) := by decide +kernel
theorem dJ5_newCapacity_0f7a4_23 : decode cJ5_newCapacity_0f7a4 23 = .ok (.aload_n 0, 1) := by decide +kernel
theorem dJ5_newCapacity_0f7a4_24 : decode cJ5_newCapacity_0f7a4 24 = .ok (.getfield 22, 3) := by decide +kernel
theorem dJ5_newCapacity_0f7a4_27 : decode cJ5_newCapacity_0f7a4 27 = .ok (.ishl, 1) := by decide +kernel
theorem dJ5_newCapacity_0f7a4_28 : decode cJ5_newCapacity_0f7a4 28 = .ok (.iadd, 1) := by decide +kernel
theorem dJ5_newCapacity_0f7a4_29 : decode cJ5_newCapacity_0f7a4 29 = .ok (.invokestatic 114, 3) := by decide +kernel
theorem dJ5_newCapacity_0f7a4_32 : decode cJ5_newCapacity_0f7a4 32 = .ok (.istore 5, 2) := by decide +kernel
theorem dJ5_newCapacity_0f7a4_34 : decode cJ5_newCapacity_0f7a4 34 = .ok (.iload 5, 2) := by decide +kernel
theorem dJ5_newCapacity_0f7a4_36 : decode cJ5_newCapacity_0f7a4 36 = .ok (.ldc 39, 2) := by decide +kernel
theorem dJ5_newCapacity_0f7a4_38 : decode cJ5_newCapacity_0f7a4 38 = .ok (.if_icmp .ne 13, 3) := by decide +kernel
theorem dJ5_newCapacity_0f7a4_41 : decode cJ5_newCapacity_0f7a4 41 = .ok (.new 120, 3) := by decide +kernel
theorem dJ5_newCapacity_0f7a4_44 : decode cJ5_newCapacity_0f7a4 44 = .ok (.dup, 1) := by decide +kernel
theorem dJ5_newCapacity_0f7a4_45 : decode cJ5_newCapacity_0f7a4 45 = .ok (.ldc 122, 2) := by decide +kernel
theorem dJ5_newCapacity_0f7a4_47 : decode cJ5_newCapacity_0f7a4 47 = .ok (.invokespecial 124, 3) := by decide +kernel
theorem dJ5_newCapacity_0f7a4_50 : decode cJ5_newCapacity_0f7a4 50 = .ok (.athrow, 1) := by decide +kernel
theorem dJ5_newCapacity_0f7a4_51 : decode cJ5_newCapacity_0f7a4 51 = .ok (.iload 5, 2) := by decide +kernel
theorem dJ5_newCapacity_0f7a4_53 : decode cJ5_newCapacity_0f7a4 53 = .ok (.aload_n 0, 1) := by decide +kernel
theorem dJ5_newCapacity_0f7a4_54 : decode cJ5_newCapacity_0f7a4 54 = .ok (.getfield 22, 3) := by decide +kernel
theorem dJ5_newCapacity_0f7a4_57 : decode cJ5_newCapacity_0f7a4 57 = .ok (.ishr, 1) := by decide +kernel
theorem dJ5_newCapacity_0f7a4_58 : decode cJ5_newCapacity_0f7a4 58 = .ok (.ireturn, 1) := by decide +kernel
theorem dJ5_inflate_da8c8_0 : decode cJ5_inflate_da8c8 0 = .ok (.aload_n 0, 1) := by decide +kernel
theorem dJ5_inflate_da8c8_1 : decode cJ5_inflate_da8c8 1 = .ok (.invokevirtual 83, 3) := by decide +kernel
theorem dJ5_inflate_da8c8_4 : decode cJ5_inflate_da8c8 4 = .ok (.ifCond .ne 4, 3) := by decide +kernel
theorem dJ5_inflate_da8c8_7 : decode cJ5_inflate_da8c8 7 = .ok (.return_, 1) := by decide +kernel
theorem dJ5_inflate_da8c8_8 : decode cJ5_inflate_da8c8 8 = .ok (.aload_n 0, 1) := by decide +kernel
theorem dJ5_inflate_da8c8_9 : decode cJ5_inflate_da8c8 9 = .ok (.getfield 15, 3) := by decide +kernel
theorem dJ5_inflate_da8c8_12 : decode cJ5_inflate_da8c8 12 = .ok (.arraylength, 1) := by decide +kernel
theorem dJ5_inflate_da8c8_13 : decode cJ5_inflate_da8c8 13 = .ok (.invokestatic 26, 3) := by decide +kernel
theorem dJ5_inflate_da8c8_16 : decode cJ5_inflate_da8c8 16 = .ok (.astore_n 1, 1) := by decide +kernel
theorem dJ5_inflate_da8c8_17 : decode cJ5_inflate_da8c8 17 = .ok (.aload_n 0, 1) := by decide +kernel
theorem dJ5_inflate_da8c8_18 : decode cJ5_inflate_da8c8 18 = .ok (.getfield 15, 3) := by decide +kernel
theorem dJ5_inflate_da8c8_21 : decode cJ5_inflate_da8c8 21 = .ok (.iconst 0, 1) := by decide +kernel
theorem dJ5_inflate_da8c8_22 : decode cJ5_inflate_da8c8 22 = .ok (.aload_n 1, 1) := by decide +kernel
theorem dJ5_inflate_da8c8_23 : decode cJ5_inflate_da8c8 23 = .ok (.iconst 0, 1) := by decide +kernel
theorem dJ5_inflate_da8c8_24 : decode cJ5_inflate_da8c8 24 = .ok (.aload_n 0, 1) := by decide +kernel
theorem dJ5_inflate_da8c8_25 : decode cJ5_inflate_da8c8 25 = .ok (.getfield 79, 3) := by decide +kernel
theorem dJ5_inflate_da8c8_28 : decode cJ5_inflate_da8c8 28 = .ok (.invokestatic 125, 3) := by decide +kernel
theorem dJ5_inflate_da8c8_31 : decode cJ5_inflate_da8c8 31 = .ok (.aload_n 0, 1) := by decide +kernel
theorem dJ5_inflate_da8c8_32 : decode cJ5_inflate_da8c8 32 = .ok (.aload_n 1, 1) := by decide +kernel
theorem dJ5_inflate_da8c8_33 : decode cJ5_inflate_da8c8 33 = .ok (.putfield 15, 3) := by decide +kernel
theorem dJ5_inflate_da8c8_36 : decode cJ5_inflate_da8c8 36 = .ok (.aload_n 0, 1) := by decide +kernel
theorem dJ5_inflate_da8c8_37 : decode cJ5_inflate_da8c8 37 = .ok (.iconst 1, 1) := by decide +kernel
theorem dJ5_inflate_da8c8_38 : decode cJ5_inflate_da8c8 38 = .ok (.putfield 22, 3) := by decide +kernel
theorem dJ5_inflate_da8c8_41 : decode cJ5_inflate_da8c8 41 = .ok (.return_, 1) := by decide +kernel
theorem dJ5_setLength_d00df_0 : decode cJ5_setLength_d00df 0 = .ok (.iload_n 1, 1) := by decide +kernel
theorem dJ5_setLength_d00df_1 : decode cJ5_setLength_d00df 1 = .ok (.ifCond .ge 12, 3) := by decide +kernel
theorem dJ5_setLength_d00df_4 : decode cJ5_setLength_d00df 4 = .ok (.new 129, 3) := by decide +kernel
theorem dJ5_setLength_d00df_7 : decode cJ5_setLength_d00df 7 = .ok (.dup, 1) := by decide +kernel
theorem dJ5_setLength_d00df_8 : decode cJ5_setLength_d00df 8 = .ok (.iload_n 1, 1) := by decide +kernel
theorem dJ5_setLength_d00df_9 : decode cJ5_setLength_d00df 9 = .ok (.invokespecial 131, 3) := by decide +kernel
theorem dJ5_setLength_d00df_12 : decode cJ5_setLength_d00df 12 = .ok (.athrow, 1) := by decide +kernel
theorem dJ5_setLength_d00df_13 : decode cJ5_setLength_d00df 13 = .ok (.aload_n 0, 1) := by decide +kernel
theorem dJ5_setLength_d00df_14 : decode cJ5_setLength_d00df 14 = .ok (.iload_n 1, 1) := by decide +kernel
theorem dJ5_setLength_d00df_15 : decode cJ5_setLength_d00df 15 = .ok (.invokevirtual 100, 3) := by decide +kernel
theorem dJ5_setLength_d00df_18 : decode cJ5_setLength_d00df 18 = .ok (.aload_n 0, 1) := by decide +kernel
theorem dJ5_setLength_d00df_19 : decode cJ5_setLength_d00df 19 = .ok (.getfield 79, 3) := by decide +kernel
theorem dJ5_setLength_d00df_22 : decode cJ5_setLength_d00df 22 = .ok (.iload_n 1, 1) := by decide +kernel
theorem dJ5_setLength_d00df_23 : decode cJ5_setLength_d00df 23 = .ok (.if_icmp .ge 40, 3) := by decide +kernel
theorem dJ5_setLength_d00df_26 : decode cJ5_setLength_d00df 26 = .ok (.aload_n 0, 1) := by decide +kernel
theorem dJ5_setLength_d00df_27 : decode cJ5_setLength_d00df 27 = .ok (.invokevirtual 83, 3) := by decide +kernel
theorem dJ5_setLength_d00df_30 : decode cJ5_setLength_d00df 30 = .ok (.ifCond .eq 18, 3) := by decide +kernel
theorem dJ5_setLength_d00df_33 : decode cJ5_setLength_d00df 33 = .ok (.aload_n 0, 1) := by decide +kernel
theorem dJ5_setLength_d00df_34 : decode cJ5_setLength_d00df 34 = .ok (.getfield 15, 3) := by decide +kernel
theorem dJ5_setLength_d00df_37 : decode cJ5_setLength_d00df 37 = .ok (.aload_n 0, 1) := by decide +kernel
theorem dJ5_setLength_d00df_38 : decode cJ5_setLength_d00df 38 = .ok (.getfield 79, 3) := by decide +kernel
theorem dJ5_setLength_d00df_41 : decode cJ5_setLength_d00df 41 = .ok (.iload_n 1, 1) := by decide +kernel
theorem dJ5_setLength_d00df_42 : decode cJ5_setLength_d00df 42 = .ok (.invokestatic 133, 3) := by decide +kernel
theorem dJ5_setLength_d00df_45 : decode cJ5_setLength_d00df 45 = .ok (.goto 31, 3) := by decide +kernel
theorem dJ5_setLength_d00df_48 : decode cJ5_setLength_d00df 48 = .ok (.aload_n 0, 1) := by decide +kernel
theorem dJ5_setLength_d00df_49 : decode cJ5_setLength_d00df 49 = .ok (.getfield 15, 3) := by decide +kernel
theorem dJ5_setLength_d00df_52 : decode cJ5_setLength_d00df 52 = .ok (.aload_n 0, 1) := by decide +kernel
theorem dJ5_setLength_d00df_53 : decode cJ5_setLength_d00df 53 = .ok (.getfield 79, 3) := by decide +kernel
theorem dJ5_setLength_d00df_56 : decode cJ5_setLength_d00df 56 = .ok (.iload_n 1, 1) := by decide +kernel
theorem dJ5_setLength_d00df_57 : decode cJ5_setLength_d00df 57 = .ok (.invokestatic 137, 3) := by decide +kernel
theorem dJ5_setLength_d00df_60 : decode cJ5_setLength_d00df 60 = .ok (.goto 16, 3) := by decide +kernel
theorem dJ5_setLength_d00df_63 : decode cJ5_setLength_d00df 63 = .ok (.aload_n 0, 1) := by decide +kernel
theorem dJ5_setLength_d00df_64 : decode cJ5_setLength_d00df 64 = .ok (.getfield 79, 3) := by decide +kernel
theorem dJ5_setLength_d00df_67 : decode cJ5_setLength_d00df 67 = .ok (.iload_n 1, 1) := by decide +kernel
theorem dJ5_setLength_d00df_68 : decode cJ5_setLength_d00df 68 = .ok (.if_icmp .le 8, 3) := by decide +kernel
theorem dJ5_setLength_d00df_71 : decode cJ5_setLength_d00df 71 = .ok (.aload_n 0, 1) := by decide +kernel
theorem dJ5_setLength_d00df_72 : decode cJ5_setLength_d00df 72 = .ok (.iconst 1, 1) := by decide +kernel
theorem dJ5_setLength_d00df_73 : decode cJ5_setLength_d00df 73 = .ok (.putfield 73, 3) := by decide +kernel
theorem dJ5_setLength_d00df_76 : decode cJ5_setLength_d00df 76 = .ok (.aload_n 0, 1) := by decide +kernel
theorem dJ5_setLength_d00df_77 : decode cJ5_setLength_d00df 77 = .ok (.iload_n 1, 1) := by decide +kernel
theorem dJ5_setLength_d00df_78 : decode cJ5_setLength_d00df 78 = .ok (.putfield 79, 3) := by decide +kernel
theorem dJ5_setLength_d00df_81 : decode cJ5_setLength_d00df 81 = .ok (.return_, 1) := by decide +kernel
theorem dJ5_charAt_5068e_0 : decode cJ5_charAt_5068e 0 = .ok (.aload_n 0, 1) := by decide +kernel
theorem dJ5_charAt_5068e_1 : decode cJ5_charAt_5068e 1 = .ok (.getfield 22, 3) := by decide +kernel
theorem dJ5_charAt_5068e_4 : decode cJ5_charAt_5068e 4 = .ok (.istore_n 2, 1) := by decide +kernel
theorem dJ5_charAt_5068e_5 : decode cJ5_charAt_5068e 5 = .ok (.aload_n 0, 1) := by decide +kernel
theorem dJ5_charAt_5068e_6 : decode cJ5_charAt_5068e 6 = .ok (.getfield 15, 3) := by decide +kernel
theorem dJ5_charAt_5068e_9 : decode cJ5_charAt_5068e 9 = .ok (.astore_n 3, 1) := by decide +kernel
theorem dJ5_charAt_5068e_10 : decode cJ5_charAt_5068e 10 = .ok (.aload_n 0, 1) := by decide +kernel
theorem dJ5_charAt_5068e_11 : decode cJ5_charAt_5068e 11 = .ok (.getfield 79, 3) := by decide +kernel
theorem dJ5_charAt_5068e_14 : decode cJ5_charAt_5068e 14 = .ok (.aload_n 3, 1) := by decide +kernel
theorem dJ5_charAt_5068e_15 : decode cJ5_charAt_5068e 15 = .ok (.arraylength, 1) := by decide +kernel
theorem dJ5_charAt_5068e_16 : decode cJ5_charAt_5068e 16 = .ok (.iload_n 2, 1) := by decide +kernel
theorem dJ5_charAt_5068e_17 : decode cJ5_charAt_5068e 17 = .ok (.ishr, 1) := by decide +kernel
theorem dJ5_charAt_5068e_18 : decode cJ5_charAt_5068e 18 = .ok (.invokestatic 138, 3) := by decide +kernel
theorem dJ5_charAt_5068e_21 : decode cJ5_charAt_5068e 21 = .ok (.istore 4, 2) := by decide +kernel
theorem dJ5_charAt_5068e_23 : decode cJ5_charAt_5068e 23 = .ok (.iload_n 1, 1) := by decide +kernel
theorem dJ5_charAt_5068e_24 : decode cJ5_charAt_5068e 24 = .ok (.iload 4, 2) := by decide +kernel
theorem dJ5_charAt_5068e_26 : decode cJ5_charAt_5068e 26 = .ok (.invokestatic 144, 3) := by decide +kernel
theorem dJ5_charAt_5068e_29 : decode cJ5_charAt_5068e 29 = .ok (.iload_n 2, 1) := by decide +kernel
theorem dJ5_charAt_5068e_30 : decode cJ5_charAt_5068e 30 = .ok (.ifCond .ne 12, 3) := by decide +kernel
theorem dJ5_charAt_5068e_33 : decode cJ5_charAt_5068e 33 = .ok (.aload_n 3, 1) := by decide +kernel
theorem dJ5_charAt_5068e_34 : decode cJ5_charAt_5068e 34 = .ok (.iload_n 1, 1) := by decide +kernel
theorem dJ5_charAt_5068e_35 : decode cJ5_charAt_5068e 35 = .ok (.baload, 1) := by decide +kernel
theorem dJ5_charAt_5068e_36 : decode cJ5_charAt_5068e 36 = .ok (.sipush 255, 3) := by decide +kernel
theorem dJ5_charAt_5068e_39 : decode cJ5_charAt_5068e 39 = .ok (.iand, 1) := by decide +kernel
theorem dJ5_charAt_5068e_40 : decode cJ5_charAt_5068e 40 = .ok (.i2c, 1) := by decide +kernel
theorem dJ5_charAt_5068e_41 : decode cJ5_charAt_5068e 41 = .ok (.ireturn, 1) := by decide +kernel
theorem dJ5_charAt_5068e_42 : decode cJ5_charAt_5068e 42 = .ok (.aload_n 3, 1) := by decide +kernel
theorem dJ5_charAt_5068e_43 : decode cJ5_charAt_5068e 43 = .ok (.iload_n 1, 1) := by decide +kernel
theorem dJ5_charAt_5068e_44 : decode cJ5_charAt_5068e 44 = .ok (.invokestatic 148, 3) := by decide +kernel
theorem dJ5_charAt_5068e_47 : decode cJ5_charAt_5068e 47 = .ok (.ireturn, 1) := by decide +kernel
theorem dJ5_append_cf1ce_0 : decode cJ5_append_cf1ce 0 = .ok (.aload_n 1, 1) := by decide +kernel
theorem dJ5_append_cf1ce_1 : decode cJ5_append_cf1ce 1 = .ok (.ifnonnull 8, 3) := by decide +kernel
theorem dJ5_append_cf1ce_4 : decode cJ5_append_cf1ce 4 = .ok (.aload_n 0, 1) := by decide +kernel
theorem dJ5_append_cf1ce_5 : decode cJ5_append_cf1ce 5 = .ok (.invokevirtual 204, 3) := by decide +kernel
theorem dJ5_append_cf1ce_8 : decode cJ5_append_cf1ce 8 = .ok (.areturn, 1) := by decide +kernel
theorem dJ5_append_cf1ce_9 : decode cJ5_append_cf1ce 9 = .ok (.aload_n 1, 1) := by decide +kernel
theorem dJ5_append_cf1ce_10 : decode cJ5_append_cf1ce 10 = .ok (.invokevirtual 32, 3) := by decide +kernel
theorem dJ5_append_cf1ce_13 : decode cJ5_append_cf1ce 13 = .ok (.istore_n 2, 1) := by decide +kernel
theorem dJ5_append_cf1ce_14 : decode cJ5_append_cf1ce 14 = .ok (.aload_n 0, 1) := by decide +kernel
theorem dJ5_append_cf1ce_15 : decode cJ5_append_cf1ce 15 = .ok (.aload_n 0, 1) := by decide +kernel
theorem dJ5_append_cf1ce_16 : decode cJ5_append_cf1ce 16 = .ok (.getfield 79, 3) := by decide +kernel
theorem dJ5_append_cf1ce_19 : decode cJ5_append_cf1ce 19 = .ok (.iload_n 2, 1) := by decide +kernel
theorem dJ5_append_cf1ce_20 : decode cJ5_append_cf1ce 20 = .ok (.iadd, 1) := by decide +kernel
theorem dJ5_append_cf1ce_21 : decode cJ5_append_cf1ce 21 = .ok (.invokevirtual 100, 3) := by decide +kernel
theorem dJ5_append_cf1ce_24 : decode cJ5_append_cf1ce 24 = .ok (.aload_n 0, 1) := by decide +kernel
theorem dJ5_append_cf1ce_25 : decode cJ5_append_cf1ce 25 = .ok (.aload_n 0, 1) := by decide +kernel
theorem dJ5_append_cf1ce_26 : decode cJ5_append_cf1ce 26 = .ok (.getfield 79, 3) := by decide +kernel
theorem dJ5_append_cf1ce_29 : decode cJ5_append_cf1ce 29 = .ok (.aload_n 1, 1) := by decide +kernel
theorem dJ5_append_cf1ce_30 : decode cJ5_append_cf1ce 30 = .ok (.invokevirtual 208, 3) := by decide +kernel
theorem dJ5_append_cf1ce_33 : decode cJ5_append_cf1ce 33 = .ok (.aload_n 0, 1) := by decide +kernel
theorem dJ5_append_cf1ce_34 : decode cJ5_append_cf1ce 34 = .ok (.dup, 1) := by decide +kernel
theorem dJ5_append_cf1ce_35 : decode cJ5_append_cf1ce 35 = .ok (.getfield 79, 3) := by decide +kernel
theorem dJ5_append_cf1ce_38 : decode cJ5_append_cf1ce 38 = .ok (.iload_n 2, 1) := by decide +kernel
theorem dJ5_append_cf1ce_39 : decode cJ5_append_cf1ce 39 = .ok (.iadd, 1) := by decide +kernel
theorem dJ5_append_cf1ce_40 : decode cJ5_append_cf1ce 40 = .ok (.putfield 79, 3) := by decide +kernel
theorem dJ5_append_cf1ce_43 : decode cJ5_append_cf1ce 43 = .ok (.aload_n 0, 1) := by decide +kernel
theorem dJ5_append_cf1ce_44 : decode cJ5_append_cf1ce 44 = .ok (.areturn, 1) := by decide +kernel
theorem dJ5_appendNull_278bc_0 : decode cJ5_appendNull_278bc 0 = .ok (.aload_n 0, 1) := by decide +kernel
theorem dJ5_appendNull_278bc_1 : decode cJ5_appendNull_278bc 1 = .ok (.aload_n 0, 1) := by decide +kernel
theorem dJ5_appendNull_278bc_2 : decode cJ5_appendNull_278bc 2 = .ok (.getfield 79, 3) := by decide +kernel
theorem dJ5_appendNull_278bc_5 : decode cJ5_appendNull_278bc 5 = .ok (.iconst 4, 1) := by decide +kernel
theorem dJ5_appendNull_278bc_6 : decode cJ5_appendNull_278bc 6 = .ok (.iadd, 1) := by decide +kernel
theorem dJ5_appendNull_278bc_7 : decode cJ5_appendNull_278bc 7 = .ok (.invokevirtual 100, 3) := by decide +kernel
theorem dJ5_appendNull_278bc_10 : decode cJ5_appendNull_278bc 10 = .ok (.aload_n 0, 1) := by decide +kernel
theorem dJ5_appendNull_278bc_11 : decode cJ5_appendNull_278bc 11 = .ok (.getfield 79, 3) := by decide +kernel
theorem dJ5_appendNull_278bc_14 : decode cJ5_appendNull_278bc 14 = .ok (.istore_n 1, 1) := by decide +kernel
theorem dJ5_appendNull_278bc_15 : decode cJ5_appendNull_278bc 15 = .ok (.aload_n 0, 1) := by decide +kernel
theorem dJ5_appendNull_278bc_16 : decode cJ5_appendNull_278bc 16 = .ok (.getfield 15, 3) := by decide +kernel
theorem dJ5_appendNull_278bc_19 : decode cJ5_appendNull_278bc 19 = .ok (.astore_n 2, 1) := by decide +kernel
theorem dJ5_appendNull_278bc_20 : decode cJ5_appendNull_278bc 20 = .ok (.aload_n 0, 1) := by decide +kernel
theorem dJ5_appendNull_278bc_21 : decode cJ5_appendNull_278bc 21 = .ok (.invokevirtual 83, 3) := by decide +kernel
theorem dJ5_appendNull_278bc_24 : decode cJ5_appendNull_278bc 24 = .ok (.ifCond .eq 38, 3) := by decide +kernel
theorem dJ5_appendNull_278bc_27 : decode cJ5_appendNull_278bc 27 = .ok (.aload_n 2, 1) := by decide +kernel
theorem dJ5_appendNull_278bc_28 : decode cJ5_appendNull_278bc 28 = .ok (.iload_n 1, 1) := by decide +kernel
theorem dJ5_appendNull_278bc_29 : decode cJ5_appendNull_278bc 29 = .ok (.iinc 1 1, 3) := by decide +kernel
theorem dJ5_appendNull_278bc_32 : decode cJ5_appendNull_278bc 32 = .ok (.bipush 110, 2) := by decide +kernel
theorem dJ5_appendNull_278bc_34 : decode cJ5_appendNull_278bc 34 = .ok (.bastore, 1) := by decide +kernel
theorem dJ5_appendNull_278bc_35 : decode cJ5_appendNull_278bc 35 = .ok (.aload_n 2, 1) := by decide +kernel
theorem dJ5_appendNull_278bc_36 : decode cJ5_appendNull_278bc 36 = .ok (.iload_n 1, 1) := by decide +kernel
theorem dJ5_appendNull_278bc_37 : decode cJ5_appendNull_278bc 37 = .ok (.iinc 1 1, 3) := by decide +kernel
theorem dJ5_appendNull_278bc_40 : decode cJ5_appendNull_278bc 40 = .ok (.bipush 117, 2) := by decide +kernel
theorem dJ5_appendNull_278bc_42 : decode cJ5_appendNull_278bc 42 = .ok (.bastore, 1) := by decide +kernel
theorem dJ5_appendNull_278bc_43 : decode cJ5_appendNull_278bc 43 = .ok (.aload_n 2, 1) := by decide +kernel
theorem dJ5_appendNull_278bc_44 : decode cJ5_appendNull_278bc 44 = .ok (.iload_n 1, 1) := by decide +kernel
theorem dJ5_appendNull_278bc_45 : decode cJ5_appendNull_278bc 45 = .ok (.iinc 1 1, 3) := by decide +kernel
theorem dJ5_appendNull_278bc_48 : decode cJ5_appendNull_278bc 48 = .ok (.bipush 108, 2) := by decide +kernel
theorem dJ5_appendNull_278bc_50 : decode cJ5_appendNull_278bc 50 = .ok (.bastore, 1) := by decide +kernel
theorem dJ5_appendNull_278bc_51 : decode cJ5_appendNull_278bc 51 = .ok (.aload_n 2, 1) := by decide +kernel
theorem dJ5_appendNull_278bc_52 : decode cJ5_appendNull_278bc 52 = .ok (.iload_n 1, 1) := by decide +kernel
theorem dJ5_appendNull_278bc_53 : decode cJ5_appendNull_278bc 53 = .ok (.iinc 1 1, 3) := by decide +kernel
theorem dJ5_appendNull_278bc_56 : decode cJ5_appendNull_278bc 56 = .ok (.bipush 108, 2) := by decide +kernel
theorem dJ5_appendNull_278bc_58 : decode cJ5_appendNull_278bc 58 = .ok (.bastore, 1) := by decide +kernel
theorem dJ5_appendNull_278bc_59 : decode cJ5_appendNull_278bc 59 = .ok (.goto 17, 3) := by decide +kernel
theorem dJ5_appendNull_278bc_62 : decode cJ5_appendNull_278bc 62 = .ok (.aload_n 2, 1) := by decide +kernel
theorem dJ5_appendNull_278bc_63 : decode cJ5_appendNull_278bc 63 = .ok (.iload_n 1, 1) := by decide +kernel
theorem dJ5_appendNull_278bc_64 : decode cJ5_appendNull_278bc 64 = .ok (.bipush 110, 2) := by decide +kernel
theorem dJ5_appendNull_278bc_66 : decode cJ5_appendNull_278bc 66 = .ok (.bipush 117, 2) := by decide +kernel
theorem dJ5_appendNull_278bc_68 : decode cJ5_appendNull_278bc 68 = .ok (.bipush 108, 2) := by decide +kernel
theorem dJ5_appendNull_278bc_70 : decode cJ5_appendNull_278bc 70 = .ok (.bipush 108, 2) := by decide +kernel
theorem dJ5_appendNull_278bc_72 : decode cJ5_appendNull_278bc 72 = .ok (.invokestatic 226, 3) := by decide +kernel
theorem dJ5_appendNull_278bc_75 : decode cJ5_appendNull_278bc 75 = .ok (.istore_n 1, 1) := by decide +kernel
theorem dJ5_appendNull_278bc_76 : decode cJ5_appendNull_278bc 76 = .ok (.aload_n 0, 1) := by decide +kernel
theorem dJ5_appendNull_278bc_77 : decode cJ5_appendNull_278bc 77 = .ok (.iload_n 1, 1) := by decide +kernel
theorem dJ5_appendNull_278bc_78 : decode cJ5_appendNull_278bc 78 = .ok (.putfield 79, 3) := by decide +kernel
theorem dJ5_appendNull_278bc_81 : decode cJ5_appendNull_278bc 81 = .ok (.aload_n 0, 1) := by decide +kernel
theorem dJ5_appendNull_278bc_82 : decode cJ5_appendNull_278bc 82 = .ok (.areturn, 1) := by decide +kernel
theorem dJ5_append_3fe6f_0 : decode cJ5_append_3fe6f 0 = .ok (.aload_n 0, 1) := by decide +kernel
theorem dJ5_append_3fe6f_1 : decode cJ5_append_3fe6f 1 = .ok (.aload_n 0, 1) := by decide +kernel
theorem dJ5_append_3fe6f_2 : decode cJ5_append_3fe6f 2 = .ok (.getfield 79, 3) := by decide +kernel
theorem dJ5_append_3fe6f_5 : decode cJ5_append_3fe6f 5 = .ok (.iconst 1, 1) := by decide +kernel
theorem dJ5_append_3fe6f_6 : decode cJ5_append_3fe6f 6 = .ok (.iadd, 1) := by decide +kernel
theorem dJ5_append_3fe6f_7 : decode cJ5_append_3fe6f 7 = .ok (.invokevirtual 100, 3) := by decide +kernel
theorem dJ5_append_3fe6f_10 : decode cJ5_append_3fe6f 10 = .ok (.aload_n 0, 1) := by decide +kernel
theorem dJ5_append_3fe6f_11 : decode cJ5_append_3fe6f 11 = .ok (.invokevirtual 83, 3) := by decide +kernel
theorem dJ5_append_3fe6f_14 : decode cJ5_append_3fe6f 14 = .ok (.ifCond .eq 31, 3) := by decide +kernel
theorem dJ5_append_3fe6f_17 : decode cJ5_append_3fe6f 17 = .ok (.iload_n 1, 1) := by decide +kernel
theorem dJ5_append_3fe6f_18 : decode cJ5_append_3fe6f 18 = .ok (.invokestatic 191, 3) := by decide +kernel
theorem dJ5_append_3fe6f_21 : decode cJ5_append_3fe6f 21 = .ok (.ifCond .eq 24, 3) := by decide +kernel
theorem dJ5_append_3fe6f_24 : decode cJ5_append_3fe6f 24 = .ok (.aload_n 0, 1) := by decide +kernel
theorem dJ5_append_3fe6f_25 : decode cJ5_append_3fe6f 25 = .ok (.getfield 15, 3) := by decide +kernel
theorem dJ5_append_3fe6f_28 : decode cJ5_append_3fe6f 28 = .ok (.aload_n 0, 1) := by decide +kernel
theorem dJ5_append_3fe6f_29 : decode cJ5_append_3fe6f 29 = .ok (.dup, 1) := by decide +kernel
theorem dJ5_append_3fe6f_30 : decode cJ5_append_3fe6f 30 = .ok (.getfield 79, 3) := by decide +kernel
theorem dJ5_append_3fe6f_33 : decode cJ5_append_3fe6f 33 = .ok (.dup_x1, 1) := by decide +kernel
theorem dJ5_append_3fe6f_34 : decode cJ5_append_3fe6f 34 = .ok (.iconst 1, 1) := by decide +kernel
theorem dJ5_append_3fe6f_35 : decode cJ5_append_3fe6f 35 = .ok (.iadd, 1) := by decide +kernel
theorem dJ5_append_3fe6f_36 : decode cJ5_append_3fe6f 36 = .ok (.putfield 79, 3) := by decide +kernel
theorem dJ5_append_3fe6f_39 : decode cJ5_append_3fe6f 39 = .ok (.iload_n 1, 1) := by decide +kernel
theorem dJ5_append_3fe6f_40 : decode cJ5_append_3fe6f 40 = .ok (.i2b, 1) := by decide +kernel
theorem dJ5_append_3fe6f_41 : decode cJ5_append_3fe6f 41 = .ok (.bastore, 1) := by decide +kernel
theorem dJ5_append_3fe6f_42 : decode cJ5_append_3fe6f 42 = .ok (.goto 33, 3) := by decide +kernel
theorem dJ5_append_3fe6f_45 : decode cJ5_append_3fe6f 45 = .ok (.aload_n 0, 1) := by decide +kernel
theorem dJ5_append_3fe6f_46 : decode cJ5_append_3fe6f 46 = .ok (.invokevirtual 83, 3) := by decide +kernel
theorem dJ5_append_3fe6f_49 : decode cJ5_append_3fe6f 49 = .ok (.ifCond .eq 7, 3) := by decide +kernel
theorem dJ5_append_3fe6f_52 : decode cJ5_append_3fe6f 52 = .ok (.aload_n 0, 1) := by decide +kernel
theorem dJ5_append_3fe6f_53 : decode cJ5_append_3fe6f 53 = .ok (.invokevirtual 195, 3) := by decide +kernel
theorem dJ5_append_3fe6f_56 : decode cJ5_append_3fe6f 56 = .ok (.aload_n 0, 1) := by decide +kernel
theorem dJ5_append_3fe6f_57 : decode cJ5_append_3fe6f 57 = .ok (.getfield 15, 3) := by decide +kernel
theorem dJ5_append_3fe6f_60 : decode cJ5_append_3fe6f 60 = .ok (.aload_n 0, 1) := by decide +kernel
theorem dJ5_append_3fe6f_61 : decode cJ5_append_3fe6f 61 = .ok (.dup, 1) := by decide +kernel
theorem dJ5_append_3fe6f_62 : decode cJ5_append_3fe6f 62 = .ok (.getfield 79, 3) := by decide +kernel
theorem dJ5_append_3fe6f_65 : decode cJ5_append_3fe6f 65 = .ok (.dup_x1, 1) := by decide +kernel
theorem dJ5_append_3fe6f_66 : decode cJ5_append_3fe6f 66 = .ok (.iconst 1, 1) := by decide +kernel
theorem dJ5_append_3fe6f_67 : decode cJ5_append_3fe6f 67 = .ok (.iadd, 1) := by decide +kernel
theorem dJ5_append_3fe6f_68 : decode cJ5_append_3fe6f 68 = .ok (.putfield 79, 3) := by decide +kernel
theorem dJ5_append_3fe6f_71 : decode cJ5_append_3fe6f 71 = .ok (.iload_n 1, 1) := by decide +kernel
theorem dJ5_append_3fe6f_72 : decode cJ5_append_3fe6f 72 = .ok (.invokestatic 197, 3) := by decide +kernel
theorem dJ5_append_3fe6f_75 : decode cJ5_append_3fe6f 75 = .ok (.aload_n 0, 1) := by decide +kernel
theorem dJ5_append_3fe6f_76 : decode cJ5_append_3fe6f 76 = .ok (.areturn, 1) := by decide +kernel
theorem dJ5_append_c97b9_0 : decode cJ5_append_c97b9 0 = .ok (.aload_n 0, 1) := by decide +kernel
theorem dJ5_append_c97b9_1 : decode cJ5_append_c97b9 1 = .ok (.getfield 79, 3) := by decide +kernel
theorem dJ5_append_c97b9_4 : decode cJ5_append_c97b9 4 = .ok (.istore_n 2, 1) := by decide +kernel
theorem dJ5_append_c97b9_5 : decode cJ5_append_c97b9 5 = .ok (.iload_n 2, 1) := by decide +kernel
theorem dJ5_append_c97b9_6 : decode cJ5_append_c97b9 6 = .ok (.iload_n 1, 1) := by decide +kernel
theorem dJ5_append_c97b9_7 : decode cJ5_append_c97b9 7 = .ok (.invokestatic 245, 3) := by decide +kernel
theorem dJ5_append_c97b9_10 : decode cJ5_append_c97b9 10 = .ok (.iadd, 1) := by decide +kernel
theorem dJ5_append_c97b9_11 : decode cJ5_append_c97b9 11 = .ok (.istore_n 3, 1) := by decide +kernel
theorem dJ5_append_c97b9_12 : decode cJ5_append_c97b9 12 = .ok (.aload_n 0, 1) := by decide +kernel
theorem dJ5_append_c97b9_13 : decode cJ5_append_c97b9 13 = .ok (.iload_n 3, 1) := by decide +kernel
theorem dJ5_append_c97b9_14 : decode cJ5_append_c97b9 14 = .ok (.invokevirtual 100, 3) := by decide +kernel
theorem dJ5_append_c97b9_17 : decode cJ5_append_c97b9 17 = .ok (.aload_n 0, 1) := by decide +kernel
theorem dJ5_append_c97b9_18 : decode cJ5_append_c97b9 18 = .ok (.invokevirtual 83, 3) := by decide +kernel
theorem dJ5_append_c97b9_21 : decode cJ5_append_c97b9 21 = .ok (.ifCond .eq 16, 3) := by decide +kernel
theorem dJ5_append_c97b9_24 : decode cJ5_append_c97b9 24 = .ok (.iload_n 1, 1) := by decide +kernel
theorem dJ5_append_c97b9_25 : decode cJ5_append_c97b9 25 = .ok (.iload_n 3, 1) := by decide +kernel
theorem dJ5_append_c97b9_26 : decode cJ5_append_c97b9 26 = .ok (.aload_n 0, 1) := by decide +kernel
theorem dJ5_append_c97b9_27 : decode cJ5_append_c97b9 27 = .ok (.getfield 15, 3) := by decide +kernel
theorem dJ5_append_c97b9_30 : decode cJ5_append_c97b9 30 = .ok (.invokestatic 248, 3) := by decide +kernel
theorem dJ5_append_c97b9_33 : decode cJ5_append_c97b9 33 = .ok (.pop, 1) := by decide +kernel
theorem dJ5_append_c97b9_34 : decode cJ5_append_c97b9 34 = .ok (.goto 14, 3) := by decide +kernel
theorem dJ5_append_c97b9_37 : decode cJ5_append_c97b9 37 = .ok (.iload_n 1, 1) := by decide +kernel
theorem dJ5_append_c97b9_38 : decode cJ5_append_c97b9 38 = .ok (.iload_n 2, 1) := by decide +kernel
theorem dJ5_append_c97b9_39 : decode cJ5_append_c97b9 39 = .ok (.iload_n 3, 1) := by decide +kernel
theorem dJ5_append_c97b9_40 : decode cJ5_append_c97b9 40 = .ok (.aload_n 0, 1) := by decide +kernel
theorem dJ5_append_c97b9_41 : decode cJ5_append_c97b9 41 = .ok (.getfield 15, 3) := by decide +kernel
theorem dJ5_append_c97b9_44 : decode cJ5_append_c97b9 44 = .ok (.invokestatic 251, 3) := by decide +kernel
theorem dJ5_append_c97b9_47 : decode cJ5_append_c97b9 47 = .ok (.pop, 1) := by decide +kernel
theorem dJ5_append_c97b9_48 : decode cJ5_append_c97b9 48 = .ok (.aload_n 0, 1) := by decide +kernel
theorem dJ5_append_c97b9_49 : decode cJ5_append_c97b9 49 = .ok (.iload_n 3, 1) := by decide +kernel
theorem dJ5_append_c97b9_50 : decode cJ5_append_c97b9 50 = .ok (.putfield 79, 3) := by decide +kernel
theorem dJ5_append_c97b9_53 : decode cJ5_append_c97b9 53 = .ok (.aload_n 0, 1) := by decide +kernel
theorem dJ5_append_c97b9_54 : decode cJ5_append_c97b9 54 = .ok (.areturn, 1) := by decide +kernel
theorem dJ5_getValue_6d5f1_0 : decode cJ5_getValue_6d5f1 0 = .ok (.aload_n 0, 1) := by decide +kernel
theorem dJ5_getValue_6d5f1_1 : decode cJ5_getValue_6d5f1 1 = .ok (.getfield 15, 3) := by decide +kernel
theorem dJ5_getValue_6d5f1_4 : decode cJ5_getValue_6d5f1 4 = .ok (.areturn, 1) := by decide +kernel
theorem dJ5_isLatin1_aae02_0 : decode cJ5_isLatin1_aae02 0 = .ok (.getstatic 18, 3) := by decide +kernel
theorem dJ5_isLatin1_aae02_3 : decode cJ5_isLatin1_aae02 3 = .ok (.ifCond .eq 14, 3) := by decide +kernel
theorem dJ5_isLatin1_aae02_6 : decode cJ5_isLatin1_aae02 6 = .ok (.aload_n 0, 1) := by decide +kernel
theorem dJ5_isLatin1_aae02_7 : decode cJ5_isLatin1_aae02 7 = .ok (.getfield 22, 3) := by decide +kernel
theorem dJ5_isLatin1_aae02_10 : decode cJ5_isLatin1_aae02 10 = .ok (.ifCond .ne 7, 3) := by decide +kernel
theorem dJ5_isLatin1_aae02_13 : decode cJ5_isLatin1_aae02 13 = .ok (.iconst 1, 1) := by decide +kernel
theorem dJ5_isLatin1_aae02_14 : decode cJ5_isLatin1_aae02 14 = .ok (.goto 4, 3) := by decide +kernel
theorem dJ5_isLatin1_aae02_17 : decode cJ5_isLatin1_aae02 17 = .ok (.iconst 0, 1) := by decide +kernel
theorem dJ5_isLatin1_aae02_18 : decode cJ5_isLatin1_aae02 18 = .ok (.ireturn, 1) := by decide +kernel
theorem dJ5_inflateIfNeededFor_a7421_0 : decode cJ5_inflateIfNeededFor_a7421 0 = .ok (.getstatic 18, 3) := by decide +kernel
theorem dJ5_inflateIfNeededFor_a7421_3 : decode cJ5_inflateIfNeededFor_a7421 3 = .ok (.ifCond .eq 18, 3) := by decide +kernel
theorem dJ5_inflateIfNeededFor_a7421_6 : decode cJ5_inflateIfNeededFor_a7421 6 = .ok (.aload_n 0, 1) := by decide +kernel
theorem dJ5_inflateIfNeededFor_a7421_7 : decode cJ5_inflateIfNeededFor_a7421 7 = .ok (.getfield 22, 3) := by decide +kernel
theorem dJ5_inflateIfNeededFor_a7421_10 : decode cJ5_inflateIfNeededFor_a7421 10 = .ok (.aload_n 1, 1) := by decide +kernel
theorem dJ5_inflateIfNeededFor_a7421_11 : decode cJ5_inflateIfNeededFor_a7421 11 = .ok (.invokevirtual 40, 3) := by decide +kernel
theorem dJ5_inflateIfNeededFor_a7421_14 : decode cJ5_inflateIfNeededFor_a7421 14 = .ok (.if_icmp .eq 7, 3) := by decide +kernel
theorem dJ5_inflateIfNeededFor_a7421_17 : decode cJ5_inflateIfNeededFor_a7421 17 = .ok (.aload_n 0, 1) := by decide +kernel
theorem dJ5_inflateIfNeededFor_a7421_18 : decode cJ5_inflateIfNeededFor_a7421 18 = .ok (.invokevirtual 195, 3) := by decide +kernel
theorem dJ5_inflateIfNeededFor_a7421_21 : decode cJ5_inflateIfNeededFor_a7421 21 = .ok (.return_, 1) := by decide +kernel
theorem dJ5_putStringAt_47b60_0 : decode cJ5_putStringAt_47b60 0 = .ok (.aload_n 0, 1) := by decide +kernel
theorem dJ5_putStringAt_47b60_1 : decode cJ5_putStringAt_47b60 1 = .ok (.aload_n 2, 1) := by decide +kernel
theorem dJ5_putStringAt_47b60_2 : decode cJ5_putStringAt_47b60 2 = .ok (.invokevirtual 397, 3) := by decide +kernel
theorem dJ5_putStringAt_47b60_5 : decode cJ5_putStringAt_47b60 5 = .ok (.aload_n 2, 1) := by decide +kernel
theorem dJ5_putStringAt_47b60_6 : decode cJ5_putStringAt_47b60 6 = .ok (.aload_n 0, 1) := by decide +kernel
theorem dJ5_putStringAt_47b60_7 : decode cJ5_putStringAt_47b60 7 = .ok (.getfield 15, 3) := by decide +kernel
theorem dJ5_putStringAt_47b60_10 : decode cJ5_putStringAt_47b60 10 = .ok (.iload_n 1, 1) := by decide +kernel
theorem dJ5_putStringAt_47b60_11 : decode cJ5_putStringAt_47b60 11 = .ok (.aload_n 0, 1) := by decide +kernel
theorem dJ5_putStringAt_47b60_12 : decode cJ5_putStringAt_47b60 12 = .ok (.getfield 22, 3) := by decide +kernel
theorem dJ5_putStringAt_47b60_15 : decode cJ5_putStringAt_47b60 15 = .ok (.invokevirtual 399, 3) := by decide +kernel
theorem dJ5_putStringAt_47b60_18 : decode cJ5_putStringAt_47b60 18 = .ok (.return_, 1) := by decide +kernel
theorem dJx00060_init_a7421_0 : decode cJx00060_init_a7421 0 = .ok (.aload_n 0, 1) := by decide +kernel
theorem dJx00060_init_a7421_1 : decode cJx00060_init_a7421 1 = .ok (.aload_n 1, 1) := by decide +kernel
theorem dJx00060_init_a7421_2 : decode cJx00060_init_a7421 2 = .ok (.invokespecial 7, 3) := by decide +kernel
theorem dJx00060_init_a7421_5 : decode cJx00060_init_a7421 5 = .ok (.return_, 1) := by decide +kernel
theorem dJx00060_init_d00df_0 : decode cJx00060_init_d00df 0 = .ok (.aload_n 0, 1) := by decide +kernel
theorem dJx00060_init_d00df_1 : decode cJx00060_init_d00df 1 = .ok (.new 10, 3) := by decide +kernel
theorem dJx00060_init_d00df_4 : decode cJx00060_init_d00df 4 = .ok (.dup, 1) := by decide +kernel
theorem dJx00060_init_d00df_5 : decode cJx00060_init_d00df 5 = .ok (.invokespecial 12, 3) := by decide +kernel
theorem dJx00060_init_d00df_8 : decode cJx00060_init_d00df 8 = .ok (.ldc 13, 2) := by decide +kernel
theorem dJx00060_init_d00df_10 : decode cJx00060_init_d00df 10 = .ok (.invokevirtual 15, 3) := by decide +kernel
theorem dJx00060_init_d00df_13 : decode cJx00060_init_d00df 13 = .ok (.iload_n 1, 1) := by decide +kernel
theorem dJx00060_init_d00df_14 : decode cJx00060_init_d00df 14 = .ok (.invokevirtual 19, 3) := by decide +kernel
theorem dJx00060_init_d00df_17 : decode cJx00060_init_d00df 17 = .ok (.invokevirtual 22, 3) := by decide +kernel
theorem dJx00060_init_d00df_20 : decode cJx00060_init_d00df 20 = .ok (.invokespecial 7, 3) := by decide +kernel
theorem dJx00060_init_d00df_23 : decode cJx00060_init_d00df 23 = .ok (.return_, 1) := by decide +kernel
theorem dJ6_getChars_ba4f3_0 : decode cJ6_getChars_ba4f3 0 = .ok (.iload_n 1, 1) := by decide +kernel
theorem dJ6_getChars_ba4f3_1 : decode cJ6_getChars_ba4f3 1 = .ok (.istore 5, 2) := by decide +kernel
theorem dJ6_getChars_ba4f3_3 : decode cJ6_getChars_ba4f3 3 = .ok (.iload_n 0, 1) := by decide +kernel
theorem dJ6_getChars_ba4f3_4 : decode cJ6_getChars_ba4f3 4 = .ok (.ifCond .ge 7, 3) := by decide +kernel
theorem dJ6_getChars_ba4f3_7 : decode cJ6_getChars_ba4f3 7 = .ok (.iconst 1, 1) := by decide +kernel
theorem dJ6_getChars_ba4f3_8 : decode cJ6_getChars_ba4f3 8 = .ok (.goto 4, 3) := by decide +kernel
theorem dJ6_getChars_ba4f3_11 : decode cJ6_getChars_ba4f3 11 = .ok (.iconst 0, 1) := by decide +kernel
theorem dJ6_getChars_ba4f3_12 : decode cJ6_getChars_ba4f3 12 = .ok (.istore 6, 2) := by decide +kernel
theorem dJ6_getChars_ba4f3_14 : decode cJ6_getChars_ba4f3 14 = .ok (.iload 6, 2) := by decide +kernel
theorem dJ6_getChars_ba4f3_16 : decode cJ6_getChars_ba4f3 16 = .ok (.ifCond .ne 6, 3) := by decide +kernel
theorem dJ6_getChars_ba4f3_19 : decode cJ6_getChars_ba4f3 19 = .ok (.iload_n 0, 1) := by decide +kernel
theorem dJ6_getChars_ba4f3_20 : decode cJ6_getChars_ba4f3 20 = .ok (.ineg, 1) := by decide +kernel
theorem dJ6_getChars_ba4f3_21 : decode cJ6_getChars_ba4f3 21 = .ok (.istore_n 0, 1) := by decide +kernel
theorem dJ6_getChars_ba4f3_22 : decode cJ6_getChars_ba4f3 22 = .ok (.iload_n 0, 1) := by decide +kernel
theorem dJ6_getChars_ba4f3_23 : decode cJ6_getChars_ba4f3 23 = .ok (.bipush (-100), 2) := by decide +kernel
theorem dJ6_getChars_ba4f3_25 : decode cJ6_getChars_ba4f3 25 = .ok (.if_icmp .gt 47, 3) := by decide +kernel
theorem dJ6_getChars_ba4f3_28 : decode cJ6_getChars_ba4f3 28 = .ok (.iload_n 0, 1) := by decide +kernel
theorem dJ6_getChars_ba4f3_29 : decode cJ6_getChars_ba4f3 29 = .ok (.bipush 100, 2) := by decide +kernel
theorem dJ6_getChars_ba4f3_31 : decode cJ6_getChars_ba4f3 31 = .ok (.idiv, 1) := by decide +kernel
theorem dJ6_getChars_ba4f3_32 : decode cJ6_getChars_ba4f3 32 = .ok (.istore_n 3, 1) := by decide +kernel
theorem dJ6_getChars_ba4f3_33 : decode cJ6_getChars_ba4f3 33 = .ok (.iload_n 3, 1) := by decide +kernel
theorem dJ6_getChars_ba4f3_34 : decode cJ6_getChars_ba4f3 34 = .ok (.bipush 100, 2) := by decide +kernel
theorem dJ6_getChars_ba4f3_36 : decode cJ6_getChars_ba4f3 36 = .ok (.imul, 1) := by decide +kernel
theorem dJ6_getChars_ba4f3_37 : decode cJ6_getChars_ba4f3 37 = .ok (.iload_n 0, 1) := by decide +kernel
theorem dJ6_getChars_ba4f3_38 : decode cJ6_getChars_ba4f3 38 = .ok (.isub, 1) := by decide +kernel
theorem dJ6_getChars_ba4f3_39 : decode cJ6_getChars_ba4f3 39 = .ok (.istore 4, 2) := by decide +kernel
theorem dJ6_getChars_ba4f3_41 : decode cJ6_getChars_ba4f3 41 = .ok (.iload_n 3, 1) := by decide +kernel
theorem dJ6_getChars_ba4f3_42 : decode cJ6_getChars_ba4f3 42 = .ok (.istore_n 0, 1) := by decide +kernel
theorem dJ6_getChars_ba4f3_43 : decode cJ6_getChars_ba4f3 43 = .ok (.aload_n 2, 1) := by decide +kernel
theorem dJ6_getChars_ba4f3_44 : decode cJ6_getChars_ba4f3 44 = .ok (.iinc 5 (-1), 3) := by decide +kernel
theorem dJ6_getChars_ba4f3_47 : decode cJ6_getChars_ba4f3 47 = .ok (.iload 5, 2) := by decide +kernel
theorem dJ6_getChars_ba4f3_49 : decode cJ6_getChars_ba4f3 49 = .ok (.getstatic 83, 3) := by decide +kernel
theorem dJ6_getChars_ba4f3_52 : decode cJ6_getChars_ba4f3 52 = .ok (.iload 4, 2) := by decide +kernel
theorem dJ6_getChars_ba4f3_54 : decode cJ6_getChars_ba4f3 54 = .ok (.baload, 1) := by decide +kernel
theorem dJ6_getChars_ba4f3_55 : decode cJ6_getChars_ba4f3 55 = .ok (.bastore, 1) := by decide +kernel
theorem dJ6_getChars_ba4f3_56 : decode cJ6_getChars_ba4f3 56 = .ok (.aload_n 2, 1) := by decide +kernel
theorem dJ6_getChars_ba4f3_57 : decode cJ6_getChars_ba4f3 57 = .ok (.iinc 5 (-1), 3) := by decide +kernel
theorem dJ6_getChars_ba4f3_60 : decode cJ6_getChars_ba4f3 60 = .ok (.iload 5, 2) := by decide +kernel
theorem dJ6_getChars_ba4f3_62 : decode cJ6_getChars_ba4f3 62 = .ok (.getstatic 87, 3) := by decide +kernel
theorem dJ6_getChars_ba4f3_65 : decode cJ6_getChars_ba4f3 65 = .ok (.iload 4, 2) := by decide +kernel
theorem dJ6_getChars_ba4f3_67 : decode cJ6_getChars_ba4f3 67 = .ok (.baload, 1) := by decide +kernel
theorem dJ6_getChars_ba4f3_68 : decode cJ6_getChars_ba4f3 68 = .ok (.bastore, 1) := by decide +kernel
theorem dJ6_getChars_ba4f3_69 : decode cJ6_getChars_ba4f3 69 = .ok (.goto (-47), 3) := by decide +kernel
theorem dJ6_getChars_ba4f3_72 : decode cJ6_getChars_ba4f3 72 = .ok (.aload_n 2, 1) := by decide +kernel
theorem dJ6_getChars_ba4f3_73 : decode cJ6_getChars_ba4f3 73 = .ok (.iinc 5 (-1), 3) := by decide +kernel
theorem dJ6_getChars_ba4f3_76 : decode cJ6_getChars_ba4f3 76 = .ok (.iload 5, 2) := by decide +kernel
theorem dJ6_getChars_ba4f3_78 : decode cJ6_getChars_ba4f3 78 = .ok (.getstatic 83, 3) := by decide +kernel
theorem dJ6_getChars_ba4f3_81 : decode cJ6_getChars_ba4f3 81 = .ok (.iload_n 0, 1) := by decide +kernel
theorem dJ6_getChars_ba4f3_82 : decode cJ6_getChars_ba4f3 82 = .ok (.ineg, 1) := by decide +kernel
theorem dJ6_getChars_ba4f3_83 : decode cJ6_getChars_ba4f3 83 = .ok (.baload, 1) := by decide +kernel
theorem dJ6_getChars_ba4f3_84 : decode cJ6_getChars_ba4f3 84 = .ok (.bastore, 1) := by decide +kernel
theorem dJ6_getChars_ba4f3_85 : decode cJ6_getChars_ba4f3 85 = .ok (.iload_n 0, 1) := by decide +kernel
theorem dJ6_getChars_ba4f3_86 : decode cJ6_getChars_ba4f3 86 = .ok (.bipush (-9), 2) := by decide +kernel
theorem dJ6_getChars_ba4f3_88 : decode cJ6_getChars_ba4f3 88 = .ok (.if_icmp .ge 16, 3) := by decide +kernel
theorem dJ6_getChars_ba4f3_91 : decode cJ6_getChars_ba4f3 91 = .ok (.aload_n 2, 1) := by decide +kernel
theorem dJ6_getChars_ba4f3_92 : decode cJ6_getChars_ba4f3 92 = .ok (.iinc 5 (-1), 3) := by decide +kernel
theorem dJ6_getChars_ba4f3_95 : decode cJ6_getChars_ba4f3 95 = .ok (.iload 5, 2) := by decide +kernel
theorem dJ6_getChars_ba4f3_97 : decode cJ6_getChars_ba4f3 97 = .ok (.getstatic 87, 3) := by decide +kernel
theorem dJ6_getChars_ba4f3_100 : decode cJ6_getChars_ba4f3 100 = .ok (.iload_n 0, 1) := by decide +kernel
theorem dJ6_getChars_ba4f3_101 : decode cJ6_getChars_ba4f3 101 = .ok (.ineg, 1) := by decide +kernel
theorem dJ6_getChars_ba4f3_102 : decode cJ6_getChars_ba4f3 102 = .ok (.baload, 1) := by decide +kernel
theorem dJ6_getChars_ba4f3_103 : decode cJ6_getChars_ba4f3 103 = .ok (.bastore, 1) := by decide +kernel
theorem dJ6_getChars_ba4f3_104 : decode cJ6_getChars_ba4f3 104 = .ok (.iload 6, 2) := by decide +kernel
theorem dJ6_getChars_ba4f3_106 : decode cJ6_getChars_ba4f3 106 = .ok (.ifCond .eq 12, 3) := by decide +kernel
theorem dJ6_getChars_ba4f3_109 : decode cJ6_getChars_ba4f3 109 = .ok (.aload_n 2, 1) := by decide +kernel
theorem dJ6_getChars_ba4f3_110 : decode cJ6_getChars_ba4f3 110 = .ok (.iinc 5 (-1), 3) := by decide +kernel
theorem dJ6_getChars_ba4f3_113 : decode cJ6_getChars_ba4f3 113 = .ok (.iload 5, 2) := by decide +kernel
theorem dJ6_getChars_ba4f3_115 : decode cJ6_getChars_ba4f3 115 = .ok (.bipush 45, 2) := by decide +kernel
theorem dJ6_getChars_ba4f3_117 : decode cJ6_getChars_ba4f3 117 = .ok (.bastore, 1) := by decide +kernel
theorem dJ6_getChars_ba4f3_118 : decode cJ6_getChars_ba4f3 118 = .ok (.iload 5, 2) := by decide +kernel
theorem dJ6_getChars_ba4f3_120 : decode cJ6_getChars_ba4f3 120 = .ok (.ireturn, 1) := by decide +kernel
theorem dJ6_stringSize_0f7a4_0 : decode cJ6_stringSize_0f7a4 0 = .ok (.iconst 1, 1) := by decide +kernel
theorem dJ6_stringSize_0f7a4_1 : decode cJ6_stringSize_0f7a4 1 = .ok (.istore_n 1, 1) := by decide +kernel
theorem dJ6_stringSize_0f7a4_2 : decode cJ6_stringSize_0f7a4 2 = .ok (.iload_n 0, 1) := by decide +kernel
theorem dJ6_stringSize_0f7a4_3 : decode cJ6_stringSize_0f7a4 3 = .ok (.ifCond .lt 8, 3) := by decide +kernel
theorem dJ6_stringSize_0f7a4_6 : decode cJ6_stringSize_0f7a4 6 = .ok (.iconst 0, 1) := by decide +kernel
theorem dJ6_stringSize_0f7a4_7 : decode cJ6_stringSize_0f7a4 7 = .ok (.istore_n 1, 1) := by decide +kernel
theorem dJ6_stringSize_0f7a4_8 : decode cJ6_stringSize_0f7a4 8 = .ok (.iload_n 0, 1) := by decide +kernel
theorem dJ6_stringSize_0f7a4_9 : decode cJ6_stringSize_0f7a4 9 = .ok (.ineg, 1) := by decide +kernel
theorem dJ6_stringSize_0f7a4_10 : decode cJ6_stringSize_0f7a4 10 = .ok (.istore_n 0, 1) := by decide +kernel
theorem dJ6_stringSize_0f7a4_11 : decode cJ6_stringSize_0f7a4 11 = .ok (.bipush (-10), 2) := by decide +kernel
theorem dJ6_stringSize_0f7a4_13 : decode cJ6_stringSize_0f7a4 13 = .ok (.istore_n 2, 1) := by decide +kernel
theorem dJ6_stringSize_0f7a4_14 : decode cJ6_stringSize_0f7a4 14 = .ok (.iconst 1, 1) := by decide +kernel
theorem dJ6_stringSize_0f7a4_15 : decode cJ6_stringSize_0f7a4 15 = .ok (.istore_n 3, 1) := by decide +kernel
theorem dJ6_stringSize_0f7a4_16 : decode cJ6_stringSize_0f7a4 16 = .ok (.iload_n 3, 1) := by decide +kernel
theorem dJ6_stringSize_0f7a4_17 : decode cJ6_stringSize_0f7a4 17 = .ok (.bipush 10, 2) := by decide +kernel
theorem dJ6_stringSize_0f7a4_19 : decode cJ6_stringSize_0f7a4 19 = .ok (.if_icmp .ge 23, 3) := by decide +kernel
theorem dJ6_stringSize_0f7a4_22 : decode cJ6_stringSize_0f7a4 22 = .ok (.iload_n 0, 1) := by decide +kernel
theorem dJ6_stringSize_0f7a4_23 : decode cJ6_stringSize_0f7a4 23 = .ok (.iload_n 2, 1) := by decide +kernel
theorem dJ6_stringSize_0f7a4_24 : decode cJ6_stringSize_0f7a4 24 = .ok (.if_icmp .le 7, 3) := by decide +kernel
theorem dJ6_stringSize_0f7a4_27 : decode cJ6_stringSize_0f7a4 27 = .ok (.iload_n 3, 1) := by decide +kernel
theorem dJ6_stringSize_0f7a4_28 : decode cJ6_stringSize_0f7a4 28 = .ok (.iload_n 1, 1) := by decide +kernel
theorem dJ6_stringSize_0f7a4_29 : decode cJ6_stringSize_0f7a4 29 = .ok (.iadd, 1) := by decide +kernel
theorem dJ6_stringSize_0f7a4_30 : decode cJ6_stringSize_0f7a4 30 = .ok (.ireturn, 1) := by decide +kernel
theorem dJ6_stringSize_0f7a4_31 : decode cJ6_stringSize_0f7a4 31 = .ok (.bipush 10, 2) := by decide +kernel
theorem dJ6_stringSize_0f7a4_33 : decode cJ6_stringSize_0f7a4 33 = .ok (.iload_n 2, 1) := by decide +kernel
theorem dJ6_stringSize_0f7a4_34 : decode cJ6_stringSize_0f7a4 34 = .ok (.imul, 1) := by decide +kernel
theorem dJ6_stringSize_0f7a4_35 : decode cJ6_stringSize_0f7a4 35 = .ok (.istore_n 2, 1) := by decide +kernel
theorem dJ6_stringSize_0f7a4_36 : decode cJ6_stringSize_0f7a4 36 = .ok (.iinc 3 1, 3) := by decide +kernel
theorem dJ6_stringSize_0f7a4_39 : decode cJ6_stringSize_0f7a4 39 = .ok (.goto (-23), 3) := by decide +kernel
theorem dJ6_stringSize_0f7a4_42 : decode cJ6_stringSize_0f7a4 42 = .ok (.bipush 10, 2) := by decide +kernel
theorem dJ6_stringSize_0f7a4_44 : decode cJ6_stringSize_0f7a4 44 = .ok (.iload_n 1, 1) := by decide +kernel
theorem dJ6_stringSize_0f7a4_45 : decode cJ6_stringSize_0f7a4 45 = .ok (.iadd, 1) := by decide +kernel
theorem dJ6_stringSize_0f7a4_46 : decode cJ6_stringSize_0f7a4 46 = .ok (.ireturn, 1) := by decide +kernel
theorem dJ9_max_7cf53_0 : decode cJ9_max_7cf53 0 = .ok (.iload_n 0, 1) := by decide +kernel
theorem dJ9_max_7cf53_1 : decode cJ9_max_7cf53 1 = .ok (.iload_n 1, 1) := by decide +kernel
theorem dJ9_max_7cf53_2 : decode cJ9_max_7cf53 2 = .ok (.if_icmp .lt 7, 3) := by decide +kernel
theorem dJ9_max_7cf53_5 : decode cJ9_max_7cf53 5 = .ok (.iload_n 0, 1) := by decide +kernel
theorem dJ9_max_7cf53_6 : decode cJ9_max_7cf53 6 = .ok (.goto 4, 3) := by decide +kernel
theorem dJ9_max_7cf53_9 : decode cJ9_max_7cf53 9 = .ok (.iload_n 1, 1) := by decide +kernel
theorem dJ9_max_7cf53_10 : decode cJ9_max_7cf53 10 = .ok (.ireturn, 1) := by decide +kernel
theorem dJ9_min_7cf53_0 : decode cJ9_min_7cf53 0 = .ok (.iload_n 0, 1) := by decide +kernel
theorem dJ9_min_7cf53_1 : decode cJ9_min_7cf53 1 = .ok (.iload_n 1, 1) := by decide +kernel
theorem dJ9_min_7cf53_2 : decode cJ9_min_7cf53 2 = .ok (.if_icmp .gt 7, 3) := by decide +kernel
theorem dJ9_min_7cf53_5 : decode cJ9_min_7cf53 5 = .ok (.iload_n 0, 1) := by decide +kernel
theorem dJ9_min_7cf53_6 : decode cJ9_min_7cf53 6 = .ok (.goto 4, 3) := by decide +kernel
theorem dJ9_min_7cf53_9 : decode cJ9_min_7cf53 9 = .ok (.iload_n 1, 1) := by decide +kernel
theorem dJ9_min_7cf53_10 : decode cJ9_min_7cf53 10 = .ok (.ireturn, 1) := by decide +kernel
theorem dJ9_min_f86c9_0 : decode cJ9_min_f86c9 0 = .ok (.lload_n 0, 1) := by decide +kernel
theorem dJ9_min_f86c9_1 : decode cJ9_min_f86c9 1 = .ok (.lload_n 2, 1) := by decide +kernel
theorem dJ9_min_f86c9_2 : decode cJ9_min_f86c9 2 = .ok (.lcmp, 1) := by decide +kernel
theorem dJ9_min_f86c9_3 : decode cJ9_min_f86c9 3 = .ok (.ifCond .gt 7, 3) := by decide +kernel
theorem dJ9_min_f86c9_6 : decode cJ9_min_f86c9 6 = .ok (.lload_n 0, 1) := by decide +kernel
theorem dJ9_min_f86c9_7 : decode cJ9_min_f86c9 7 = .ok (.goto 4, 3) := by decide +kernel
theorem dJ9_min_f86c9_10 : decode cJ9_min_f86c9 10 = .ok (.lload_n 2, 1) := by decide +kernel
theorem dJ9_min_f86c9_11 : decode cJ9_min_f86c9 11 = .ok (.lreturn, 1) := by decide +kernel
theorem dJ0_init_81219_0 : decode cJ0_init_81219 0 = .ok (.aload_n 0, 1) := by decide +kernel
theorem dJ0_init_81219_1 : decode cJ0_init_81219 1 = .ok (.aload_n 1, 1) := by decide +kernel
theorem dJ0_init_81219_2 : decode cJ0_init_81219 2 = .ok (.aconst_null, 1) := by decide +kernel
theorem dJ0_init_81219_3 : decode cJ0_init_81219 3 = .ok (.invokespecial 489, 3) := by decide +kernel
theorem dJ0_init_81219_6 : decode cJ0_init_81219 6 = .ok (.return_, 1) := by decide +kernel
theorem dJ0_length_8abf5_0 : decode cJ0_length_8abf5 0 = .ok (.aload_n 0, 1) := by decide +kernel
theorem dJ0_length_8abf5_1 : decode cJ0_length_8abf5 1 = .ok (.getfield 9, 3) := by decide +kernel
theorem dJ0_length_8abf5_4 : decode cJ0_length_8abf5 4 = .ok (.arraylength, 1) := by decide +kernel
theorem dJ0_length_8abf5_5 : decode cJ0_length_8abf5 5 = .ok (.aload_n 0, 1) := by decide +kernel
theorem dJ0_length_8abf5_6 : decode cJ0_length_8abf5 6 = .ok (.invokevirtual 335, 3) := by decide +kernel
theorem dJ0_length_8abf5_9 : decode cJ0_length_8abf5 9 = .ok (.ishr, 1) := by decide +kernel
theorem dJ0_length_8abf5_10 : decode cJ0_length_8abf5 10 = .ok (.ireturn, 1) := by decide +kernel
theorem dJ0_charAt_5068e_0 : decode cJ0_charAt_5068e 0 = .ok (.aload_n 0, 1) := by decide +kernel
theorem dJ0_charAt_5068e_1 : decode cJ0_charAt_5068e 1 = .ok (.invokevirtual 492, 3) := by decide +kernel
theorem dJ0_charAt_5068e_4 : decode cJ0_charAt_5068e 4 = .ok (.ifCond .eq 12, 3) := by decide +kernel
theorem dJ0_charAt_5068e_7 : decode cJ0_charAt_5068e 7 = .ok (.aload_n 0, 1) := by decide +kernel
theorem dJ0_charAt_5068e_8 : decode cJ0_charAt_5068e 8 = .ok (.getfield 9, 3) := by decide +kernel
theorem dJ0_charAt_5068e_11 : decode cJ0_charAt_5068e 11 = .ok (.iload_n 1, 1) := by decide +kernel
theorem dJ0_charAt_5068e_12 : decode cJ0_charAt_5068e 12 = .ok (.invokestatic 495, 3) := by decide +kernel
theorem dJ0_charAt_5068e_15 : decode cJ0_charAt_5068e 15 = .ok (.ireturn, 1) := by decide +kernel
theorem dJ0_charAt_5068e_16 : decode cJ0_charAt_5068e 16 = .ok (.aload_n 0, 1) := by decide +kernel
theorem dJ0_charAt_5068e_17 : decode cJ0_charAt_5068e 17 = .ok (.getfield 9, 3) := by decide +kernel
theorem dJ0_charAt_5068e_20 : decode cJ0_charAt_5068e 20 = .ok (.iload_n 1, 1) := by decide +kernel
theorem dJ0_charAt_5068e_21 : decode cJ0_charAt_5068e 21 = .ok (.invokestatic 498, 3) := by decide +kernel
theorem dJ0_charAt_5068e_24 : decode cJ0_charAt_5068e 24 = .ok (.ireturn, 1) := by decide +kernel
theorem dJ0_getBytes_840e7_0 : decode cJ0_getBytes_840e7 0 = .ok (.aload_n 0, 1) := by decide +kernel
theorem dJ0_getBytes_840e7_1 : decode cJ0_getBytes_840e7 1 = .ok (.invokevirtual 335, 3) := by decide +kernel
theorem dJ0_getBytes_840e7_4 : decode cJ0_getBytes_840e7 4 = .ok (.iload_n 3, 1) := by decide +kernel
theorem dJ0_getBytes_840e7_5 : decode cJ0_getBytes_840e7 5 = .ok (.if_icmp .ne 23, 3) := by decide +kernel
theorem dJ0_getBytes_840e7_8 : decode cJ0_getBytes_840e7 8 = .ok (.aload_n 0, 1) := by decide +kernel
theorem dJ0_getBytes_840e7_9 : decode cJ0_getBytes_840e7 9 = .ok (.getfield 9, 3) := by decide +kernel
theorem dJ0_getBytes_840e7_12 : decode cJ0_getBytes_840e7 12 = .ok (.iconst 0, 1) := by decide +kernel
theorem dJ0_getBytes_840e7_13 : decode cJ0_getBytes_840e7 13 = .ok (.aload_n 1, 1) := by decide +kernel
theorem dJ0_getBytes_840e7_14 : decode cJ0_getBytes_840e7 14 = .ok (.iload_n 2, 1) := by decide +kernel
theorem dJ0_getBytes_840e7_15 : decode cJ0_getBytes_840e7 15 = .ok (.iload_n 3, 1) := by decide +kernel
theorem dJ0_getBytes_840e7_16 : decode cJ0_getBytes_840e7 16 = .ok (.ishl, 1) := by decide +kernel
theorem dJ0_getBytes_840e7_17 : decode cJ0_getBytes_840e7 17 = .ok (.aload_n 0, 1) := by decide +kernel
theorem dJ0_getBytes_840e7_18 : decode cJ0_getBytes_840e7 18 = .ok (.getfield 9, 3) := by decide +kernel
theorem dJ0_getBytes_840e7_21 : decode cJ0_getBytes_840e7 21 = .ok (.arraylength, 1) := by decide +kernel
theorem dJ0_getBytes_840e7_22 : decode cJ0_getBytes_840e7 22 = .ok (.invokestatic 212, 3) := by decide +kernel
theorem dJ0_getBytes_840e7_25 : decode cJ0_getBytes_840e7 25 = .ok (.goto 18, 3) := by decide +kernel
theorem dJ0_getBytes_840e7_28 : decode cJ0_getBytes_840e7 28 = .ok (.aload_n 0, 1) := by decide +kernel
theorem dJ0_getBytes_840e7_29 : decode cJ0_getBytes_840e7 29 = .ok (.getfield 9, 3) := by decide +kernel
theorem dJ0_getBytes_840e7_32 : decode cJ0_getBytes_840e7 32 = .ok (.iconst 0, 1) := by decide +kernel
theorem dJ0_getBytes_840e7_33 : decode cJ0_getBytes_840e7 33 = .ok (.aload_n 1, 1) := by decide +kernel
theorem dJ0_getBytes_840e7_34 : decode cJ0_getBytes_840e7 34 = .ok (.iload_n 2, 1) := by decide +kernel
theorem dJ0_getBytes_840e7_35 : decode cJ0_getBytes_840e7 35 = .ok (.aload_n 0, 1) := by decide +kernel
theorem dJ0_getBytes_840e7_36 : decode cJ0_getBytes_840e7 36 = .ok (.getfield 9, 3) := by decide +kernel
theorem dJ0_getBytes_840e7_39 : decode cJ0_getBytes_840e7 39 = .ok (.arraylength, 1) := by decide +kernel
theorem dJ0_getBytes_840e7_40 : decode cJ0_getBytes_840e7 40 = .ok (.invokestatic 106, 3) := by decide +kernel
theorem dJ0_getBytes_840e7_43 : decode cJ0_getBytes_840e7 43 = .ok (.return_, 1) := by decide +kernel
theorem dJ0_init_db425_0 : decode cJ0_init_db425 0 = .ok (.aload_n 0, 1) := by decide +kernel
theorem dJ0_init_db425_1 : decode cJ0_init_db425 1 = .ok (.invokespecial 1, 3) := by decide +kernel
theorem dJ0_init_db425_4 : decode cJ0_init_db425 4 = .ok (.aload_n 1, 1) := by decide +kernel
theorem dJ0_init_db425_5 : decode cJ0_init_db425 5 = .ok (.invokevirtual 552, 3) := by decide +kernel
theorem dJ0_init_db425_8 : decode cJ0_init_db425 8 = .ok (.astore_n 3, 1) := by decide +kernel
theorem dJ0_init_db425_9 : decode cJ0_init_db425 9 = .ok (.aload_n 1, 1) := by decide +kernel
theorem dJ0_init_db425_10 : decode cJ0_init_db425 10 = .ok (.invokevirtual 549, 3) := by decide +kernel
theorem dJ0_init_db425_13 : decode cJ0_init_db425 13 = .ok (.istore 4, 2) := by decide +kernel
theorem dJ0_init_db425_15 : decode cJ0_init_db425 15 = .ok (.aload_n 1, 1) := by decide +kernel
theorem dJ0_init_db425_16 : decode cJ0_init_db425 16 = .ok (.invokevirtual 1047, 3) := by decide +kernel
theorem dJ0_init_db425_19 : decode cJ0_init_db425 19 = .ok (.ifCond .eq 22, 3) := by decide +kernel
theorem dJ0_init_db425_22 : decode cJ0_init_db425 22 = .ok (.aload_n 0, 1) := by decide +kernel
theorem dJ0_init_db425_23 : decode cJ0_init_db425 23 = .ok (.iconst 0, 1) := by decide +kernel
theorem dJ0_init_db425_24 : decode cJ0_init_db425 24 = .ok (.putfield 15, 3) := by decide +kernel
theorem dJ0_init_db425_27 : decode cJ0_init_db425 27 = .ok (.aload_n 0, 1) := by decide +kernel
theorem dJ0_init_db425_28 : decode cJ0_init_db425 28 = .ok (.aload_n 3, 1) := by decide +kernel
theorem dJ0_init_db425_29 : decode cJ0_init_db425 29 = .ok (.iconst 0, 1) := by decide +kernel
theorem dJ0_init_db425_30 : decode cJ0_init_db425 30 = .ok (.iload 4, 2) := by decide +kernel
theorem dJ0_init_db425_32 : decode cJ0_init_db425 32 = .ok (.invokestatic 54, 3) := by decide +kernel
theorem dJ0_init_db425_35 : decode cJ0_init_db425 35 = .ok (.putfield 9, 3) := by decide +kernel
theorem dJ0_init_db425_38 : decode cJ0_init_db425 38 = .ok (.goto 59, 3) := by decide +kernel
theorem dJ0_init_db425_41 : decode cJ0_init_db425 41 = .ok (.getstatic 38, 3) := by decide +kernel
theorem dJ0_init_db425_44 : decode cJ0_init_db425 44 = .ok (.ifCond .eq 35, 3) := by decide +kernel
theorem dJ0_init_db425_47 : decode cJ0_init_db425 47 = .ok (.aload_n 1, 1) := by decide +kernel
theorem dJ0_init_db425_48 : decode cJ0_init_db425 48 = .ok (.getfield 1048, 3) := by decide +kernel
theorem dJ0_init_db425_51 : decode cJ0_init_db425 51 = .ok (.ifCond .eq 28, 3) := by decide +kernel
theorem dJ0_init_db425_54 : decode cJ0_init_db425 54 = .ok (.aload_n 0, 1) := by decide +kernel
theorem dJ0_init_db425_55 : decode cJ0_init_db425 55 = .ok (.aload_n 3, 1) := by decide +kernel
theorem dJ0_init_db425_56 : decode cJ0_init_db425 56 = .ok (.iconst 0, 1) := by decide +kernel
theorem dJ0_init_db425_57 : decode cJ0_init_db425 57 = .ok (.iload 4, 2) := by decide +kernel
theorem dJ0_init_db425_59 : decode cJ0_init_db425 59 = .ok (.invokestatic 1051, 3) := by decide +kernel
theorem dJ0_init_db425_62 : decode cJ0_init_db425 62 = .ok (.putfield 9, 3) := by decide +kernel
theorem dJ0_init_db425_65 : decode cJ0_init_db425 65 = .ok (.aload_n 0, 1) := by decide +kernel
theorem dJ0_init_db425_66 : decode cJ0_init_db425 66 = .ok (.aload_n 0, 1) := by decide +kernel
theorem dJ0_init_db425_67 : decode cJ0_init_db425 67 = .ok (.getfield 9, 3) := by decide +kernel
theorem dJ0_init_db425_70 : decode cJ0_init_db425 70 = .ok (.iload 4, 2) := by decide +kernel
theorem dJ0_init_db425_72 : decode cJ0_init_db425 72 = .ok (.invokestatic 47, 3) := by decide +kernel
theorem dJ0_init_db425_75 : decode cJ0_init_db425 75 = .ok (.putfield 15, 3) := by decide +kernel
theorem dJ0_init_db425_78 : decode cJ0_init_db425 78 = .ok (.return_, 1) := by decide +kernel
theorem dJ0_init_db425_79 : decode cJ0_init_db425 79 = .ok (.aload_n 0, 1) := by decide +kernel
theorem dJ0_init_db425_80 : decode cJ0_init_db425 80 = .ok (.iconst 1, 1) := by decide +kernel
theorem dJ0_init_db425_81 : decode cJ0_init_db425 81 = .ok (.putfield 15, 3) := by decide +kernel
theorem dJ0_init_db425_84 : decode cJ0_init_db425 84 = .ok (.aload_n 0, 1) := by decide +kernel
theorem dJ0_init_db425_85 : decode cJ0_init_db425 85 = .ok (.aload_n 3, 1) := by decide +kernel
theorem dJ0_init_db425_86 : decode cJ0_init_db425 86 = .ok (.iconst 0, 1) := by decide +kernel
theorem dJ0_init_db425_87 : decode cJ0_init_db425 87 = .ok (.iload 4, 2) := by decide +kernel
theorem dJ0_init_db425_89 : decode cJ0_init_db425 89 = .ok (.iconst 1, 1) := by decide +kernel
theorem dJ0_init_db425_90 : decode cJ0_init_db425 90 = .ok (.ishl, 1) := by decide +kernel
theorem dJ0_init_db425_91 : decode cJ0_init_db425 91 = .ok (.invokestatic 54, 3) := by decide +kernel
theorem dJ0_init_db425_94 : decode cJ0_init_db425 94 = .ok (.putfield 9, 3) := by decide +kernel
theorem dJ0_init_db425_97 : decode cJ0_init_db425 97 = .ok (.return_, 1) := by decide +kernel
theorem dJ0_coder_7d493_0 : decode cJ0_coder_7d493 0 = .ok (.getstatic 38, 3) := by decide +kernel
theorem dJ0_coder_7d493_3 : decode cJ0_coder_7d493 3 = .ok (.ifCond .eq 10, 3) := by decide +kernel
theorem dJ0_coder_7d493_6 : decode cJ0_coder_7d493 6 = .ok (.aload_n 0, 1) := by decide +kernel
theorem dJ0_coder_7d493_7 : decode cJ0_coder_7d493 7 = .ok (.getfield 15, 3) := by decide +kernel
theorem dJ0_coder_7d493_10 : decode cJ0_coder_7d493 10 = .ok (.goto 4, 3) := by decide +kernel
theorem dJ0_coder_7d493_13 : decode cJ0_coder_7d493 13 = .ok (.iconst 1, 1) := by decide +kernel
theorem dJ0_coder_7d493_14 : decode cJ0_coder_7d493 14 = .ok (.ireturn, 1) := by decide +kernel
theorem dJ0_isLatin1_aae02_0 : decode cJ0_isLatin1_aae02 0 = .ok (.getstatic 38, 3) := by decide +kernel
theorem dJ0_isLatin1_aae02_3 : decode cJ0_isLatin1_aae02 3 = .ok (.ifCond .eq 14, 3) := by decide +kernel
theorem dJ0_isLatin1_aae02_6 : decode cJ0_isLatin1_aae02 6 = .ok (.aload_n 0, 1) := by decide +kernel
theorem dJ0_isLatin1_aae02_7 : decode cJ0_isLatin1_aae02 7 = .ok (.getfield 15, 3) := by decide +kernel
theorem dJ0_isLatin1_aae02_10 : decode cJ0_isLatin1_aae02 10 = .ok (.ifCond .ne 7, 3) := by decide +kernel
theorem dJ0_isLatin1_aae02_13 : decode cJ0_isLatin1_aae02 13 = .ok (.iconst 1, 1) := by decide +kernel
theorem dJ0_isLatin1_aae02_14 : decode cJ0_isLatin1_aae02 14 = .ok (.goto 4, 3) := by decide +kernel
theorem dJ0_isLatin1_aae02_17 : decode cJ0_isLatin1_aae02 17 = .ok (.iconst 0, 1) := by decide +kernel
theorem dJ0_isLatin1_aae02_18 : decode cJ0_isLatin1_aae02 18 = .ok (.ireturn, 1) := by decide +kernel
theorem dJ0_checkIndex_df160_0 : decode cJ0_checkIndex_df160 0 = .ok (.iload_n 0, 1) := by decide +kernel
theorem dJ0_checkIndex_df160_1 : decode cJ0_checkIndex_df160 1 = .ok (.iload_n 1, 1) := by decide +kernel
theorem dJ0_checkIndex_df160_2 : decode cJ0_checkIndex_df160 2 = .ok (.getstatic 1053, 3) := by decide +kernel
theorem dJ0_checkIndex_df160_5 : decode cJ0_checkIndex_df160 5 = .ok (.invokestatic 1059, 3) := by decide +kernel
theorem dJ0_checkIndex_df160_8 : decode cJ0_checkIndex_df160 8 = .ok (.pop, 1) := by decide +kernel
theorem dJ0_checkIndex_df160_9 : decode cJ0_checkIndex_df160 9 = .ok (.return_, 1) := by decide +kernel
theorem dJ0_checkBoundsOffCount_cabcc_0 : decode cJ0_checkBoundsOffCount_cabcc 0 = .ok (.iload_n 0, 1) := by decide +kernel
theorem dJ0_checkBoundsOffCount_cabcc_1 : decode cJ0_checkBoundsOffCount_cabcc 1 = .ok (.iload_n 1, 1) := by decide +kernel
theorem dJ0_checkBoundsOffCount_cabcc_2 : decode cJ0_checkBoundsOffCount_cabcc 2 = .ok (.iload_n 2, 1) := by decide +kernel
theorem dJ0_checkBoundsOffCount_cabcc_3 : decode cJ0_checkBoundsOffCount_cabcc 3 = .ok (.getstatic 1053, 3) := by decide +kernel
theorem dJ0_checkBoundsOffCount_cabcc_6 : decode cJ0_checkBoundsOffCount_cabcc 6 = .ok (.invokestatic 1065, 3) := by decide +kernel
theorem dJ0_checkBoundsOffCount_cabcc_9 : decode cJ0_checkBoundsOffCount_cabcc 9 = .ok (.ireturn, 1) := by decide +kernel
theorem dJ0_checkBoundsBeginEnd_23922_0 : decode cJ0_checkBoundsBeginEnd_23922 0 = .ok (.iload_n 0, 1) := by decide +kernel
theorem dJ0_checkBoundsBeginEnd_23922_1 : decode cJ0_checkBoundsBeginEnd_23922 1 = .ok (.iload_n 1, 1) := by decide +kernel
theorem dJ0_checkBoundsBeginEnd_23922_2 : decode cJ0_checkBoundsBeginEnd_23922 2 = .ok (.iload_n 2, 1) := by decide +kernel
theorem dJ0_checkBoundsBeginEnd_23922_3 : decode cJ0_checkBoundsBeginEnd_23922 3 = .ok (.getstatic 1053, 3) := by decide +kernel
theorem dJ0_checkBoundsBeginEnd_23922_6 : decode cJ0_checkBoundsBeginEnd_23922 6 = .ok (.invokestatic 1062, 3) := by decide +kernel
theorem dJ0_checkBoundsBeginEnd_23922_9 : decode cJ0_checkBoundsBeginEnd_23922 9 = .ok (.pop, 1) := by decide +kernel
theorem dJ0_checkBoundsBeginEnd_23922_10 : decode cJ0_checkBoundsBeginEnd_23922 10 = .ok (.return_, 1) := by decide +kernel
theorem dJ4_init_da8c8_0 : decode cJ4_init_da8c8 0 = .ok (.aload_n 0, 1) := by decide +kernel
theorem dJ4_init_da8c8_1 : decode cJ4_init_da8c8 1 = .ok (.bipush 16, 2) := by decide +kernel
theorem dJ4_init_da8c8_3 : decode cJ4_init_da8c8 3 = .ok (.invokespecial 1, 3) := by decide +kernel
theorem dJ4_init_da8c8_6 : decode cJ4_init_da8c8 6 = .ok (.return_, 1) := by decide +kernel
theorem dJ4_append_15ec4_0 : decode cJ4_append_15ec4 0 = .ok (.aload_n 0, 1) := by decide +kernel
theorem dJ4_append_15ec4_1 : decode cJ4_append_15ec4 1 = .ok (.aload_n 1, 1) := by decide +kernel
theorem dJ4_append_15ec4_2 : decode cJ4_append_15ec4 2 = .ok (.invokespecial 29, 3) := by decide +kernel
theorem dJ4_append_15ec4_5 : decode cJ4_append_15ec4 5 = .ok (.pop, 1) := by decide +kernel
theorem dJ4_append_15ec4_6 : decode cJ4_append_15ec4 6 = .ok (.aload_n 0, 1) := by decide +kernel
theorem dJ4_append_15ec4_7 : decode cJ4_append_15ec4 7 = .ok (.areturn, 1) := by decide +kernel
theorem dJ4_append_cf468_0 : decode cJ4_append_cf468 0 = .ok (.aload_n 0, 1) := by decide +kernel
theorem dJ4_append_cf468_1 : decode cJ4_append_cf468 1 = .ok (.iload_n 1, 1) := by decide +kernel
theorem dJ4_append_cf468_2 : decode cJ4_append_cf468 2 = .ok (.invokespecial 50, 3) := by decide +kernel
theorem dJ4_append_cf468_5 : decode cJ4_append_cf468 5 = .ok (.pop, 1) := by decide +kernel
theorem dJ4_append_cf468_6 : decode cJ4_append_cf468 6 = .ok (.aload_n 0, 1) := by decide +kernel
theorem dJ4_append_cf468_7 : decode cJ4_append_cf468 7 = .ok (.areturn, 1) := by decide +kernel
theorem dJ4_append_bf812_0 : decode cJ4_append_bf812 0 = .ok (.aload_n 0, 1) := by decide +kernel
theorem dJ4_append_bf812_1 : decode cJ4_append_bf812 1 = .ok (.iload_n 1, 1) := by decide +kernel
theorem dJ4_append_bf812_2 : decode cJ4_append_bf812 2 = .ok (.invokespecial 53, 3) := by decide +kernel
theorem dJ4_append_bf812_5 : decode cJ4_append_bf812 5 = .ok (.pop, 1) := by decide +kernel
theorem dJ4_append_bf812_6 : decode cJ4_append_bf812 6 = .ok (.aload_n 0, 1) := by decide +kernel
theorem dJ4_append_bf812_7 : decode cJ4_append_bf812 7 = .ok (.areturn, 1) := by decide +kernel
theorem dJ4_toString_0e30d_0 : decode cJ4_toString_0e30d 0 = .ok (.new 18, 3) := by decide +kernel
theorem dJ4_toString_0e30d_3 : decode cJ4_toString_0e30d 3 = .ok (.dup, 1) := by decide +kernel
theorem dJ4_toString_0e30d_4 : decode cJ4_toString_0e30d 4 = .ok (.aload_n 0, 1) := by decide +kernel
theorem dJ4_toString_0e30d_5 : decode cJ4_toString_0e30d 5 = .ok (.invokespecial 137, 3) := by decide +kernel
theorem dJ4_toString_0e30d_8 : decode cJ4_toString_0e30d 8 = .ok (.areturn, 1) := by decide +kernel
theorem dJ4_charAt_5068e_0 : decode cJ4_charAt_5068e 0 = .ok (.aload_n 0, 1) := by decide +kernel
theorem dJ4_charAt_5068e_1 : decode cJ4_charAt_5068e 1 = .ok (.iload_n 1, 1) := by decide +kernel
theorem dJ4_charAt_5068e_2 : decode cJ4_charAt_5068e 2 = .ok (.invokespecial 329, 3) := by decide +kernel
theorem dJ4_charAt_5068e_5 : decode cJ4_charAt_5068e 5 = .ok (.ireturn, 1) := by decide +kernel
theorem dJ4_setLength_d00df_0 : decode cJ4_setLength_d00df 0 = .ok (.aload_n 0, 1) := by decide +kernel
theorem dJ4_setLength_d00df_1 : decode cJ4_setLength_d00df 1 = .ok (.iload_n 1, 1) := by decide +kernel
theorem dJ4_setLength_d00df_2 : decode cJ4_setLength_d00df 2 = .ok (.invokespecial 333, 3) := by decide +kernel
theorem dJ4_setLength_d00df_5 : decode cJ4_setLength_d00df 5 = .ok (.return_, 1) := by decide +kernel
theorem dJ4_length_8abf5_0 : decode cJ4_length_8abf5 0 = .ok (.aload_n 0, 1) := by decide +kernel
theorem dJ4_length_8abf5_1 : decode cJ4_length_8abf5 1 = .ok (.invokespecial 343, 3) := by decide +kernel
theorem dJ4_length_8abf5_4 : decode cJ4_length_8abf5 4 = .ok (.ireturn, 1) := by decide +kernel
theorem dJx7c733_init_d00df_0 : decode cJx7c733_init_d00df 0 = .ok (.aload_n 0, 1) := by decide +kernel
theorem dJx7c733_init_d00df_1 : decode cJx7c733_init_d00df 1 = .ok (.new 10, 3) := by decide +kernel
theorem dJx7c733_init_d00df_4 : decode cJx7c733_init_d00df 4 = .ok (.dup, 1) := by decide +kernel
theorem dJx7c733_init_d00df_5 : decode cJx7c733_init_d00df 5 = .ok (.invokespecial 12, 3) := by decide +kernel
theorem dJx7c733_init_d00df_8 : decode cJx7c733_init_d00df 8 = .ok (.ldc 13, 2) := by decide +kernel
theorem dJx7c733_init_d00df_10 : decode cJx7c733_init_d00df 10 = .ok (.invokevirtual 15, 3) := by decide +kernel
theorem dJx7c733_init_d00df_13 : decode cJx7c733_init_d00df 13 = .ok (.iload_n 1, 1) := by decide +kernel
theorem dJx7c733_init_d00df_14 : decode cJx7c733_init_d00df 14 = .ok (.invokevirtual 19, 3) := by decide +kernel
theorem dJx7c733_init_d00df_17 : decode cJx7c733_init_d00df 17 = .ok (.invokevirtual 22, 3) := by decide +kernel
theorem dJx7c733_init_d00df_20 : decode cJx7c733_init_d00df 20 = .ok (.invokespecial 7, 3) := by decide +kernel
theorem dJx7c733_init_d00df_23 : decode cJx7c733_init_d00df 23 = .ok (.return_, 1) := by decide +kernel
theorem dJ1_charAt_3b067_0 : decode cJ1_charAt_3b067 0 = .ok (.iload_n 1, 1) := by decide +kernel
theorem dJ1_charAt_3b067_1 : decode cJ1_charAt_3b067 1 = .ok (.aload_n 0, 1) := by decide +kernel
theorem dJ1_charAt_3b067_2 : decode cJ1_charAt_3b067 2 = .ok (.arraylength, 1) := by decide +kernel
theorem dJ1_charAt_3b067_3 : decode cJ1_charAt_3b067 3 = .ok (.invokestatic 9, 3) := by decide +kernel
theorem dJ1_charAt_3b067_6 : decode cJ1_charAt_3b067 6 = .ok (.aload_n 0, 1) := by decide +kernel
theorem dJ1_charAt_3b067_7 : decode cJ1_charAt_3b067 7 = .ok (.iload_n 1, 1) := by decide +kernel
theorem dJ1_charAt_3b067_8 : decode cJ1_charAt_3b067 8 = .ok (.baload, 1) := by decide +kernel
theorem dJ1_charAt_3b067_9 : decode cJ1_charAt_3b067 9 = .ok (.sipush 255, 3) := by decide +kernel
theorem dJ1_charAt_3b067_12 : decode cJ1_charAt_3b067 12 = .ok (.iand, 1) := by decide +kernel
theorem dJ1_charAt_3b067_13 : decode cJ1_charAt_3b067 13 = .ok (.i2c, 1) := by decide +kernel
theorem dJ1_charAt_3b067_14 : decode cJ1_charAt_3b067 14 = .ok (.ireturn, 1) := by decide +kernel
theorem dJ1_canEncode_fc78d_0 : decode cJ1_canEncode_fc78d 0 = .ok (.iload_n 0, 1) := by decide +kernel
theorem dJ1_canEncode_fc78d_1 : decode cJ1_canEncode_fc78d 1 = .ok (.sipush 255, 3) := by decide +kernel
theorem dJ1_canEncode_fc78d_4 : decode cJ1_canEncode_fc78d 4 = .ok (.if_icmp .gt 7, 3) := by decide +kernel
theorem dJ1_canEncode_fc78d_7 : decode cJ1_canEncode_fc78d 7 = .ok (.iconst 1, 1) := by decide +kernel
theorem dJ1_canEncode_fc78d_8 : decode cJ1_canEncode_fc78d 8 = .ok (.goto 4, 3) := by decide +kernel
theorem dJ1_canEncode_fc78d_11 : decode cJ1_canEncode_fc78d 11 = .ok (.iconst 0, 1) := by decide +kernel
theorem dJ1_canEncode_fc78d_12 : decode cJ1_canEncode_fc78d 12 = .ok (.ireturn, 1) := by decide +kernel
theorem dJ1_fillNull_b72d1_0 : decode cJ1_fillNull_b72d1 0 = .ok (.aload_n 0, 1) := by decide +kernel
theorem dJ1_fillNull_b72d1_1 : decode cJ1_fillNull_b72d1 1 = .ok (.iload_n 1, 1) := by decide +kernel
theorem dJ1_fillNull_b72d1_2 : decode cJ1_fillNull_b72d1 2 = .ok (.iload_n 2, 1) := by decide +kernel
theorem dJ1_fillNull_b72d1_3 : decode cJ1_fillNull_b72d1 3 = .ok (.iconst 0, 1) := by decide +kernel
theorem dJ1_fillNull_b72d1_4 : decode cJ1_fillNull_b72d1 4 = .ok (.invokestatic 236, 3) := by decide +kernel
theorem dJ1_fillNull_b72d1_7 : decode cJ1_fillNull_b72d1 7 = .ok (.return_, 1) := by decide +kernel
theorem dJ1_inflate_0e8fd_0 : decode cJ1_inflate_0e8fd 0 = .ok (.aload_n 0, 1) := by decide +kernel
theorem dJ1_inflate_0e8fd_1 : decode cJ1_inflate_0e8fd 1 = .ok (.iload_n 1, 1) := by decide +kernel
theorem dJ1_inflate_0e8fd_2 : decode cJ1_inflate_0e8fd 2 = .ok (.aload_n 2, 1) := by decide +kernel
theorem dJ1_inflate_0e8fd_3 : decode cJ1_inflate_0e8fd 3 = .ok (.iload_n 3, 1) := by decide +kernel
theorem dJ1_inflate_0e8fd_4 : decode cJ1_inflate_0e8fd 4 = .ok (.iload 4, 2) := by decide +kernel
theorem dJ1_inflate_0e8fd_6 : decode cJ1_inflate_0e8fd 6 = .ok (.invokestatic 240, 3) := by decide +kernel
theorem dJ1_inflate_0e8fd_9 : decode cJ1_inflate_0e8fd 9 = .ok (.return_, 1) := by decide +kernel
theorem dJ2_newBytesFor_77867_0 : decode cJ2_newBytesFor_77867 0 = .ok (.iload_n 0, 1) := by decide +kernel
theorem dJ2_newBytesFor_77867_1 : decode cJ2_newBytesFor_77867 1 = .ok (.invokestatic 11, 3) := by decide +kernel
theorem dJ2_newBytesFor_77867_4 : decode cJ2_newBytesFor_77867 4 = .ok (.newarray .byte, 2) := by decide +kernel
theorem dJ2_newBytesFor_77867_6 : decode cJ2_newBytesFor_77867 6 = .ok (.areturn, 1) := by decide +kernel
theorem dJ2_newBytesLength_0f7a4_0 : decode cJ2_newBytesLength_0f7a4 0 = .ok (.iload_n 0, 1) := by decide +kernel
theorem dJ2_newBytesLength_0f7a4_1 : decode cJ2_newBytesLength_0f7a4 1 = .ok (.ifCond .ge 11, 3) := by decide +kernel
theorem dJ2_newBytesLength_0f7a4_4 : decode cJ2_newBytesLength_0f7a4 4 = .ok (.new 17, 3) := by decide +kernel
theorem dJ2_newBytesLength_0f7a4_7 : decode cJ2_newBytesLength_0f7a4 7 = .ok (.dup, 1) := by decide +kernel
theorem dJ2_newBytesLength_0f7a4_8 : decode cJ2_newBytesLength_0f7a4 8 = .ok (.invokespecial 19, 3) := by decide +kernel
theorem dJ2_newBytesLength_0f7a4_11 : decode cJ2_newBytesLength_0f7a4 11 = .ok (.athrow, 1) := by decide +kernel
theorem dJ2_newBytesLength_0f7a4_12 : decode cJ2_newBytesLength_0f7a4 12 = .ok (.iload_n 0, 1) := by decide +kernel
theorem dJ2_newBytesLength_0f7a4_13 : decode cJ2_newBytesLength_0f7a4 13 = .ok (.ldc 20, 2) := by decide +kernel
theorem dJ2_newBytesLength_0f7a4_15 : decode cJ2_newBytesLength_0f7a4 15 = .ok (.if_icmp .lt 40, 3) := by decide +kernel
theorem dJ2_newBytesLength_0f7a4_18 : decode cJ2_newBytesLength_0f7a4 18 = .ok (.new 21, 3) := by decide +kernel
theorem dJ2_newBytesLength_0f7a4_21 : decode cJ2_newBytesLength_0f7a4 21 = .ok (.dup, 1) := by decide +kernel
theorem dJ2_newBytesLength_0f7a4_22 : decode cJ2_newBytesLength_0f7a4 22 = .ok (.new 23, 3) := by decide +kernel
theorem dJ2_newBytesLength_0f7a4_25 : decode cJ2_newBytesLength_0f7a4 25 = .ok (.dup, 1) := by decide +kernel
theorem dJ2_newBytesLength_0f7a4_26 : decode cJ2_newBytesLength_0f7a4 26 = .ok (.invokespecial 25, 3) := by decide +kernel
theorem dJ2_newBytesLength_0f7a4_29 : decode cJ2_newBytesLength_0f7a4 29 = .ok (.ldc 26, 2) := by decide +kernel
theorem dJ2_newBytesLength_0f7a4_31 : decode cJ2_newBytesLength_0f7a4 31 = .ok (.invokevirtual 28, 3) := by decide +kernel
theorem dJ2_newBytesLength_0f7a4_34 : decode cJ2_newBytesLength_0f7a4 34 = .ok (.iload_n 0, 1) := by decide +kernel
theorem dJ2_newBytesLength_0f7a4_35 : decode cJ2_newBytesLength_0f7a4 35 = .ok (.invokevirtual 32, 3) := by decide +kernel
theorem dJ2_newBytesLength_0f7a4_38 : decode cJ2_newBytesLength_0f7a4 38 = .ok (.ldc 35, 2) := by decide +kernel
theorem dJ2_newBytesLength_0f7a4_40 : decode cJ2_newBytesLength_0f7a4 40 = .ok (.invokevirtual 28, 3) := by decide +kernel
theorem dJ2_newBytesLength_0f7a4_43 : decode cJ2_newBytesLength_0f7a4 43 = .ok (.ldc 20, 2) := by decide +kernel
theorem dJ2_newBytesLength_0f7a4_45 : decode cJ2_newBytesLength_0f7a4 45 = .ok (.invokevirtual 32, 3) := by decide +kernel
theorem dJ2_newBytesLength_0f7a4_48 : decode cJ2_newBytesLength_0f7a4 48 = .ok (.invokevirtual 37, 3) := by decide +kernel
theorem dJ2_newBytesLength_0f7a4_51 : decode cJ2_newBytesLength_0f7a4 51 = .ok (.invokespecial 41, 3) := by decide +kernel
theorem dJ2_newBytesLength_0f7a4_54 : decode cJ2_newBytesLength_0f7a4 54 = .ok (.athrow, 1) := by decide +kernel
theorem dJ2_newBytesLength_0f7a4_55 : decode cJ2_newBytesLength_0f7a4 55 = .ok (.iload_n 0, 1) := by decide +kernel
theorem dJ2_newBytesLength_0f7a4_56 : decode cJ2_newBytesLength_0f7a4 56 = .ok (.iconst 1, 1) := by decide +kernel
theorem dJ2_newBytesLength_0f7a4_57 : decode cJ2_newBytesLength_0f7a4 57 = .ok (.ishl, 1) := by decide +kernel
theorem dJ2_newBytesLength_0f7a4_58 : decode cJ2_newBytesLength_0f7a4 58 = .ok (.ireturn, 1) := by decide +kernel
theorem dJ2_putChar_b72d1_0 : decode cJ2_putChar_b72d1 0 = .ok (.getstatic 44, 3) := by decide +kernel
theorem dJ2_putChar_b72d1_3 : decode cJ2_putChar_b72d1 3 = .ok (.ifCond .ne 25, 3) := by decide +kernel
theorem dJ2_putChar_b72d1_6 : decode cJ2_putChar_b72d1 6 = .ok (.iload_n 1, 1) := by decide +kernel
theorem dJ2_putChar_b72d1_7 : decode cJ2_putChar_b72d1 7 = .ok (.ifCond .lt 11, 3) := by decide +kernel
theorem dJ2_putChar_b72d1_10 : decode cJ2_putChar_b72d1 10 = .ok (.iload_n 1, 1) := by decide +kernel
theorem dJ2_putChar_b72d1_11 : decode cJ2_putChar_b72d1 11 = .ok (.aload_n 0, 1) := by decide +kernel
theorem dJ2_putChar_b72d1_12 : decode cJ2_putChar_b72d1 12 = .ok (.invokestatic 48, 3) := by decide +kernel
theorem dJ2_putChar_b72d1_15 : decode cJ2_putChar_b72d1 15 = .ok (.if_icmp .lt 13, 3) := by decide +kernel
theorem dJ2_putChar_b72d1_18 : decode cJ2_putChar_b72d1 18 = .ok (.new 52, 3) := by decide +kernel
theorem dJ2_putChar_b72d1_21 : decode cJ2_putChar_b72d1 21 = .ok (.dup, 1) := by decide +kernel
theorem dJ2_putChar_b72d1_22 : decode cJ2_putChar_b72d1 22 = .ok (.ldc 54, 2) := by decide +kernel
theorem dJ2_putChar_b72d1_24 : decode cJ2_putChar_b72d1 24 = .ok (.invokespecial 56, 3) := by decide +kernel
theorem dJ2_putChar_b72d1_27 : decode cJ2_putChar_b72d1 27 = .ok (.athrow, 1) := by decide +kernel
theorem dJ2_putChar_b72d1_28 : decode cJ2_putChar_b72d1 28 = .ok (.iload_n 1, 1) := by decide +kernel
theorem dJ2_putChar_b72d1_29 : decode cJ2_putChar_b72d1 29 = .ok (.iconst 1, 1) := by decide +kernel
theorem dJ2_putChar_b72d1_30 : decode cJ2_putChar_b72d1 30 = .ok (.ishl, 1) := by decide +kernel
theorem dJ2_putChar_b72d1_31 : decode cJ2_putChar_b72d1 31 = .ok (.istore_n 1, 1) := by decide +kernel
theorem dJ2_putChar_b72d1_32 : decode cJ2_putChar_b72d1 32 = .ok (.aload_n 0, 1) := by decide +kernel
theorem dJ2_putChar_b72d1_33 : decode cJ2_putChar_b72d1 33 = .ok (.iload_n 1, 1) := by decide +kernel
theorem dJ2_putChar_b72d1_34 : decode cJ2_putChar_b72d1 34 = .ok (.iinc 1 1, 3) := by decide +kernel
theorem dJ2_putChar_b72d1_37 : decode cJ2_putChar_b72d1 37 = .ok (.iload_n 2, 1) := by decide +kernel
theorem dJ2_putChar_b72d1_38 : decode cJ2_putChar_b72d1 38 = .ok (.getstatic 59, 3) := by decide +kernel
theorem dJ2_putChar_b72d1_41 : decode cJ2_putChar_b72d1 41 = .ok (.ishr, 1) := by decide +kernel
theorem dJ2_putChar_b72d1_42 : decode cJ2_putChar_b72d1 42 = .ok (.i2b, 1) := by decide +kernel
theorem dJ2_putChar_b72d1_43 : decode cJ2_putChar_b72d1 43 = .ok (.bastore, 1) := by decide +kernel
theorem dJ2_putChar_b72d1_44 : decode cJ2_putChar_b72d1 44 = .ok (.aload_n 0, 1) := by decide +kernel
theorem dJ2_putChar_b72d1_45 : decode cJ2_putChar_b72d1 45 = .ok (.iload_n 1, 1) := by decide +kernel
theorem dJ2_putChar_b72d1_46 : decode cJ2_putChar_b72d1 46 = .ok (.iload_n 2, 1) := by decide +kernel
theorem dJ2_putChar_b72d1_47 : decode cJ2_putChar_b72d1 47 = .ok (.getstatic 63, 3) := by decide +kernel
theorem dJ2_putChar_b72d1_50 : decode cJ2_putChar_b72d1 50 = .ok (.ishr, 1) := by decide +kernel
theorem dJ2_putChar_b72d1_51 : decode cJ2_putChar_b72d1 51 = .ok (.i2b, 1) := by decide +kernel
theorem dJ2_putChar_b72d1_52 : decode cJ2_putChar_b72d1 52 = .ok (.bastore, 1) := by decide +kernel
theorem dJ2_putChar_b72d1_53 : decode cJ2_putChar_b72d1 53 = .ok (.return_, 1) := by decide +kernel
theorem dJ2_getChar_3b067_0 : decode cJ2_getChar_3b067 0 = .ok (.getstatic 44, 3) := by decide +kernel
theorem dJ2_getChar_3b067_3 : decode cJ2_getChar_3b067 3 = .ok (.ifCond .ne 25, 3) := by decide +kernel
theorem dJ2_getChar_3b067_6 : decode cJ2_getChar_3b067 6 = .ok (.iload_n 1, 1) := by decide +kernel
theorem dJ2_getChar_3b067_7 : decode cJ2_getChar_3b067 7 = .ok (.ifCond .lt 11, 3) := by decide +kernel
theorem dJ2_getChar_3b067_10 : decode cJ2_getChar_3b067 10 = .ok (.iload_n 1, 1) := by decide +kernel
theorem dJ2_getChar_3b067_11 : decode cJ2_getChar_3b067 11 = .ok (.aload_n 0, 1) := by decide +kernel
theorem dJ2_getChar_3b067_12 : decode cJ2_getChar_3b067 12 = .ok (.invokestatic 48, 3) := by decide +kernel
theorem dJ2_getChar_3b067_15 : decode cJ2_getChar_3b067 15 = .ok (.if_icmp .lt 13, 3) := by decide +kernel
theorem dJ2_getChar_3b067_18 : decode cJ2_getChar_3b067 18 = .ok (.new 52, 3) := by decide +kernel
theorem dJ2_getChar_3b067_21 : decode cJ2_getChar_3b067 21 = .ok (.dup, 1) := by decide +kernel
theorem dJ2_getChar_3b067_22 : decode cJ2_getChar_3b067 22 = .ok (.ldc 54, 2) := by decide +kernel
theorem dJ2_getChar_3b067_24 : decode cJ2_getChar_3b067 24 = .ok (.invokespecial 56, 3) := by decide +kernel
theorem dJ2_getChar_3b067_27 : decode cJ2_getChar_3b067 27 = .ok (.athrow, 1) := by decide +kernel
theorem dJ2_getChar_3b067_28 : decode cJ2_getChar_3b067 28 = .ok (.iload_n 1, 1) := by decide +kernel
theorem dJ2_getChar_3b067_29 : decode cJ2_getChar_3b067 29 = .ok (.iconst 1, 1) := by decide +kernel
theorem dJ2_getChar_3b067_30 : decode cJ2_getChar_3b067 30 = .ok (.ishl, 1) := by decide +kernel
theorem dJ2_getChar_3b067_31 : decode cJ2_getChar_3b067 31 = .ok (.istore_n 1, 1) := by decide +kernel
theorem dJ2_getChar_3b067_32 : decode cJ2_getChar_3b067 32 = .ok (.aload_n 0, 1) := by decide +kernel
theorem dJ2_getChar_3b067_33 : decode cJ2_getChar_3b067 33 = .ok (.iload_n 1, 1) := by decide +kernel
theorem dJ2_getChar_3b067_34 : decode cJ2_getChar_3b067 34 = .ok (.iinc 1 1, 3) := by decide +kernel
theorem dJ2_getChar_3b067_37 : decode cJ2_getChar_3b067 37 = .ok (.baload, 1) := by decide +kernel
theorem dJ2_getChar_3b067_38 : decode cJ2_getChar_3b067 38 = .ok (.sipush 255, 3) := by decide +kernel
theorem dJ2_getChar_3b067_41 : decode cJ2_getChar_3b067 41 = .ok (.iand, 1) := by decide +kernel
theorem dJ2_getChar_3b067_42 : decode cJ2_getChar_3b067 42 = .ok (.getstatic 59, 3) := by decide +kernel
theorem dJ2_getChar_3b067_45 : decode cJ2_getChar_3b067 45 = .ok (.ishl, 1) := by decide +kernel
theorem dJ2_getChar_3b067_46 : decode cJ2_getChar_3b067 46 = .ok (.aload_n 0, 1) := by decide +kernel
theorem dJ2_getChar_3b067_47 : decode cJ2_getChar_3b067 47 = .ok (.iload_n 1, 1) := by decide +kernel
theorem dJ2_getChar_3b067_48 : decode cJ2_getChar_3b067 48 = .ok (.baload, 1) := by decide +kernel
theorem dJ2_getChar_3b067_49 : decode cJ2_getChar_3b067 49 = .ok (.sipush 255, 3) := by decide +kernel
theorem dJ2_getChar_3b067_52 : decode cJ2_getChar_3b067 52 = .ok (.iand, 1) := by decide +kernel
theorem dJ2_getChar_3b067_53 : decode cJ2_getChar_3b067 53 = .ok (.getstatic 63, 3) := by decide +kernel
theorem dJ2_getChar_3b067_56 : decode cJ2_getChar_3b067 56 = .ok (.ishl, 1) := by decide +kernel
theorem dJ2_getChar_3b067_57 : decode cJ2_getChar_3b067 57 = .ok (.ior, 1) := by decide +kernel
theorem dJ2_getChar_3b067_58 : decode cJ2_getChar_3b067 58 = .ok (.i2c, 1) := by decide +kernel
theorem dJ2_getChar_3b067_59 : decode cJ2_getChar_3b067 59 = .ok (.ireturn, 1) := by decide +kernel
theorem dJ2_length_9d52b_0 : decode cJ2_length_9d52b 0 = .ok (.aload_n 0, 1) := by decide +kernel
theorem dJ2_length_9d52b_1 : decode cJ2_length_9d52b 1 = .ok (.arraylength, 1) := by decide +kernel
theorem dJ2_length_9d52b_2 : decode cJ2_length_9d52b 2 = .ok (.iconst 1, 1) := by decide +kernel
theorem dJ2_length_9d52b_3 : decode cJ2_length_9d52b 3 = .ok (.ishr, 1) := by decide +kernel
theorem dJ2_length_9d52b_4 : decode cJ2_length_9d52b 4 = .ok (.ireturn, 1) := by decide +kernel
theorem dJ2_coderFromArrayLen_85cad_0 : decode cJ2_coderFromArrayLen_85cad 0 = .ok (.iload_n 1, 1) := by decide +kernel
theorem dJ2_coderFromArrayLen_85cad_1 : decode cJ2_coderFromArrayLen_85cad 1 = .ok (.aload_n 0, 1) := by decide +kernel
theorem dJ2_coderFromArrayLen_85cad_2 : decode cJ2_coderFromArrayLen_85cad 2 = .ok (.arraylength, 1) := by decide +kernel
theorem dJ2_coderFromArrayLen_85cad_3 : decode cJ2_coderFromArrayLen_85cad 3 = .ok (.isub, 1) := by decide +kernel
theorem dJ2_coderFromArrayLen_85cad_4 : decode cJ2_coderFromArrayLen_85cad 4 = .ok (.bipush 31, 2) := by decide +kernel
theorem dJ2_coderFromArrayLen_85cad_6 : decode cJ2_coderFromArrayLen_85cad 6 = .ok (.iushr, 1) := by decide +kernel
theorem dJ2_coderFromArrayLen_85cad_7 : decode cJ2_coderFromArrayLen_85cad 7 = .ok (.i2b, 1) := by decide +kernel
theorem dJ2_coderFromArrayLen_85cad_8 : decode cJ2_coderFromArrayLen_85cad 8 = .ok (.ireturn, 1) := by decide +kernel
theorem dJ2_compress_39247_0 : decode cJ2_compress_39247 0 = .ok (.iload_n 2, 1) := by decide +kernel
theorem dJ2_compress_39247_1 : decode cJ2_compress_39247 1 = .ok (.newarray .byte, 2) := by decide +kernel
theorem dJ2_compress_39247_3 : decode cJ2_compress_39247 3 = .ok (.astore_n 3, 1) := by decide +kernel
theorem dJ2_compress_39247_4 : decode cJ2_compress_39247 4 = .ok (.aload_n 0, 1) := by decide +kernel
theorem dJ2_compress_39247_5 : decode cJ2_compress_39247 5 = .ok (.iload_n 1, 1) := by decide +kernel
theorem dJ2_compress_39247_6 : decode cJ2_compress_39247 6 = .ok (.aload_n 3, 1) := by decide +kernel
theorem dJ2_compress_39247_7 : decode cJ2_compress_39247 7 = .ok (.iconst 0, 1) := by decide +kernel
theorem dJ2_compress_39247_8 : decode cJ2_compress_39247 8 = .ok (.iload_n 2, 1) := by decide +kernel
theorem dJ2_compress_39247_9 : decode cJ2_compress_39247 9 = .ok (.invokestatic 123, 3) := by decide +kernel
theorem dJ2_compress_39247_12 : decode cJ2_compress_39247 12 = .ok (.istore 4, 2) := by decide +kernel
theorem dJ2_compress_39247_14 : decode cJ2_compress_39247 14 = .ok (.iload 4, 2) := by decide +kernel
theorem dJ2_compress_39247_16 : decode cJ2_compress_39247 16 = .ok (.iload_n 2, 1) := by decide +kernel
theorem dJ2_compress_39247_17 : decode cJ2_compress_39247 17 = .ok (.if_icmp .eq 47, 3) := by decide +kernel
theorem dJ2_compress_39247_20 : decode cJ2_compress_39247 20 = .ok (.aload_n 0, 1) := by decide +kernel
theorem dJ2_compress_39247_21 : decode cJ2_compress_39247 21 = .ok (.iload_n 1, 1) := by decide +kernel
theorem dJ2_compress_39247_22 : decode cJ2_compress_39247 22 = .ok (.iconst 1, 1) := by decide +kernel
theorem dJ2_compress_39247_23 : decode cJ2_compress_39247 23 = .ok (.ishl, 1) := by decide +kernel
theorem dJ2_compress_39247_24 : decode cJ2_compress_39247 24 = .ok (.iload_n 1, 1) := by decide +kernel
theorem dJ2_compress_39247_25 : decode cJ2_compress_39247 25 = .ok (.iload_n 2, 1) := by decide +kernel
theorem dJ2_compress_39247_26 : decode cJ2_compress_39247 26 = .ok (.iadd, 1) := by decide +kernel
theorem dJ2_compress_39247_27 : decode cJ2_compress_39247 27 = .ok (.invokestatic 11, 3) := by decide +kernel
theorem dJ2_compress_39247_30 : decode cJ2_compress_39247 30 = .ok (.invokestatic 126, 3) := by decide +kernel
theorem dJ2_compress_39247_33 : decode cJ2_compress_39247 33 = .ok (.astore 5, 2) := by decide +kernel
theorem dJ2_compress_39247_35 : decode cJ2_compress_39247 35 = .ok (.aload 5, 2) := by decide +kernel
theorem dJ2_compress_39247_37 : decode cJ2_compress_39247 37 = .ok (.iload 4, 2) := by decide +kernel
theorem dJ2_compress_39247_39 : decode cJ2_compress_39247 39 = .ok (.invokestatic 71, 3) := by decide +kernel
theorem dJ2_compress_39247_42 : decode cJ2_compress_39247 42 = .ok (.sipush 255, 3) := by decide +kernel
theorem dJ2_compress_39247_45 : decode cJ2_compress_39247 45 = .ok (.if_icmp .gt 16, 3) := by decide +kernel
theorem dJ2_compress_39247_48 : decode cJ2_compress_39247 48 = .ok (.aload 5, 2) := by decide +kernel
theorem dJ2_compress_39247_50 : decode cJ2_compress_39247 50 = .ok (.iconst 0, 1) := by decide +kernel
theorem dJ2_compress_39247_51 : decode cJ2_compress_39247 51 = .ok (.aload_n 3, 1) := by decide +kernel
theorem dJ2_compress_39247_52 : decode cJ2_compress_39247 52 = .ok (.iconst 0, 1) := by decide +kernel
theorem dJ2_compress_39247_53 : decode cJ2_compress_39247 53 = .ok (.iload_n 2, 1) := by decide +kernel
theorem dJ2_compress_39247_54 : decode cJ2_compress_39247 54 = .ok (.invokestatic 123, 3) := by decide +kernel
theorem dJ2_compress_39247_57 : decode cJ2_compress_39247 57 = .ok (.iload_n 2, 1) := by decide +kernel
theorem dJ2_compress_39247_58 : decode cJ2_compress_39247 58 = .ok (.if_icmp .eq 6, 3) := by decide +kernel
theorem dJ2_compress_39247_61 : decode cJ2_compress_39247 61 = .ok (.aload 5, 2) := by decide +kernel
theorem dJ2_compress_39247_63 : decode cJ2_compress_39247 63 = .ok (.areturn, 1) := by decide +kernel
theorem dJ2_compress_39247_64 : decode cJ2_compress_39247 64 = .ok (.aload_n 3, 1) := by decide +kernel
theorem dJ2_compress_39247_65 : decode cJ2_compress_39247 65 = .ok (.areturn, 1) := by decide +kernel
theorem dJ2_compress_5af95_0 : decode cJ2_compress_5af95 0 = .ok (.iload_n 1, 1) := by decide +kernel
theorem dJ2_compress_5af95_1 : decode cJ2_compress_5af95 1 = .ok (.iload 4, 2) := by decide +kernel
theorem dJ2_compress_5af95_3 : decode cJ2_compress_5af95 3 = .ok (.aload_n 0, 1) := by decide +kernel
theorem dJ2_compress_5af95_4 : decode cJ2_compress_5af95 4 = .ok (.invokestatic 173, 3) := by decide +kernel
theorem dJ2_compress_5af95_7 : decode cJ2_compress_5af95 7 = .ok (.iconst 0, 1) := by decide +kernel
theorem dJ2_compress_5af95_8 : decode cJ2_compress_5af95 8 = .ok (.istore 5, 2) := by decide +kernel
theorem dJ2_compress_5af95_10 : decode cJ2_compress_5af95 10 = .ok (.iload 5, 2) := by decide +kernel
theorem dJ2_compress_5af95_12 : decode cJ2_compress_5af95 12 = .ok (.iload 4, 2) := by decide +kernel
theorem dJ2_compress_5af95_14 : decode cJ2_compress_5af95 14 = .ok (.if_icmp .ge 39, 3) := by decide +kernel
theorem dJ2_compress_5af95_17 : decode cJ2_compress_5af95 17 = .ok (.aload_n 0, 1) := by decide +kernel
theorem dJ2_compress_5af95_18 : decode cJ2_compress_5af95 18 = .ok (.iload_n 1, 1) := by decide +kernel
theorem dJ2_compress_5af95_19 : decode cJ2_compress_5af95 19 = .ok (.invokestatic 71, 3) := by decide +kernel
theorem dJ2_compress_5af95_22 : decode cJ2_compress_5af95 22 = .ok (.istore 6, 2) := by decide +kernel
theorem dJ2_compress_5af95_24 : decode cJ2_compress_5af95 24 = .ok (.iload 6, 2) := by decide +kernel
theorem dJ2_compress_5af95_26 : decode cJ2_compress_5af95 26 = .ok (.sipush 255, 3) := by decide +kernel
theorem dJ2_compress_5af95_29 : decode cJ2_compress_5af95 29 = .ok (.if_icmp .le 6, 3) := by decide +kernel
theorem dJ2_compress_5af95_32 : decode cJ2_compress_5af95 32 = .ok (.iload 5, 2) := by decide +kernel
theorem dJ2_compress_5af95_34 : decode cJ2_compress_5af95 34 = .ok (.ireturn, 1) := by decide +kernel
theorem dJ2_compress_5af95_35 : decode cJ2_compress_5af95 35 = .ok (.aload_n 2, 1) := by decide +kernel
theorem dJ2_compress_5af95_36 : decode cJ2_compress_5af95 36 = .ok (.iload_n 3, 1) := by decide +kernel
theorem dJ2_compress_5af95_37 : decode cJ2_compress_5af95 37 = .ok (.iload 6, 2) := by decide +kernel
theorem dJ2_compress_5af95_39 : decode cJ2_compress_5af95 39 = .ok (.i2b, 1) := by decide +kernel
theorem dJ2_compress_5af95_40 : decode cJ2_compress_5af95 40 = .ok (.bastore, 1) := by decide +kernel
theorem dJ2_compress_5af95_41 : decode cJ2_compress_5af95 41 = .ok (.iinc 1 1, 3) := by decide +kernel
theorem dJ2_compress_5af95_44 : decode cJ2_compress_5af95 44 = .ok (.iinc 3 1, 3) := by decide +kernel
theorem dJ2_compress_5af95_47 : decode cJ2_compress_5af95 47 = .ok (.iinc 5 1, 3) := by decide +kernel
theorem dJ2_compress_5af95_50 : decode cJ2_compress_5af95 50 = .ok (.goto (-40), 3) := by decide +kernel
theorem dJ2_compress_5af95_53 : decode cJ2_compress_5af95 53 = .ok (.iload 4, 2) := by decide +kernel
theorem dJ2_compress_5af95_55 : decode cJ2_compress_5af95 55 = .ok (.ireturn, 1) := by decide +kernel
theorem dJ2_fillNull_b72d1_0 : decode cJ2_fillNull_b72d1 0 = .ok (.aload_n 0, 1) := by decide +kernel
theorem dJ2_fillNull_b72d1_1 : decode cJ2_fillNull_b72d1 1 = .ok (.iload_n 1, 1) := by decide +kernel
theorem dJ2_fillNull_b72d1_2 : decode cJ2_fillNull_b72d1 2 = .ok (.iconst 1, 1) := by decide +kernel
theorem dJ2_fillNull_b72d1_3 : decode cJ2_fillNull_b72d1 3 = .ok (.ishl, 1) := by decide +kernel
theorem dJ2_fillNull_b72d1_4 : decode cJ2_fillNull_b72d1 4 = .ok (.iload_n 2, 1) := by decide +kernel
theorem dJ2_fillNull_b72d1_5 : decode cJ2_fillNull_b72d1 5 = .ok (.iconst 1, 1) := by decide +kernel
theorem dJ2_fillNull_b72d1_6 : decode cJ2_fillNull_b72d1 6 = .ok (.ishl, 1) := by decide +kernel
theorem dJ2_fillNull_b72d1_7 : decode cJ2_fillNull_b72d1 7 = .ok (.iconst 0, 1) := by decide +kernel
theorem dJ2_fillNull_b72d1_8 : decode cJ2_fillNull_b72d1 8 = .ok (.invokestatic 380, 3) := by decide +kernel
theorem dJ2_fillNull_b72d1_11 : decode cJ2_fillNull_b72d1 11 = .ok (.return_, 1) := by decide +kernel
theorem dJ2_putCharSB_b72d1_0 : decode cJ2_putCharSB_b72d1 0 = .ok (.iload_n 1, 1) := by decide +kernel
theorem dJ2_putCharSB_b72d1_1 : decode cJ2_putCharSB_b72d1 1 = .ok (.aload_n 0, 1) := by decide +kernel
theorem dJ2_putCharSB_b72d1_2 : decode cJ2_putCharSB_b72d1 2 = .ok (.invokestatic 67, 3) := by decide +kernel
theorem dJ2_putCharSB_b72d1_5 : decode cJ2_putCharSB_b72d1 5 = .ok (.aload_n 0, 1) := by decide +kernel
theorem dJ2_putCharSB_b72d1_6 : decode cJ2_putCharSB_b72d1 6 = .ok (.iload_n 1, 1) := by decide +kernel
theorem dJ2_putCharSB_b72d1_7 : decode cJ2_putCharSB_b72d1 7 = .ok (.iload_n 2, 1) := by decide +kernel
theorem dJ2_putCharSB_b72d1_8 : decode cJ2_putCharSB_b72d1 8 = .ok (.invokestatic 111, 3) := by decide +kernel
theorem dJ2_putCharSB_b72d1_11 : decode cJ2_putCharSB_b72d1 11 = .ok (.return_, 1) := by decide +kernel
theorem dJ2_getChars_46870_0 : decode cJ2_getChars_46870 0 = .ok (.iload_n 1, 1) := by decide +kernel
theorem dJ2_getChars_46870_1 : decode cJ2_getChars_46870 1 = .ok (.iload_n 2, 1) := by decide +kernel
theorem dJ2_getChars_46870_2 : decode cJ2_getChars_46870 2 = .ok (.aload_n 3, 1) := by decide +kernel
theorem dJ2_getChars_46870_3 : decode cJ2_getChars_46870 3 = .ok (.invokestatic 96, 3) := by decide +kernel
theorem dJ2_getChars_46870_6 : decode cJ2_getChars_46870 6 = .ok (.iload_n 0, 1) := by decide +kernel
theorem dJ2_getChars_46870_7 : decode cJ2_getChars_46870 7 = .ok (.iload_n 2, 1) := by decide +kernel
theorem dJ2_getChars_46870_8 : decode cJ2_getChars_46870 8 = .ok (.aload_n 3, 1) := by decide +kernel
theorem dJ2_getChars_46870_9 : decode cJ2_getChars_46870 9 = .ok (.invokestatic 393, 3) := by decide +kernel
theorem dJ2_getChars_46870_12 : decode cJ2_getChars_46870 12 = .ok (.istore 4, 2) := by decide +kernel
theorem dJ2_getChars_46870_14 : decode cJ2_getChars_46870 14 = .ok (.getstatic 44, 3) := by decide +kernel
theorem dJ2_getChars_46870_17 : decode cJ2_getChars_46870 17 = .ok (.ifCond .ne 17, 3) := by decide +kernel
theorem dJ2_getChars_46870_20 : decode cJ2_getChars_46870 20 = .ok (.iload_n 1, 1) := by decide +kernel
theorem dJ2_getChars_46870_21 : decode cJ2_getChars_46870 21 = .ok (.iload 4, 2) := by decide +kernel
theorem dJ2_getChars_46870_23 : decode cJ2_getChars_46870 23 = .ok (.if_icmp .eq 11, 3) := by decide +kernel
theorem dJ2_getChars_46870_26 : decode cJ2_getChars_46870 26 = .ok (.new 52, 3) := by decide +kernel
theorem dJ2_getChars_46870_29 : decode cJ2_getChars_46870 29 = .ok (.dup, 1) := by decide +kernel
theorem dJ2_getChars_46870_30 : decode cJ2_getChars_46870 30 = .ok (.invokespecial 66, 3) := by decide +kernel
theorem dJ2_getChars_46870_33 : decode cJ2_getChars_46870 33 = .ok (.athrow, 1) := by decide +kernel
theorem dJ2_getChars_46870_34 : decode cJ2_getChars_46870 34 = .ok (.iload 4, 2) := by decide +kernel
theorem dJ2_getChars_46870_36 : decode cJ2_getChars_46870 36 = .ok (.ireturn, 1) := by decide +kernel
theorem dJ2_putCharsAt_cd4e5_0 : decode cJ2_putCharsAt_cd4e5 0 = .ok (.iload_n 1, 1) := by decide +kernel
theorem dJ2_putCharsAt_cd4e5_1 : decode cJ2_putCharsAt_cd4e5 1 = .ok (.iconst 4, 1) := by decide +kernel
theorem dJ2_putCharsAt_cd4e5_2 : decode cJ2_putCharsAt_cd4e5 2 = .ok (.iadd, 1) := by decide +kernel
theorem dJ2_putCharsAt_cd4e5_3 : decode cJ2_putCharsAt_cd4e5 3 = .ok (.istore 6, 2) := by decide +kernel
theorem dJ2_putCharsAt_cd4e5_5 : decode cJ2_putCharsAt_cd4e5 5 = .ok (.iload_n 1, 1) := by decide +kernel
theorem dJ2_putCharsAt_cd4e5_6 : decode cJ2_putCharsAt_cd4e5 6 = .ok (.iload 6, 2) := by decide +kernel
theorem dJ2_putCharsAt_cd4e5_8 : decode cJ2_putCharsAt_cd4e5 8 = .ok (.aload_n 0, 1) := by decide +kernel
theorem dJ2_putCharsAt_cd4e5_9 : decode cJ2_putCharsAt_cd4e5 9 = .ok (.invokestatic 96, 3) := by decide +kernel
theorem dJ2_putCharsAt_cd4e5_12 : decode cJ2_putCharsAt_cd4e5 12 = .ok (.aload_n 0, 1) := by decide +kernel
theorem dJ2_putCharsAt_cd4e5_13 : decode cJ2_putCharsAt_cd4e5 13 = .ok (.iload_n 1, 1) := by decide +kernel
theorem dJ2_putCharsAt_cd4e5_14 : decode cJ2_putCharsAt_cd4e5 14 = .ok (.iinc 1 1, 3) := by decide +kernel
theorem dJ2_putCharsAt_cd4e5_17 : decode cJ2_putCharsAt_cd4e5 17 = .ok (.iload_n 2, 1) := by decide +kernel
theorem dJ2_putCharsAt_cd4e5_18 : decode cJ2_putCharsAt_cd4e5 18 = .ok (.invokestatic 111, 3) := by decide +kernel
theorem dJ2_putCharsAt_cd4e5_21 : decode cJ2_putCharsAt_cd4e5 21 = .ok (.aload_n 0, 1) := by decide +kernel
theorem dJ2_putCharsAt_cd4e5_22 : decode cJ2_putCharsAt_cd4e5 22 = .ok (.iload_n 1, 1) := by decide +kernel
theorem dJ2_putCharsAt_cd4e5_23 : decode cJ2_putCharsAt_cd4e5 23 = .ok (.iinc 1 1, 3) := by decide +kernel
theorem dJ2_putCharsAt_cd4e5_26 : decode cJ2_putCharsAt_cd4e5 26 = .ok (.iload_n 3, 1) := by decide +kernel
theorem dJ2_putCharsAt_cd4e5_27 : decode cJ2_putCharsAt_cd4e5 27 = .ok (.invokestatic 111, 3) := by decide +kernel
theorem dJ2_putCharsAt_cd4e5_30 : decode cJ2_putCharsAt_cd4e5 30 = .ok (.aload_n 0, 1) := by decide +kernel
theorem dJ2_putCharsAt_cd4e5_31 : decode cJ2_putCharsAt_cd4e5 31 = .ok (.iload_n 1, 1) := by decide +kernel
theorem dJ2_putCharsAt_cd4e5_32 : decode cJ2_putCharsAt_cd4e5 32 = .ok (.iinc 1 1, 3) := by decide +kernel
theorem dJ2_putCharsAt_cd4e5_35 : decode cJ2_putCharsAt_cd4e5 35 = .ok (.iload 4, 2) := by decide +kernel
theorem dJ2_putCharsAt_cd4e5_37 : decode cJ2_putCharsAt_cd4e5 37 = .ok (.invokestatic 111, 3) := by decide +kernel
theorem dJ2_putCharsAt_cd4e5_40 : decode cJ2_putCharsAt_cd4e5 40 = .ok (.aload_n 0, 1) := by decide +kernel
theorem dJ2_putCharsAt_cd4e5_41 : decode cJ2_putCharsAt_cd4e5 41 = .ok (.iload_n 1, 1) := by decide +kernel
theorem dJ2_putCharsAt_cd4e5_42 : decode cJ2_putCharsAt_cd4e5 42 = .ok (.iinc 1 1, 3) := by decide +kernel
theorem dJ2_putCharsAt_cd4e5_45 : decode cJ2_putCharsAt_cd4e5 45 = .ok (.iload 5, 2) := by decide +kernel
theorem dJ2_putCharsAt_cd4e5_47 : decode cJ2_putCharsAt_cd4e5 47 = .ok (.invokestatic 111, 3) := by decide +kernel
theorem dJ2_putCharsAt_cd4e5_50 : decode cJ2_putCharsAt_cd4e5 50 = .ok (.getstatic 44, 3) := by decide +kernel
theorem dJ2_putCharsAt_cd4e5_53 : decode cJ2_putCharsAt_cd4e5 53 = .ok (.ifCond .ne 17, 3) := by decide +kernel
theorem dJ2_putCharsAt_cd4e5_56 : decode cJ2_putCharsAt_cd4e5 56 = .ok (.iload_n 1, 1) := by decide +kernel
theorem dJ2_putCharsAt_cd4e5_57 : decode cJ2_putCharsAt_cd4e5 57 = .ok (.iload 6, 2) := by decide +kernel
theorem dJ2_putCharsAt_cd4e5_59 : decode cJ2_putCharsAt_cd4e5 59 = .ok (.if_icmp .eq 11, 3) := by decide +kernel
theorem dJ2_putCharsAt_cd4e5_62 : decode cJ2_putCharsAt_cd4e5 62 = .ok (.new 52, 3) := by decide +kernel
theorem dJ2_putCharsAt_cd4e5_65 : decode cJ2_putCharsAt_cd4e5 65 = .ok (.dup, 1) := by decide +kernel
theorem dJ2_putCharsAt_cd4e5_66 : decode cJ2_putCharsAt_cd4e5 66 = .ok (.invokespecial 66, 3) := by decide +kernel
theorem dJ2_putCharsAt_cd4e5_69 : decode cJ2_putCharsAt_cd4e5 69 = .ok (.athrow, 1) := by decide +kernel
theorem dJ2_putCharsAt_cd4e5_70 : decode cJ2_putCharsAt_cd4e5 70 = .ok (.iload 6, 2) := by decide +kernel
theorem dJ2_putCharsAt_cd4e5_72 : decode cJ2_putCharsAt_cd4e5 72 = .ok (.ireturn, 1) := by decide +kernel
theorem dJ2_charAt_3b067_0 : decode cJ2_charAt_3b067 0 = .ok (.iload_n 1, 1) := by decide +kernel
theorem dJ2_charAt_3b067_1 : decode cJ2_charAt_3b067 1 = .ok (.aload_n 0, 1) := by decide +kernel
theorem dJ2_charAt_3b067_2 : decode cJ2_charAt_3b067 2 = .ok (.invokestatic 67, 3) := by decide +kernel
theorem dJ2_charAt_3b067_5 : decode cJ2_charAt_3b067 5 = .ok (.aload_n 0, 1) := by decide +kernel
theorem dJ2_charAt_3b067_6 : decode cJ2_charAt_3b067 6 = .ok (.iload_n 1, 1) := by decide +kernel
theorem dJ2_charAt_3b067_7 : decode cJ2_charAt_3b067 7 = .ok (.invokestatic 71, 3) := by decide +kernel
theorem dJ2_charAt_3b067_10 : decode cJ2_charAt_3b067 10 = .ok (.ireturn, 1) := by decide +kernel
theorem dJ2_inflate_0e8fd_0 : decode cJ2_inflate_0e8fd 0 = .ok (.iload_n 3, 1) := by decide +kernel
theorem dJ2_inflate_0e8fd_1 : decode cJ2_inflate_0e8fd 1 = .ok (.iload 4, 2) := by decide +kernel
theorem dJ2_inflate_0e8fd_3 : decode cJ2_inflate_0e8fd 3 = .ok (.aload_n 2, 1) := by decide +kernel
theorem dJ2_inflate_0e8fd_4 : decode cJ2_inflate_0e8fd 4 = .ok (.invokestatic 173, 3) := by decide +kernel
theorem dJ2_inflate_0e8fd_7 : decode cJ2_inflate_0e8fd 7 = .ok (.iconst 0, 1) := by decide +kernel
theorem dJ2_inflate_0e8fd_8 : decode cJ2_inflate_0e8fd 8 = .ok (.istore 5, 2) := by decide +kernel
theorem dJ2_inflate_0e8fd_10 : decode cJ2_inflate_0e8fd 10 = .ok (.iload 5, 2) := by decide +kernel
theorem dJ2_inflate_0e8fd_12 : decode cJ2_inflate_0e8fd 12 = .ok (.iload 4, 2) := by decide +kernel
theorem dJ2_inflate_0e8fd_14 : decode cJ2_inflate_0e8fd 14 = .ok (.if_icmp .ge 27, 3) := by decide +kernel
theorem dJ2_inflate_0e8fd_17 : decode cJ2_inflate_0e8fd 17 = .ok (.aload_n 2, 1) := by decide +kernel
theorem dJ2_inflate_0e8fd_18 : decode cJ2_inflate_0e8fd 18 = .ok (.iload_n 3, 1) := by decide +kernel
theorem dJ2_inflate_0e8fd_19 : decode cJ2_inflate_0e8fd 19 = .ok (.iinc 3 1, 3) := by decide +kernel
theorem dJ2_inflate_0e8fd_22 : decode cJ2_inflate_0e8fd 22 = .ok (.aload_n 0, 1) := by decide +kernel
theorem dJ2_inflate_0e8fd_23 : decode cJ2_inflate_0e8fd 23 = .ok (.iload_n 1, 1) := by decide +kernel
theorem dJ2_inflate_0e8fd_24 : decode cJ2_inflate_0e8fd 24 = .ok (.iinc 1 1, 3) := by decide +kernel
theorem dJ2_inflate_0e8fd_27 : decode cJ2_inflate_0e8fd 27 = .ok (.baload, 1) := by decide +kernel
theorem dJ2_inflate_0e8fd_28 : decode cJ2_inflate_0e8fd 28 = .ok (.sipush 255, 3) := by decide +kernel
theorem dJ2_inflate_0e8fd_31 : decode cJ2_inflate_0e8fd 31 = .ok (.iand, 1) := by decide +kernel
theorem dJ2_inflate_0e8fd_32 : decode cJ2_inflate_0e8fd 32 = .ok (.invokestatic 111, 3) := by decide +kernel
theorem dJ2_inflate_0e8fd_35 : decode cJ2_inflate_0e8fd 35 = .ok (.iinc 5 1, 3) := by decide +kernel
theorem dJ2_inflate_0e8fd_38 : decode cJ2_inflate_0e8fd 38 = .ok (.goto (-28), 3) := by decide +kernel
theorem dJ2_inflate_0e8fd_41 : decode cJ2_inflate_0e8fd 41 = .ok (.return_, 1) := by decide +kernel
theorem dJ2_getChars_ba4f3_0 : decode cJ2_getChars_ba4f3 0 = .ok (.iload_n 1, 1) := by decide +kernel
theorem dJ2_getChars_ba4f3_1 : decode cJ2_getChars_ba4f3 1 = .ok (.istore 5, 2) := by decide +kernel
theorem dJ2_getChars_ba4f3_3 : decode cJ2_getChars_ba4f3 3 = .ok (.iload_n 0, 1) := by decide +kernel
theorem dJ2_getChars_ba4f3_4 : decode cJ2_getChars_ba4f3 4 = .ok (.ifCond .ge 7, 3) := by decide +kernel
theorem dJ2_getChars_ba4f3_7 : decode cJ2_getChars_ba4f3 7 = .ok (.iconst 1, 1) := by decide +kernel
theorem dJ2_getChars_ba4f3_8 : decode cJ2_getChars_ba4f3 8 = .ok (.goto 4, 3) := by decide +kernel
theorem dJ2_getChars_ba4f3_11 : decode cJ2_getChars_ba4f3 11 = .ok (.iconst 0, 1) := by decide +kernel
theorem dJ2_getChars_ba4f3_12 : decode cJ2_getChars_ba4f3 12 = .ok (.istore 6, 2) := by decide +kernel
theorem dJ2_getChars_ba4f3_14 : decode cJ2_getChars_ba4f3 14 = .ok (.iload 6, 2) := by decide +kernel
theorem dJ2_getChars_ba4f3_16 : decode cJ2_getChars_ba4f3 16 = .ok (.ifCond .ne 6, 3) := by decide +kernel
theorem dJ2_getChars_ba4f3_19 : decode cJ2_getChars_ba4f3 19 = .ok (.iload_n 0, 1) := by decide +kernel
theorem dJ2_getChars_ba4f3_20 : decode cJ2_getChars_ba4f3 20 = .ok (.ineg, 1) := by decide +kernel
theorem dJ2_getChars_ba4f3_21 : decode cJ2_getChars_ba4f3 21 = .ok (.istore_n 0, 1) := by decide +kernel
theorem dJ2_getChars_ba4f3_22 : decode cJ2_getChars_ba4f3 22 = .ok (.iload_n 0, 1) := by decide +kernel
theorem dJ2_getChars_ba4f3_23 : decode cJ2_getChars_ba4f3 23 = .ok (.bipush (-100), 2) := by decide +kernel
theorem dJ2_getChars_ba4f3_25 : decode cJ2_getChars_ba4f3 25 = .ok (.if_icmp .gt 51, 3) := by decide +kernel
theorem dJ2_getChars_ba4f3_28 : decode cJ2_getChars_ba4f3 28 = .ok (.iload_n 0, 1) := by decide +kernel
theorem dJ2_getChars_ba4f3_29 : decode cJ2_getChars_ba4f3 29 = .ok (.bipush 100, 2) := by decide +kernel
theorem dJ2_getChars_ba4f3_31 : decode cJ2_getChars_ba4f3 31 = .ok (.idiv, 1) := by decide +kernel
theorem dJ2_getChars_ba4f3_32 : decode cJ2_getChars_ba4f3 32 = .ok (.istore_n 3, 1) := by decide +kernel
theorem dJ2_getChars_ba4f3_33 : decode cJ2_getChars_ba4f3 33 = .ok (.iload_n 3, 1) := by decide +kernel
theorem dJ2_getChars_ba4f3_34 : decode cJ2_getChars_ba4f3 34 = .ok (.bipush 100, 2) := by decide +kernel
theorem dJ2_getChars_ba4f3_36 : decode cJ2_getChars_ba4f3 36 = .ok (.imul, 1) := by decide +kernel
theorem dJ2_getChars_ba4f3_37 : decode cJ2_getChars_ba4f3 37 = .ok (.iload_n 0, 1) := by decide +kernel
theorem dJ2_getChars_ba4f3_38 : decode cJ2_getChars_ba4f3 38 = .ok (.isub, 1) := by decide +kernel
theorem dJ2_getChars_ba4f3_39 : decode cJ2_getChars_ba4f3 39 = .ok (.istore 4, 2) := by decide +kernel
theorem dJ2_getChars_ba4f3_41 : decode cJ2_getChars_ba4f3 41 = .ok (.iload_n 3, 1) := by decide +kernel
theorem dJ2_getChars_ba4f3_42 : decode cJ2_getChars_ba4f3 42 = .ok (.istore_n 0, 1) := by decide +kernel
theorem dJ2_getChars_ba4f3_43 : decode cJ2_getChars_ba4f3 43 = .ok (.aload_n 2, 1) := by decide +kernel
theorem dJ2_getChars_ba4f3_44 : decode cJ2_getChars_ba4f3 44 = .ok (.iinc 5 (-1), 3) := by decide +kernel
theorem dJ2_getChars_ba4f3_47 : decode cJ2_getChars_ba4f3 47 = .ok (.iload 5, 2) := by decide +kernel
theorem dJ2_getChars_ba4f3_49 : decode cJ2_getChars_ba4f3 49 = .ok (.getstatic 403, 3) := by decide +kernel
theorem dJ2_getChars_ba4f3_52 : decode cJ2_getChars_ba4f3 52 = .ok (.iload 4, 2) := by decide +kernel
theorem dJ2_getChars_ba4f3_54 : decode cJ2_getChars_ba4f3 54 = .ok (.baload, 1) := by decide +kernel
theorem dJ2_getChars_ba4f3_55 : decode cJ2_getChars_ba4f3 55 = .ok (.invokestatic 111, 3) := by decide +kernel
theorem dJ2_getChars_ba4f3_58 : decode cJ2_getChars_ba4f3 58 = .ok (.aload_n 2, 1) := by decide +kernel
theorem dJ2_getChars_ba4f3_59 : decode cJ2_getChars_ba4f3 59 = .ok (.iinc 5 (-1), 3) := by decide +kernel
theorem dJ2_getChars_ba4f3_62 : decode cJ2_getChars_ba4f3 62 = .ok (.iload 5, 2) := by decide +kernel
theorem dJ2_getChars_ba4f3_64 : decode cJ2_getChars_ba4f3 64 = .ok (.getstatic 407, 3) := by decide +kernel
theorem dJ2_getChars_ba4f3_67 : decode cJ2_getChars_ba4f3 67 = .ok (.iload 4, 2) := by decide +kernel
theorem dJ2_getChars_ba4f3_69 : decode cJ2_getChars_ba4f3 69 = .ok (.baload, 1) := by decide +kernel
theorem dJ2_getChars_ba4f3_70 : decode cJ2_getChars_ba4f3 70 = .ok (.invokestatic 111, 3) := by decide +kernel
theorem dJ2_getChars_ba4f3_73 : decode cJ2_getChars_ba4f3 73 = .ok (.goto (-51), 3) := by decide +kernel
theorem dJ2_getChars_ba4f3_76 : decode cJ2_getChars_ba4f3 76 = .ok (.aload_n 2, 1) := by decide +kernel
theorem dJ2_getChars_ba4f3_77 : decode cJ2_getChars_ba4f3 77 = .ok (.iinc 5 (-1), 3) := by decide +kernel
theorem dJ2_getChars_ba4f3_80 : decode cJ2_getChars_ba4f3 80 = .ok (.iload 5, 2) := by decide +kernel
theorem dJ2_getChars_ba4f3_82 : decode cJ2_getChars_ba4f3 82 = .ok (.getstatic 403, 3) := by decide +kernel
theorem dJ2_getChars_ba4f3_85 : decode cJ2_getChars_ba4f3 85 = .ok (.iload_n 0, 1) := by decide +kernel
theorem dJ2_getChars_ba4f3_86 : decode cJ2_getChars_ba4f3 86 = .ok (.ineg, 1) := by decide +kernel
theorem dJ2_getChars_ba4f3_87 : decode cJ2_getChars_ba4f3 87 = .ok (.baload, 1) := by decide +kernel
theorem dJ2_getChars_ba4f3_88 : decode cJ2_getChars_ba4f3 88 = .ok (.invokestatic 111, 3) := by decide +kernel
theorem dJ2_getChars_ba4f3_91 : decode cJ2_getChars_ba4f3 91 = .ok (.iload_n 0, 1) := by decide +kernel
theorem dJ2_getChars_ba4f3_92 : decode cJ2_getChars_ba4f3 92 = .ok (.bipush (-9), 2) := by decide +kernel
theorem dJ2_getChars_ba4f3_94 : decode cJ2_getChars_ba4f3 94 = .ok (.if_icmp .ge 18, 3) := by decide +kernel
theorem dJ2_getChars_ba4f3_97 : decode cJ2_getChars_ba4f3 97 = .ok (.aload_n 2, 1) := by decide +kernel
theorem dJ2_getChars_ba4f3_98 : decode cJ2_getChars_ba4f3 98 = .ok (.iinc 5 (-1), 3) := by decide +kernel
theorem dJ2_getChars_ba4f3_101 : decode cJ2_getChars_ba4f3 101 = .ok (.iload 5, 2) := by decide +kernel
theorem dJ2_getChars_ba4f3_103 : decode cJ2_getChars_ba4f3 103 = .ok (.getstatic 407, 3) := by decide +kernel
theorem dJ2_getChars_ba4f3_106 : decode cJ2_getChars_ba4f3 106 = .ok (.iload_n 0, 1) := by decide +kernel
theorem dJ2_getChars_ba4f3_107 : decode cJ2_getChars_ba4f3 107 = .ok (.ineg, 1) := by decide +kernel
theorem dJ2_getChars_ba4f3_108 : decode cJ2_getChars_ba4f3 108 = .ok (.baload, 1) := by decide +kernel
theorem dJ2_getChars_ba4f3_109 : decode cJ2_getChars_ba4f3 109 = .ok (.invokestatic 111, 3) := by decide +kernel
theorem dJ2_getChars_ba4f3_112 : decode cJ2_getChars_ba4f3 112 = .ok (.iload 6, 2) := by decide +kernel
theorem dJ2_getChars_ba4f3_114 : decode cJ2_getChars_ba4f3 114 = .ok (.ifCond .eq 14, 3) := by decide +kernel
theorem dJ2_getChars_ba4f3_117 : decode cJ2_getChars_ba4f3 117 = .ok (.aload_n 2, 1) := by decide +kernel
theorem dJ2_getChars_ba4f3_118 : decode cJ2_getChars_ba4f3 118 = .ok (.iinc 5 (-1), 3) := by decide +kernel
theorem dJ2_getChars_ba4f3_121 : decode cJ2_getChars_ba4f3 121 = .ok (.iload 5, 2) := by decide +kernel
theorem dJ2_getChars_ba4f3_123 : decode cJ2_getChars_ba4f3 123 = .ok (.bipush 45, 2) := by decide +kernel
theorem dJ2_getChars_ba4f3_125 : decode cJ2_getChars_ba4f3 125 = .ok (.invokestatic 111, 3) := by decide +kernel
theorem dJ2_getChars_ba4f3_128 : decode cJ2_getChars_ba4f3 128 = .ok (.iload 5, 2) := by decide +kernel
theorem dJ2_getChars_ba4f3_130 : decode cJ2_getChars_ba4f3 130 = .ok (.ireturn, 1) := by decide +kernel
theorem dJ2_checkIndex_2214a_0 : decode cJ2_checkIndex_2214a 0 = .ok (.iload_n 0, 1) := by decide +kernel
theorem dJ2_checkIndex_2214a_1 : decode cJ2_checkIndex_2214a 1 = .ok (.aload_n 1, 1) := by decide +kernel
theorem dJ2_checkIndex_2214a_2 : decode cJ2_checkIndex_2214a 2 = .ok (.invokestatic 48, 3) := by decide +kernel
theorem dJ2_checkIndex_2214a_5 : decode cJ2_checkIndex_2214a 5 = .ok (.invokestatic 414, 3) := by decide +kernel
theorem dJ2_checkIndex_2214a_8 : decode cJ2_checkIndex_2214a 8 = .ok (.return_, 1) := by decide +kernel
theorem dJ2_checkBoundsBeginEnd_d044e_0 : decode cJ2_checkBoundsBeginEnd_d044e 0 = .ok (.iload_n 0, 1) := by decide +kernel
theorem dJ2_checkBoundsBeginEnd_d044e_1 : decode cJ2_checkBoundsBeginEnd_d044e 1 = .ok (.iload_n 1, 1) := by decide +kernel
theorem dJ2_checkBoundsBeginEnd_d044e_2 : decode cJ2_checkBoundsBeginEnd_d044e 2 = .ok (.aload_n 2, 1) := by decide +kernel
theorem dJ2_checkBoundsBeginEnd_d044e_3 : decode cJ2_checkBoundsBeginEnd_d044e 3 = .ok (.invokestatic 48, 3) := by decide +kernel
theorem dJ2_checkBoundsBeginEnd_d044e_6 : decode cJ2_checkBoundsBeginEnd_d044e 6 = .ok (.invokestatic 241, 3) := by decide +kernel
theorem dJ2_checkBoundsBeginEnd_d044e_9 : decode cJ2_checkBoundsBeginEnd_d044e 9 = .ok (.return_, 1) := by decide +kernel
theorem dJ2_checkBoundsOffCount_d044e_0 : decode cJ2_checkBoundsOffCount_d044e 0 = .ok (.iload_n 0, 1) := by decide +kernel
theorem dJ2_checkBoundsOffCount_d044e_1 : decode cJ2_checkBoundsOffCount_d044e 1 = .ok (.iload_n 1, 1) := by decide +kernel
theorem dJ2_checkBoundsOffCount_d044e_2 : decode cJ2_checkBoundsOffCount_d044e 2 = .ok (.aload_n 2, 1) := by decide +kernel
theorem dJ2_checkBoundsOffCount_d044e_3 : decode cJ2_checkBoundsOffCount_d044e 3 = .ok (.invokestatic 48, 3) := by decide +kernel
theorem dJ2_checkBoundsOffCount_d044e_6 : decode cJ2_checkBoundsOffCount_d044e 6 = .ok (.invokestatic 419, 3) := by decide +kernel
theorem dJ2_checkBoundsOffCount_d044e_9 : decode cJ2_checkBoundsOffCount_d044e 9 = .ok (.pop, 1) := by decide +kernel
theorem dJ2_checkBoundsOffCount_d044e_10 : decode cJ2_checkBoundsOffCount_d044e 10 = .ok (.return_, 1) := by decide +kernel
theorem dJ7_rangeCheck_23922_0 : decode cJ7_rangeCheck_23922 0 = .ok (.iload_n 1, 1) := by decide +kernel
theorem dJ7_rangeCheck_23922_1 : decode cJ7_rangeCheck_23922 1 = .ok (.iload_n 2, 1) := by decide +kernel
theorem dJ7_rangeCheck_23922_2 : decode cJ7_rangeCheck_23922 2 = .ok (.if_icmp .le 44, 3) := by decide +kernel
theorem dJ7_rangeCheck_23922_5 : decode cJ7_rangeCheck_23922 5 = .ok (.new 43, 3) := by decide +kernel
theorem dJ7_rangeCheck_23922_8 : decode cJ7_rangeCheck_23922 8 = .ok (.dup, 1) := by decide +kernel
theorem dJ7_rangeCheck_23922_9 : decode cJ7_rangeCheck_23922 9 = .ok (.new 45, 3) := by decide +kernel
theorem dJ7_rangeCheck_23922_12 : decode cJ7_rangeCheck_23922 12 = .ok (.dup, 1) := by decide +kernel
theorem dJ7_rangeCheck_23922_13 : decode cJ7_rangeCheck_23922 13 = .ok (.invokespecial 47, 3) := by decide +kernel
theorem dJ7_rangeCheck_23922_16 : decode cJ7_rangeCheck_23922 16 = .ok (.ldc 48, 2) := by decide +kernel
theorem dJ7_rangeCheck_23922_18 : decode cJ7_rangeCheck_23922 18 = .ok (.invokevirtual 50, 3) := by decide +kernel
theorem dJ7_rangeCheck_23922_21 : decode cJ7_rangeCheck_23922 21 = .ok (.iload_n 1, 1) := by decide +kernel
theorem dJ7_rangeCheck_23922_22 : decode cJ7_rangeCheck_23922 22 = .ok (.invokevirtual 54, 3) := by decide +kernel
theorem dJ7_rangeCheck_23922_25 : decode cJ7_rangeCheck_23922 25 = .ok (.ldc 57, 2) := by decide +kernel
theorem dJ7_rangeCheck_23922_27 : decode cJ7_rangeCheck_23922 27 = .ok (.invokevirtual 50, 3) := by decide +kernel
theorem dJ7_rangeCheck_23922_30 : decode cJ7_rangeCheck_23922 30 = .ok (.iload_n 2, 1) := by decide +kernel
theorem dJ7_rangeCheck_23922_31 : decode cJ7_rangeCheck_23922 31 = .ok (.invokevirtual 54, 3) := by decide +kernel
theorem dJ7_rangeCheck_23922_34 : decode cJ7_rangeCheck_23922 34 = .ok (.ldc 59, 2) := by decide +kernel
theorem dJ7_rangeCheck_23922_36 : decode cJ7_rangeCheck_23922 36 = .ok (.invokevirtual 50, 3) := by decide +kernel
theorem dJ7_rangeCheck_23922_39 : decode cJ7_rangeCheck_23922 39 = .ok (.invokevirtual 61, 3) := by decide +kernel
theorem dJ7_rangeCheck_23922_42 : decode cJ7_rangeCheck_23922 42 = .ok (.invokespecial 65, 3) := by decide +kernel
theorem dJ7_rangeCheck_23922_45 : decode cJ7_rangeCheck_23922 45 = .ok (.athrow, 1) := by decide +kernel
theorem dJ7_rangeCheck_23922_46 : decode cJ7_rangeCheck_23922 46 = .ok (.iload_n 1, 1) := by decide +kernel
theorem dJ7_rangeCheck_23922_47 : decode cJ7_rangeCheck_23922 47 = .ok (.ifCond .ge 12, 3) := by decide +kernel
theorem dJ7_rangeCheck_23922_50 : decode cJ7_rangeCheck_23922 50 = .ok (.new 68, 3) := by decide +kernel
theorem dJ7_rangeCheck_23922_53 : decode cJ7_rangeCheck_23922 53 = .ok (.dup, 1) := by decide +kernel
theorem dJ7_rangeCheck_23922_54 : decode cJ7_rangeCheck_23922 54 = .ok (.iload_n 1, 1) := by decide +kernel
theorem dJ7_rangeCheck_23922_55 : decode cJ7_rangeCheck_23922 55 = .ok (.invokespecial 70, 3) := by decide +kernel
theorem dJ7_rangeCheck_23922_58 : decode cJ7_rangeCheck_23922 58 = .ok (.athrow, 1) := by decide +kernel
theorem dJ7_rangeCheck_23922_59 : decode cJ7_rangeCheck_23922 59 = .ok (.iload_n 2, 1) := by decide +kernel
theorem dJ7_rangeCheck_23922_60 : decode cJ7_rangeCheck_23922 60 = .ok (.iload_n 0, 1) := by decide +kernel
theorem dJ7_rangeCheck_23922_61 : decode cJ7_rangeCheck_23922 61 = .ok (.if_icmp .le 12, 3) := by decide +kernel
theorem dJ7_rangeCheck_23922_64 : decode cJ7_rangeCheck_23922 64 = .ok (.new 68, 3) := by decide +kernel
theorem dJ7_rangeCheck_23922_67 : decode cJ7_rangeCheck_23922 67 = .ok (.dup, 1) := by decide +kernel
theorem dJ7_rangeCheck_23922_68 : decode cJ7_rangeCheck_23922 68 = .ok (.iload_n 2, 1) := by decide +kernel
theorem dJ7_rangeCheck_23922_69 : decode cJ7_rangeCheck_23922 69 = .ok (.invokespecial 70, 3) := by decide +kernel
theorem dJ7_rangeCheck_23922_72 : decode cJ7_rangeCheck_23922 72 = .ok (.athrow, 1) := by decide +kernel
theorem dJ7_rangeCheck_23922_73 : decode cJ7_rangeCheck_23922 73 = .ok (.return_, 1) := by decide +kernel
theorem dJ7_fill_eb02e_0 : decode cJ7_fill_eb02e 0 = .ok (.aload_n 0, 1) := by decide +kernel
theorem dJ7_fill_eb02e_1 : decode cJ7_fill_eb02e 1 = .ok (.arraylength, 1) := by decide +kernel
theorem dJ7_fill_eb02e_2 : decode cJ7_fill_eb02e 2 = .ok (.iload_n 1, 1) := by decide +kernel
theorem dJ7_fill_eb02e_3 : decode cJ7_fill_eb02e 3 = .ok (.iload_n 2, 1) := by decide +kernel
theorem dJ7_fill_eb02e_4 : decode cJ7_fill_eb02e 4 = .ok (.invokestatic 13, 3) := by decide +kernel
theorem dJ7_fill_eb02e_7 : decode cJ7_fill_eb02e 7 = .ok (.iload_n 1, 1) := by decide +kernel
theorem dJ7_fill_eb02e_8 : decode cJ7_fill_eb02e 8 = .ok (.istore 4, 2) := by decide +kernel
theorem dJ7_fill_eb02e_10 : decode cJ7_fill_eb02e 10 = .ok (.iload 4, 2) := by decide +kernel
theorem dJ7_fill_eb02e_12 : decode cJ7_fill_eb02e 12 = .ok (.iload_n 2, 1) := by decide +kernel
theorem dJ7_fill_eb02e_13 : decode cJ7_fill_eb02e 13 = .ok (.if_icmp .ge 14, 3) := by decide +kernel
theorem dJ7_fill_eb02e_16 : decode cJ7_fill_eb02e 16 = .ok (.aload_n 0, 1) := by decide +kernel
theorem dJ7_fill_eb02e_17 : decode cJ7_fill_eb02e 17 = .ok (.iload 4, 2) := by decide +kernel
theorem dJ7_fill_eb02e_19 : decode cJ7_fill_eb02e 19 = .ok (.iload_n 3, 1) := by decide +kernel
theorem dJ7_fill_eb02e_20 : decode cJ7_fill_eb02e 20 = .ok (.bastore, 1) := by decide +kernel
theorem dJ7_fill_eb02e_21 : decode cJ7_fill_eb02e 21 = .ok (.iinc 4 1, 3) := by decide +kernel
theorem dJ7_fill_eb02e_24 : decode cJ7_fill_eb02e 24 = .ok (.goto (-14), 3) := by decide +kernel
theorem dJ7_fill_eb02e_27 : decode cJ7_fill_eb02e 27 = .ok (.return_, 1) := by decide +kernel
theorem dJ7_copyOf_9075b_0 : decode cJ7_copyOf_9075b 0 = .ok (.iload_n 1, 1) := by decide +kernel
theorem dJ7_copyOf_9075b_1 : decode cJ7_copyOf_9075b 1 = .ok (.aload_n 0, 1) := by decide +kernel
theorem dJ7_copyOf_9075b_2 : decode cJ7_copyOf_9075b 2 = .ok (.arraylength, 1) := by decide +kernel
theorem dJ7_copyOf_9075b_3 : decode cJ7_copyOf_9075b 3 = .ok (.if_icmp .ne 11, 3) := by decide +kernel
theorem dJ7_copyOf_9075b_6 : decode cJ7_copyOf_9075b 6 = .ok (.aload_n 0, 1) := by decide +kernel
theorem dJ7_copyOf_9075b_7 : decode cJ7_copyOf_9075b 7 = .ok (.invokevirtual 310, 3) := by decide +kernel
theorem dJ7_copyOf_9075b_10 : decode cJ7_copyOf_9075b 10 = .ok (.checkcast 311, 3) := by decide +kernel
theorem dJ7_copyOf_9075b_13 : decode cJ7_copyOf_9075b 13 = .ok (.areturn, 1) := by decide +kernel
theorem dJ7_copyOf_9075b_14 : decode cJ7_copyOf_9075b 14 = .ok (.iload_n 1, 1) := by decide +kernel
theorem dJ7_copyOf_9075b_15 : decode cJ7_copyOf_9075b 15 = .ok (.newarray .byte, 2) := by decide +kernel
theorem dJ7_copyOf_9075b_17 : decode cJ7_copyOf_9075b 17 = .ok (.astore_n 2, 1) := by decide +kernel
theorem dJ7_copyOf_9075b_18 : decode cJ7_copyOf_9075b 18 = .ok (.aload_n 0, 1) := by decide +kernel
theorem dJ7_copyOf_9075b_19 : decode cJ7_copyOf_9075b 19 = .ok (.iconst 0, 1) := by decide +kernel
theorem dJ7_copyOf_9075b_20 : decode cJ7_copyOf_9075b 20 = .ok (.aload_n 2, 1) := by decide +kernel
theorem dJ7_copyOf_9075b_21 : decode cJ7_copyOf_9075b 21 = .ok (.iconst 0, 1) := by decide +kernel
theorem dJ7_copyOf_9075b_22 : decode cJ7_copyOf_9075b 22 = .ok (.aload_n 0, 1) := by decide +kernel
theorem dJ7_copyOf_9075b_23 : decode cJ7_copyOf_9075b 23 = .ok (.arraylength, 1) := by decide +kernel
theorem dJ7_copyOf_9075b_24 : decode cJ7_copyOf_9075b 24 = .ok (.iload_n 1, 1) := by decide +kernel
theorem dJ7_copyOf_9075b_25 : decode cJ7_copyOf_9075b 25 = .ok (.invokestatic 304, 3) := by decide +kernel
theorem dJ7_copyOf_9075b_28 : decode cJ7_copyOf_9075b 28 = .ok (.invokestatic 150, 3) := by decide +kernel
theorem dJ7_copyOf_9075b_31 : decode cJ7_copyOf_9075b 31 = .ok (.aload_n 2, 1) := by decide +kernel
theorem dJ7_copyOf_9075b_32 : decode cJ7_copyOf_9075b 32 = .ok (.areturn, 1) := by decide +kernel
theorem dJ7_checkLength_df160_0 : decode cJ7_checkLength_df160 0 = .ok (.iload_n 1, 1) := by decide +kernel
theorem dJ7_checkLength_df160_1 : decode cJ7_checkLength_df160 1 = .ok (.iload_n 0, 1) := by decide +kernel
theorem dJ7_checkLength_df160_2 : decode cJ7_checkLength_df160 2 = .ok (.if_icmp .ge 35, 3) := by decide +kernel
theorem dJ7_checkLength_df160_5 : decode cJ7_checkLength_df160 5 = .ok (.new 43, 3) := by decide +kernel
theorem dJ7_checkLength_df160_8 : decode cJ7_checkLength_df160 8 = .ok (.dup, 1) := by decide +kernel
theorem dJ7_checkLength_df160_9 : decode cJ7_checkLength_df160 9 = .ok (.new 45, 3) := by decide +kernel
theorem dJ7_checkLength_df160_12 : decode cJ7_checkLength_df160 12 = .ok (.dup, 1) := by decide +kernel
theorem dJ7_checkLength_df160_13 : decode cJ7_checkLength_df160 13 = .ok (.invokespecial 47, 3) := by decide +kernel
theorem dJ7_checkLength_df160_16 : decode cJ7_checkLength_df160 16 = .ok (.iload_n 0, 1) := by decide +kernel
theorem dJ7_checkLength_df160_17 : decode cJ7_checkLength_df160 17 = .ok (.invokevirtual 54, 3) := by decide +kernel
theorem dJ7_checkLength_df160_20 : decode cJ7_checkLength_df160 20 = .ok (.ldc_w 337, 3) := by decide +kernel
theorem dJ7_checkLength_df160_23 : decode cJ7_checkLength_df160 23 = .ok (.invokevirtual 50, 3) := by decide +kernel
theorem dJ7_checkLength_df160_26 : decode cJ7_checkLength_df160 26 = .ok (.iload_n 1, 1) := by decide +kernel
theorem dJ7_checkLength_df160_27 : decode cJ7_checkLength_df160 27 = .ok (.invokevirtual 54, 3) := by decide +kernel
theorem dJ7_checkLength_df160_30 : decode cJ7_checkLength_df160 30 = .ok (.invokevirtual 61, 3) := by decide +kernel
theorem dJ7_checkLength_df160_33 : decode cJ7_checkLength_df160 33 = .ok (.invokespecial 65, 3) := by decide +kernel
theorem dJ7_checkLength_df160_36 : decode cJ7_checkLength_df160 36 = .ok (.athrow, 1) := by decide +kernel
theorem dJ7_checkLength_df160_37 : decode cJ7_checkLength_df160 37 = .ok (.return_, 1) := by decide +kernel
theorem dJ7_copyOfRange_39247_0 : decode cJ7_copyOfRange_39247 0 = .ok (.iload_n 1, 1) := by decide +kernel
theorem dJ7_copyOfRange_39247_1 : decode cJ7_copyOfRange_39247 1 = .ok (.ifCond .ne 9, 3) := by decide +kernel
theorem dJ7_copyOfRange_39247_4 : decode cJ7_copyOfRange_39247 4 = .ok (.iload_n 2, 1) := by decide +kernel
theorem dJ7_copyOfRange_39247_5 : decode cJ7_copyOfRange_39247 5 = .ok (.aload_n 0, 1) := by decide +kernel
theorem dJ7_copyOfRange_39247_6 : decode cJ7_copyOfRange_39247 6 = .ok (.arraylength, 1) := by decide +kernel
theorem dJ7_copyOfRange_39247_7 : decode cJ7_copyOfRange_39247 7 = .ok (.if_icmp .eq 10, 3) := by decide +kernel
theorem dJ7_copyOfRange_39247_10 : decode cJ7_copyOfRange_39247 10 = .ok (.aload_n 0, 1) := by decide +kernel
theorem dJ7_copyOfRange_39247_11 : decode cJ7_copyOfRange_39247 11 = .ok (.iload_n 1, 1) := by decide +kernel
theorem dJ7_copyOfRange_39247_12 : decode cJ7_copyOfRange_39247 12 = .ok (.iload_n 2, 1) := by decide +kernel
theorem dJ7_copyOfRange_39247_13 : decode cJ7_copyOfRange_39247 13 = .ok (.invokestatic 339, 3) := by decide +kernel
theorem dJ7_copyOfRange_39247_16 : decode cJ7_copyOfRange_39247 16 = .ok (.areturn, 1) := by decide +kernel
theorem dJ7_copyOfRange_39247_17 : decode cJ7_copyOfRange_39247 17 = .ok (.aload_n 0, 1) := by decide +kernel
theorem dJ7_copyOfRange_39247_18 : decode cJ7_copyOfRange_39247 18 = .ok (.invokevirtual 310, 3) := by decide +kernel
theorem dJ7_copyOfRange_39247_21 : decode cJ7_copyOfRange_39247 21 = .ok (.checkcast 311, 3) := by decide +kernel
theorem dJ7_copyOfRange_39247_24 : decode cJ7_copyOfRange_39247 24 = .ok (.areturn, 1) := by decide +kernel
theorem dJ7_copyOfRangeByte_39247_0 : decode cJ7_copyOfRangeByte_39247 0 = .ok (.iload_n 1, 1) := by decide +kernel
theorem dJ7_copyOfRangeByte_39247_1 : decode cJ7_copyOfRangeByte_39247 1 = .ok (.iload_n 2, 1) := by decide +kernel
theorem dJ7_copyOfRangeByte_39247_2 : decode cJ7_copyOfRangeByte_39247 2 = .ok (.invokestatic 343, 3) := by decide +kernel
theorem dJ7_copyOfRangeByte_39247_5 : decode cJ7_copyOfRangeByte_39247 5 = .ok (.iload_n 2, 1) := by decide +kernel
theorem dJ7_copyOfRangeByte_39247_6 : decode cJ7_copyOfRangeByte_39247 6 = .ok (.iload_n 1, 1) := by decide +kernel
theorem dJ7_copyOfRangeByte_39247_7 : decode cJ7_copyOfRangeByte_39247 7 = .ok (.isub, 1) := by decide +kernel
theorem dJ7_copyOfRangeByte_39247_8 : decode cJ7_copyOfRangeByte_39247 8 = .ok (.istore_n 3, 1) := by decide +kernel
theorem dJ7_copyOfRangeByte_39247_9 : decode cJ7_copyOfRangeByte_39247 9 = .ok (.iload_n 3, 1) := by decide +kernel
theorem dJ7_copyOfRangeByte_39247_10 : decode cJ7_copyOfRangeByte_39247 10 = .ok (.newarray .byte, 2) := by decide +kernel
theorem dJ7_copyOfRangeByte_39247_12 : decode cJ7_copyOfRangeByte_39247 12 = .ok (.astore 4, 2) := by decide +kernel
theorem dJ7_copyOfRangeByte_39247_14 : decode cJ7_copyOfRangeByte_39247 14 = .ok (.aload_n 0, 1) := by decide +kernel
theorem dJ7_copyOfRangeByte_39247_15 : decode cJ7_copyOfRangeByte_39247 15 = .ok (.iload_n 1, 1) := by decide +kernel
theorem dJ7_copyOfRangeByte_39247_16 : decode cJ7_copyOfRangeByte_39247 16 = .ok (.aload 4, 2) := by decide +kernel
theorem dJ7_copyOfRangeByte_39247_18 : decode cJ7_copyOfRangeByte_39247 18 = .ok (.iconst 0, 1) := by decide +kernel
theorem dJ7_copyOfRangeByte_39247_19 : decode cJ7_copyOfRangeByte_39247 19 = .ok (.aload_n 0, 1) := by decide +kernel
theorem dJ7_copyOfRangeByte_39247_20 : decode cJ7_copyOfRangeByte_39247 20 = .ok (.arraylength, 1) := by decide +kernel
theorem dJ7_copyOfRangeByte_39247_21 : decode cJ7_copyOfRangeByte_39247 21 = .ok (.iload_n 1, 1) := by decide +kernel
theorem dJ7_copyOfRangeByte_39247_22 : decode cJ7_copyOfRangeByte_39247 22 = .ok (.isub, 1) := by decide +kernel
theorem dJ7_copyOfRangeByte_39247_23 : decode cJ7_copyOfRangeByte_39247 23 = .ok (.iload_n 3, 1) := by decide +kernel
theorem dJ7_copyOfRangeByte_39247_24 : decode cJ7_copyOfRangeByte_39247 24 = .ok (.invokestatic 304, 3) := by decide +kernel
theorem dJ7_copyOfRangeByte_39247_27 : decode cJ7_copyOfRangeByte_39247 27 = .ok (.invokestatic 150, 3) := by decide +kernel
theorem dJ7_copyOfRangeByte_39247_30 : decode cJ7_copyOfRangeByte_39247 30 = .ok (.aload 4, 2) := by decide +kernel
theorem dJ7_copyOfRangeByte_39247_32 : decode cJ7_copyOfRangeByte_39247 32 = .ok (.areturn, 1) := by decide +kernel
theorem dJ8_newLength_cabcc_0 : decode cJ8_newLength_cabcc 0 = .ok (.iload_n 0, 1) := by decide +kernel
theorem dJ8_newLength_cabcc_1 : decode cJ8_newLength_cabcc 1 = .ok (.iload_n 1, 1) := by decide +kernel
theorem dJ8_newLength_cabcc_2 : decode cJ8_newLength_cabcc 2 = .ok (.iload_n 2, 1) := by decide +kernel
theorem dJ8_newLength_cabcc_3 : decode cJ8_newLength_cabcc 3 = .ok (.invokestatic 194, 3) := by decide +kernel
theorem dJ8_newLength_cabcc_6 : decode cJ8_newLength_cabcc 6 = .ok (.iadd, 1) := by decide +kernel
theorem dJ8_newLength_cabcc_7 : decode cJ8_newLength_cabcc 7 = .ok (.istore_n 3, 1) := by decide +kernel
theorem dJ8_newLength_cabcc_8 : decode cJ8_newLength_cabcc 8 = .ok (.iconst 0, 1) := by decide +kernel
theorem dJ8_newLength_cabcc_9 : decode cJ8_newLength_cabcc 9 = .ok (.iload_n 3, 1) := by decide +kernel
theorem dJ8_newLength_cabcc_10 : decode cJ8_newLength_cabcc 10 = .ok (.if_icmp .ge 11, 3) := by decide +kernel
theorem dJ8_newLength_cabcc_13 : decode cJ8_newLength_cabcc 13 = .ok (.iload_n 3, 1) := by decide +kernel
theorem dJ8_newLength_cabcc_14 : decode cJ8_newLength_cabcc 14 = .ok (.ldc 200, 2) := by decide +kernel
theorem dJ8_newLength_cabcc_16 : decode cJ8_newLength_cabcc 16 = .ok (.if_icmp .gt 5, 3) := by decide +kernel
theorem dJ8_newLength_cabcc_19 : decode cJ8_newLength_cabcc 19 = .ok (.iload_n 3, 1) := by decide +kernel
theorem dJ8_newLength_cabcc_20 : decode cJ8_newLength_cabcc 20 = .ok (.ireturn, 1) := by decide +kernel
theorem dJ8_newLength_cabcc_21 : decode cJ8_newLength_cabcc 21 = .ok (.iload_n 0, 1) := by decide +kernel
theorem dJ8_newLength_cabcc_22 : decode cJ8_newLength_cabcc 22 = .ok (.iload_n 1, 1) := by decide +kernel
theorem dJ8_newLength_cabcc_23 : decode cJ8_newLength_cabcc 23 = .ok (.invokestatic 201, 3) := by decide +kernel
theorem dJ8_newLength_cabcc_26 : decode cJ8_newLength_cabcc 26 = .ok (.ireturn, 1) := by decide +kernel
theorem dJ8_hugeLength_7cf53_0 : decode cJ8_hugeLength_7cf53 0 = .ok (.iload_n 0, 1) := by decide +kernel
theorem dJ8_hugeLength_7cf53_1 : decode cJ8_hugeLength_7cf53 1 = .ok (.iload_n 1, 1) := by decide +kernel
theorem dJ8_hugeLength_7cf53_2 : decode cJ8_hugeLength_7cf53 2 = .ok (.iadd, 1) := by decide +kernel
theorem dJ8_hugeLength_7cf53_3 : decode cJ8_hugeLength_7cf53 3 = .ok (.istore_n 2, 1) := by decide +kernel
theorem dJ8_hugeLength_7cf53_4 : decode cJ8_hugeLength_7cf53 4 = .ok (.iload_n 2, 1) := by decide +kernel
theorem dJ8_hugeLength_7cf53_5 : decode cJ8_hugeLength_7cf53 5 = .ok (.ifCond .ge 44, 3) := by decide +kernel
theorem dJ8_hugeLength_7cf53_8 : decode cJ8_hugeLength_7cf53 8 = .ok (.new 204, 3) := by decide +kernel
theorem dJ8_hugeLength_7cf53_11 : decode cJ8_hugeLength_7cf53 11 = .ok (.dup, 1) := by decide +kernel
theorem dJ8_hugeLength_7cf53_12 : decode cJ8_hugeLength_7cf53 12 = .ok (.new 89, 3) := by decide +kernel
theorem dJ8_hugeLength_7cf53_15 : decode cJ8_hugeLength_7cf53 15 = .ok (.dup, 1) := by decide +kernel
theorem dJ8_hugeLength_7cf53_16 : decode cJ8_hugeLength_7cf53 16 = .ok (.invokespecial 91, 3) := by decide +kernel
theorem dJ8_hugeLength_7cf53_19 : decode cJ8_hugeLength_7cf53 19 = .ok (.ldc 206, 2) := by decide +kernel
theorem dJ8_hugeLength_7cf53_21 : decode cJ8_hugeLength_7cf53 21 = .ok (.invokevirtual 94, 3) := by decide +kernel
theorem dJ8_hugeLength_7cf53_24 : decode cJ8_hugeLength_7cf53 24 = .ok (.iload_n 0, 1) := by decide +kernel
theorem dJ8_hugeLength_7cf53_25 : decode cJ8_hugeLength_7cf53 25 = .ok (.invokevirtual 98, 3) := by decide +kernel
theorem dJ8_hugeLength_7cf53_28 : decode cJ8_hugeLength_7cf53 28 = .ok (.ldc 208, 2) := by decide +kernel
theorem dJ8_hugeLength_7cf53_30 : decode cJ8_hugeLength_7cf53 30 = .ok (.invokevirtual 94, 3) := by decide +kernel
theorem dJ8_hugeLength_7cf53_33 : decode cJ8_hugeLength_7cf53 33 = .ok (.iload_n 1, 1) := by decide +kernel
theorem dJ8_hugeLength_7cf53_34 : decode cJ8_hugeLength_7cf53 34 = .ok (.invokevirtual 98, 3) := by decide +kernel
theorem dJ8_hugeLength_7cf53_37 : decode cJ8_hugeLength_7cf53 37 = .ok (.ldc 210, 2) := by decide +kernel
theorem dJ8_hugeLength_7cf53_39 : decode cJ8_hugeLength_7cf53 39 = .ok (.invokevirtual 94, 3) := by decide +kernel
theorem dJ8_hugeLength_7cf53_42 : decode cJ8_hugeLength_7cf53 42 = .ok (.invokevirtual 101, 3) := by decide +kernel
theorem dJ8_hugeLength_7cf53_45 : decode cJ8_hugeLength_7cf53 45 = .ok (.invokespecial 212, 3) := by decide +kernel
theorem dJ8_hugeLength_7cf53_48 : decode cJ8_hugeLength_7cf53 48 = .ok (.athrow, 1) := by decide +kernel
theorem dJ8_hugeLength_7cf53_49 : decode cJ8_hugeLength_7cf53 49 = .ok (.iload_n 2, 1) := by decide +kernel
theorem dJ8_hugeLength_7cf53_50 : decode cJ8_hugeLength_7cf53 50 = .ok (.ldc 200, 2) := by decide +kernel
theorem dJ8_hugeLength_7cf53_52 : decode cJ8_hugeLength_7cf53 52 = .ok (.if_icmp .gt 6, 3) := by decide +kernel
theorem dJ8_hugeLength_7cf53_55 : decode cJ8_hugeLength_7cf53 55 = .ok (.ldc 200, 2) := by decide +kernel
theorem dJ8_hugeLength_7cf53_57 : decode cJ8_hugeLength_7cf53 57 = .ok (.ireturn, 1) := by decide +kernel
theorem dJ8_hugeLength_7cf53_58 : decode cJ8_hugeLength_7cf53 58 = .ok (.iload_n 2, 1) := by decide +kernel
theorem dJ8_hugeLength_7cf53_59 : decode cJ8_hugeLength_7cf53 59 = .ok (.ireturn, 1) := by decide +kernel
theorem dJ3_checkIndex_8e157_0 : decode cJ3_checkIndex_8e157 0 = .ok (.iload_n 0, 1) := by decide +kernel
theorem dJ3_checkIndex_8e157_1 : decode cJ3_checkIndex_8e157 1 = .ok (.ifCond .lt 8, 3) := by decide +kernel
theorem dJ3_checkIndex_8e157_4 : decode cJ3_checkIndex_8e157 4 = .ok (.iload_n 0, 1) := by decide +kernel
theorem dJ3_checkIndex_8e157_5 : decode cJ3_checkIndex_8e157 5 = .ok (.iload_n 1, 1) := by decide +kernel
theorem dJ3_checkIndex_8e157_6 : decode cJ3_checkIndex_8e157 6 = .ok (.if_icmp .lt 10, 3) := by decide +kernel
theorem dJ3_checkIndex_8e157_9 : decode cJ3_checkIndex_8e157 9 = .ok (.aload_n 2, 1) := by decide +kernel
theorem dJ3_checkIndex_8e157_10 : decode cJ3_checkIndex_8e157 10 = .ok (.iload_n 0, 1) := by decide +kernel
theorem dJ3_checkIndex_8e157_11 : decode cJ3_checkIndex_8e157 11 = .ok (.iload_n 1, 1) := by decide +kernel
theorem dJ3_checkIndex_8e157_12 : decode cJ3_checkIndex_8e157 12 = .ok (.invokestatic 95, 3) := by decide +kernel
theorem dJ3_checkIndex_8e157_15 : decode cJ3_checkIndex_8e157 15 = .ok (.athrow, 1) := by decide +kernel
theorem dJ3_checkIndex_8e157_16 : decode cJ3_checkIndex_8e157 16 = .ok (.iload_n 0, 1) := by decide +kernel
theorem dJ3_checkIndex_8e157_17 : decode cJ3_checkIndex_8e157 17 = .ok (.ireturn, 1) := by decide +kernel
theorem dJ3_checkFromToIndex_8c36e_0 : decode cJ3_checkFromToIndex_8c36e 0 = .ok (.iload_n 0, 1) := by decide +kernel
theorem dJ3_checkFromToIndex_8c36e_1 : decode cJ3_checkFromToIndex_8c36e 1 = .ok (.ifCond .lt 13, 3) := by decide +kernel
theorem dJ3_checkFromToIndex_8c36e_4 : decode cJ3_checkFromToIndex_8c36e 4 = .ok (.iload_n 0, 1) := by decide +kernel
theorem dJ3_checkFromToIndex_8c36e_5 : decode cJ3_checkFromToIndex_8c36e 5 = .ok (.iload_n 1, 1) := by decide +kernel
theorem dJ3_checkFromToIndex_8c36e_6 : decode cJ3_checkFromToIndex_8c36e 6 = .ok (.if_icmp .gt 8, 3) := by decide +kernel
theorem dJ3_checkFromToIndex_8c36e_9 : decode cJ3_checkFromToIndex_8c36e 9 = .ok (.iload_n 1, 1) := by decide +kernel
theorem dJ3_checkFromToIndex_8c36e_10 : decode cJ3_checkFromToIndex_8c36e 10 = .ok (.iload_n 2, 1) := by decide +kernel
theorem dJ3_checkFromToIndex_8c36e_11 : decode cJ3_checkFromToIndex_8c36e 11 = .ok (.if_icmp .le 11, 3) := by decide +kernel
theorem dJ3_checkFromToIndex_8c36e_14 : decode cJ3_checkFromToIndex_8c36e 14 = .ok (.aload_n 3, 1) := by decide +kernel
theorem dJ3_checkFromToIndex_8c36e_15 : decode cJ3_checkFromToIndex_8c36e 15 = .ok (.iload_n 0, 1) := by decide +kernel
theorem dJ3_checkFromToIndex_8c36e_16 : decode cJ3_checkFromToIndex_8c36e 16 = .ok (.iload_n 1, 1) := by decide +kernel
theorem dJ3_checkFromToIndex_8c36e_17 : decode cJ3_checkFromToIndex_8c36e 17 = .ok (.iload_n 2, 1) := by decide +kernel
theorem dJ3_checkFromToIndex_8c36e_18 : decode cJ3_checkFromToIndex_8c36e 18 = .ok (.invokestatic 99, 3) := by decide +kernel
theorem dJ3_checkFromToIndex_8c36e_21 : decode cJ3_checkFromToIndex_8c36e 21 = .ok (.athrow, 1) := by decide +kernel
theorem dJ3_checkFromToIndex_8c36e_22 : decode cJ3_checkFromToIndex_8c36e 22 = .ok (.iload_n 0, 1) := by decide +kernel
theorem dJ3_checkFromToIndex_8c36e_23 : decode cJ3_checkFromToIndex_8c36e 23 = .ok (.ireturn, 1) := by decide +kernel
theorem dJ3_checkFromIndexSize_8c36e_0 : decode cJ3_checkFromIndexSize_8c36e 0 = .ok (.iload_n 2, 1) := by decide +kernel
theorem dJ3_checkFromIndexSize_8c36e_1 : decode cJ3_checkFromIndexSize_8c36e 1 = .ok (.iload_n 0, 1) := by decide +kernel
theorem dJ3_checkFromIndexSize_8c36e_2 : decode cJ3_checkFromIndexSize_8c36e 2 = .ok (.ior, 1) := by decide +kernel
theorem dJ3_checkFromIndexSize_8c36e_3 : decode cJ3_checkFromIndexSize_8c36e 3 = .ok (.iload_n 1, 1) := by decide +kernel
theorem dJ3_checkFromIndexSize_8c36e_4 : decode cJ3_checkFromIndexSize_8c36e 4 = .ok (.ior, 1) := by decide +kernel
theorem dJ3_checkFromIndexSize_8c36e_5 : decode cJ3_checkFromIndexSize_8c36e 5 = .ok (.ifCond .lt 10, 3) := by decide +kernel
theorem dJ3_checkFromIndexSize_8c36e_8 : decode cJ3_checkFromIndexSize_8c36e 8 = .ok (.iload_n 1, 1) := by decide +kernel
theorem dJ3_checkFromIndexSize_8c36e_9 : decode cJ3_checkFromIndexSize_8c36e 9 = .ok (.iload_n 2, 1) := by decide +kernel
theorem dJ3_checkFromIndexSize_8c36e_10 : decode cJ3_checkFromIndexSize_8c36e 10 = .ok (.iload_n 0, 1) := by decide +kernel
theorem dJ3_checkFromIndexSize_8c36e_11 : decode cJ3_checkFromIndexSize_8c36e 11 = .ok (.isub, 1) := by decide +kernel
theorem dJ3_checkFromIndexSize_8c36e_12 : decode cJ3_checkFromIndexSize_8c36e 12 = .ok (.if_icmp .le 11, 3) := by decide +kernel
theorem dJ3_checkFromIndexSize_8c36e_15 : decode cJ3_checkFromIndexSize_8c36e 15 = .ok (.aload_n 3, 1) := by decide +kernel
theorem dJ3_checkFromIndexSize_8c36e_16 : decode cJ3_checkFromIndexSize_8c36e 16 = .ok (.iload_n 0, 1) := by decide +kernel
theorem dJ3_checkFromIndexSize_8c36e_17 : decode cJ3_checkFromIndexSize_8c36e 17 = .ok (.iload_n 1, 1) := by decide +kernel
theorem dJ3_checkFromIndexSize_8c36e_18 : decode cJ3_checkFromIndexSize_8c36e 18 = .ok (.iload_n 2, 1) := by decide +kernel
theorem dJ3_checkFromIndexSize_8c36e_19 : decode cJ3_checkFromIndexSize_8c36e 19 = .ok (.invokestatic 103, 3) := by decide +kernel
theorem dJ3_checkFromIndexSize_8c36e_22 : decode cJ3_checkFromIndexSize_8c36e 22 = .ok (.athrow, 1) := by decide +kernel
theorem dJ3_checkFromIndexSize_8c36e_23 : decode cJ3_checkFromIndexSize_8c36e 23 = .ok (.iload_n 0, 1) := by decide +kernel
theorem dJ3_checkFromIndexSize_8c36e_24 : decode cJ3_checkFromIndexSize_8c36e 24 = .ok (.ireturn, 1) := by decide +kernel
theorem dL_addRow_0 : decode cL_addRow 0 = .ok (.aload_n 0, 1) := by decide +kernel
theorem dL_addRow_1 : decode cL_addRow 1 = .ok (.iload_n 1, 1) := by decide +kernel
theorem dL_addRow_2 : decode cL_addRow 2 = .ok (.invokevirtual 7, 3) := by decide +kernel
theorem dL_addRow_5 : decode cL_addRow 5 = .ok (.i2l, 1) := by decide +kernel
theorem dL_addRow_6 : decode cL_addRow 6 = .ok (.lreturn, 1) := by decide +kernel
theorem dL_addRow_7 : decode cL_addRow 7 = .ok (.astore_n 2, 1) := by decide +kernel
theorem dL_addRow_8 : decode cL_addRow 8 = .ok (.ldc2_w 17, 3) := by decide +kernel
theorem dL_addRow_11 : decode cL_addRow 11 = .ok (.lreturn, 1) := by decide +kernel
theorem dL_addRow_12 : decode cL_addRow 12 = .ok (.astore_n 2, 1) := by decide +kernel
theorem dL_addRow_13 : decode cL_addRow 13 = .ok (.ldc2_w 21, 3) := by decide +kernel
theorem dL_addRow_16 : decode cL_addRow 16 = .ok (.lreturn, 1) := by decide +kernel
theorem dL_addPhantoms_0 : decode cL_addPhantoms 0 = .ok (.aload_n 0, 1) := by decide +kernel
theorem dL_addPhantoms_1 : decode cL_addPhantoms 1 = .ok (.iload_n 1, 1) := by decide +kernel
theorem dL_addPhantoms_2 : decode cL_addPhantoms 2 = .ok (.iload_n 2, 1) := by decide +kernel
theorem dL_addPhantoms_3 : decode cL_addPhantoms 3 = .ok (.invokevirtual 23, 3) := by decide +kernel
theorem dL_addPhantoms_6 : decode cL_addPhantoms 6 = .ok (.i2l, 1) := by decide +kernel
theorem dL_addPhantoms_7 : decode cL_addPhantoms 7 = .ok (.lreturn, 1) := by decide +kernel
theorem dL_addPhantoms_8 : decode cL_addPhantoms 8 = .ok (.astore_n 3, 1) := by decide +kernel
theorem dL_addPhantoms_9 : decode cL_addPhantoms 9 = .ok (.ldc2_w 17, 3) := by decide +kernel
theorem dL_addPhantoms_12 : decode cL_addPhantoms 12 = .ok (.lreturn, 1) := by decide +kernel
theorem dL_addPhantoms_13 : decode cL_addPhantoms 13 = .ok (.astore_n 3, 1) := by decide +kernel
theorem dL_addPhantoms_14 : decode cL_addPhantoms 14 = .ok (.ldc2_w 21, 3) := by decide +kernel
theorem dL_addPhantoms_17 : decode cL_addPhantoms 17 = .ok (.lreturn, 1) := by decide +kernel
theorem dL_addPhantoms_18 : decode cL_addPhantoms 18 = .ok (.astore_n 3, 1) := by decide +kernel
theorem dL_addPhantoms_19 : decode cL_addPhantoms 19 = .ok (.ldc2_w 29, 3) := by decide +kernel
theorem dL_addPhantoms_22 : decode cL_addPhantoms 22 = .ok (.lreturn, 1) := by decide +kernel
theorem dL_removePhantoms_0 : decode cL_removePhantoms 0 = .ok (.aload_n 0, 1) := by decide +kernel
theorem dL_removePhantoms_1 : decode cL_removePhantoms 1 = .ok (.iload_n 1, 1) := by decide +kernel
theorem dL_removePhantoms_2 : decode cL_removePhantoms 2 = .ok (.iload_n 2, 1) := by decide +kernel
theorem dL_removePhantoms_3 : decode cL_removePhantoms 3 = .ok (.invokevirtual 31, 3) := by decide +kernel
theorem dL_removePhantoms_6 : decode cL_removePhantoms 6 = .ok (.i2l, 1) := by decide +kernel
theorem dL_removePhantoms_7 : decode cL_removePhantoms 7 = .ok (.lreturn, 1) := by decide +kernel
theorem dL_removePhantoms_8 : decode cL_removePhantoms 8 = .ok (.astore_n 3, 1) := by decide +kernel
theorem dL_removePhantoms_9 : decode cL_removePhantoms 9 = .ok (.ldc2_w 17, 3) := by decide +kernel
theorem dL_removePhantoms_12 : decode cL_removePhantoms 12 = .ok (.lreturn, 1) := by decide +kernel
theorem dL_removePhantoms_13 : decode cL_removePhantoms 13 = .ok (.astore_n 3, 1) := by decide +kernel
theorem dL_removePhantoms_14 : decode cL_removePhantoms 14 = .ok (.ldc2_w 21, 3) := by decide +kernel
theorem dL_removePhantoms_17 : decode cL_removePhantoms 17 = .ok (.lreturn, 1) := by decide +kernel
theorem dL_removePhantoms_18 : decode cL_removePhantoms 18 = .ok (.astore_n 3, 1) := by decide +kernel
theorem dL_removePhantoms_19 : decode cL_removePhantoms 19 = .ok (.ldc2_w 29, 3) := by decide +kernel
theorem dL_removePhantoms_22 : decode cL_removePhantoms 22 = .ok (.lreturn, 1) := by decide +kernel
theorem dL_add_0 : decode cL_add 0 = .ok (.aload_n 0, 1) := by decide +kernel
theorem dL_add_1 : decode cL_add 1 = .ok (.iload_n 1, 1) := by decide +kernel
theorem dL_add_2 : decode cL_add 2 = .ok (.iload_n 2, 1) := by decide +kernel
theorem dL_add_3 : decode cL_add 3 = .ok (.invokevirtual 34, 3) := by decide +kernel
theorem dL_add_6 : decode cL_add 6 = .ok (.i2l, 1) := by decide +kernel
theorem dL_add_7 : decode cL_add 7 = .ok (.lreturn, 1) := by decide +kernel
theorem dL_add_8 : decode cL_add 8 = .ok (.astore_n 3, 1) := by decide +kernel
theorem dL_add_9 : decode cL_add 9 = .ok (.ldc2_w 17, 3) := by decide +kernel
theorem dL_add_12 : decode cL_add 12 = .ok (.lreturn, 1) := by decide +kernel
theorem dL_add_13 : decode cL_add 13 = .ok (.astore_n 3, 1) := by decide +kernel
theorem dL_add_14 : decode cL_add 14 = .ok (.ldc2_w 21, 3) := by decide +kernel
theorem dL_add_17 : decode cL_add 17 = .ok (.lreturn, 1) := by decide +kernel
theorem dL_add_18 : decode cL_add 18 = .ok (.astore_n 3, 1) := by decide +kernel
theorem dL_add_19 : decode cL_add 19 = .ok (.ldc2_w 29, 3) := by decide +kernel
theorem dL_add_22 : decode cL_add 22 = .ok (.lreturn, 1) := by decide +kernel
theorem dL_move_0 : decode cL_move 0 = .ok (.aload_n 0, 1) := by decide +kernel
theorem dL_move_1 : decode cL_move 1 = .ok (.iload_n 1, 1) := by decide +kernel
theorem dL_move_2 : decode cL_move 2 = .ok (.iload_n 2, 1) := by decide +kernel
theorem dL_move_3 : decode cL_move 3 = .ok (.invokevirtual 37, 3) := by decide +kernel
theorem dL_move_6 : decode cL_move 6 = .ok (.i2l, 1) := by decide +kernel
theorem dL_move_7 : decode cL_move 7 = .ok (.lreturn, 1) := by decide +kernel
theorem dL_move_8 : decode cL_move 8 = .ok (.astore_n 3, 1) := by decide +kernel
theorem dL_move_9 : decode cL_move 9 = .ok (.ldc2_w 17, 3) := by decide +kernel
theorem dL_move_12 : decode cL_move 12 = .ok (.lreturn, 1) := by decide +kernel
theorem dL_move_13 : decode cL_move 13 = .ok (.astore_n 3, 1) := by decide +kernel
theorem dL_move_14 : decode cL_move 14 = .ok (.ldc2_w 21, 3) := by decide +kernel
theorem dL_move_17 : decode cL_move 17 = .ok (.lreturn, 1) := by decide +kernel
theorem dL_move_18 : decode cL_move 18 = .ok (.astore_n 3, 1) := by decide +kernel
theorem dL_move_19 : decode cL_move 19 = .ok (.ldc2_w 29, 3) := by decide +kernel
theorem dL_move_22 : decode cL_move 22 = .ok (.lreturn, 1) := by decide +kernel
theorem dL_remove_0 : decode cL_remove 0 = .ok (.aload_n 0, 1) := by decide +kernel
theorem dL_remove_1 : decode cL_remove 1 = .ok (.iload_n 1, 1) := by decide +kernel
theorem dL_remove_2 : decode cL_remove 2 = .ok (.invokevirtual 42, 3) := by decide +kernel
theorem dL_remove_5 : decode cL_remove 5 = .ok (.i2l, 1) := by decide +kernel
theorem dL_remove_6 : decode cL_remove 6 = .ok (.lreturn, 1) := by decide +kernel
theorem dL_remove_7 : decode cL_remove 7 = .ok (.astore_n 2, 1) := by decide +kernel
theorem dL_remove_8 : decode cL_remove 8 = .ok (.ldc2_w 17, 3) := by decide +kernel
theorem dL_remove_11 : decode cL_remove 11 = .ok (.lreturn, 1) := by decide +kernel
theorem dL_remove_12 : decode cL_remove 12 = .ok (.astore_n 2, 1) := by decide +kernel
theorem dL_remove_13 : decode cL_remove 13 = .ok (.ldc2_w 21, 3) := by decide +kernel
theorem dL_remove_16 : decode cL_remove 16 = .ok (.lreturn, 1) := by decide +kernel
theorem dL_setHeir_0 : decode cL_setHeir 0 = .ok (.aload_n 0, 1) := by decide +kernel
theorem dL_setHeir_1 : decode cL_setHeir 1 = .ok (.iload_n 1, 1) := by decide +kernel
theorem dL_setHeir_2 : decode cL_setHeir 2 = .ok (.iload_n 2, 1) := by decide +kernel
theorem dL_setHeir_3 : decode cL_setHeir 3 = .ok (.invokevirtual 45, 3) := by decide +kernel
theorem dL_setHeir_6 : decode cL_setHeir 6 = .ok (.i2l, 1) := by decide +kernel
theorem dL_setHeir_7 : decode cL_setHeir 7 = .ok (.lreturn, 1) := by decide +kernel
theorem dL_setHeir_8 : decode cL_setHeir 8 = .ok (.astore_n 3, 1) := by decide +kernel
theorem dL_setHeir_9 : decode cL_setHeir 9 = .ok (.ldc2_w 17, 3) := by decide +kernel
theorem dL_setHeir_12 : decode cL_setHeir 12 = .ok (.lreturn, 1) := by decide +kernel
theorem dL_setHeir_13 : decode cL_setHeir 13 = .ok (.astore_n 3, 1) := by decide +kernel
theorem dL_setHeir_14 : decode cL_setHeir 14 = .ok (.ldc2_w 21, 3) := by decide +kernel
theorem dL_setHeir_17 : decode cL_setHeir 17 = .ok (.lreturn, 1) := by decide +kernel
theorem dL_setHeir_18 : decode cL_setHeir 18 = .ok (.astore_n 3, 1) := by decide +kernel
theorem dL_setHeir_19 : decode cL_setHeir 19 = .ok (.ldc2_w 29, 3) := by decide +kernel
theorem dL_setHeir_22 : decode cL_setHeir 22 = .ok (.lreturn, 1) := by decide +kernel
theorem dL_clearHeir_0 : decode cL_clearHeir 0 = .ok (.aload_n 0, 1) := by decide +kernel
theorem dL_clearHeir_1 : decode cL_clearHeir 1 = .ok (.iload_n 1, 1) := by decide +kernel
theorem dL_clearHeir_2 : decode cL_clearHeir 2 = .ok (.invokevirtual 48, 3) := by decide +kernel
theorem dL_clearHeir_5 : decode cL_clearHeir 5 = .ok (.i2l, 1) := by decide +kernel
theorem dL_clearHeir_6 : decode cL_clearHeir 6 = .ok (.lreturn, 1) := by decide +kernel
theorem dL_clearHeir_7 : decode cL_clearHeir 7 = .ok (.astore_n 2, 1) := by decide +kernel
theorem dL_clearHeir_8 : decode cL_clearHeir 8 = .ok (.ldc2_w 17, 3) := by decide +kernel
theorem dL_clearHeir_11 : decode cL_clearHeir 11 = .ok (.lreturn, 1) := by decide +kernel
theorem dL_clearHeir_12 : decode cL_clearHeir 12 = .ok (.astore_n 2, 1) := by decide +kernel
theorem dL_clearHeir_13 : decode cL_clearHeir 13 = .ok (.ldc2_w 21, 3) := by decide +kernel
theorem dL_clearHeir_16 : decode cL_clearHeir 16 = .ok (.lreturn, 1) := by decide +kernel
theorem dL_lock_0 : decode cL_lock 0 = .ok (.aload_n 0, 1) := by decide +kernel
theorem dL_lock_1 : decode cL_lock 1 = .ok (.iload_n 1, 1) := by decide +kernel
theorem dL_lock_2 : decode cL_lock 2 = .ok (.invokevirtual 51, 3) := by decide +kernel
theorem dL_lock_5 : decode cL_lock 5 = .ok (.i2l, 1) := by decide +kernel
theorem dL_lock_6 : decode cL_lock 6 = .ok (.lreturn, 1) := by decide +kernel
theorem dL_lock_7 : decode cL_lock 7 = .ok (.astore_n 2, 1) := by decide +kernel
theorem dL_lock_8 : decode cL_lock 8 = .ok (.ldc2_w 17, 3) := by decide +kernel
theorem dL_lock_11 : decode cL_lock 11 = .ok (.lreturn, 1) := by decide +kernel
theorem dL_lock_12 : decode cL_lock 12 = .ok (.astore_n 2, 1) := by decide +kernel
theorem dL_lock_13 : decode cL_lock 13 = .ok (.ldc2_w 21, 3) := by decide +kernel
theorem dL_lock_16 : decode cL_lock 16 = .ok (.lreturn, 1) := by decide +kernel
theorem dL_unlock_0 : decode cL_unlock 0 = .ok (.aload_n 0, 1) := by decide +kernel
theorem dL_unlock_1 : decode cL_unlock 1 = .ok (.iload_n 1, 1) := by decide +kernel
theorem dL_unlock_2 : decode cL_unlock 2 = .ok (.invokevirtual 54, 3) := by decide +kernel
theorem dL_unlock_5 : decode cL_unlock 5 = .ok (.i2l, 1) := by decide +kernel
theorem dL_unlock_6 : decode cL_unlock 6 = .ok (.lreturn, 1) := by decide +kernel
theorem dL_unlock_7 : decode cL_unlock 7 = .ok (.astore_n 2, 1) := by decide +kernel
theorem dL_unlock_8 : decode cL_unlock 8 = .ok (.ldc2_w 17, 3) := by decide +kernel
theorem dL_unlock_11 : decode cL_unlock 11 = .ok (.lreturn, 1) := by decide +kernel
theorem dL_unlock_12 : decode cL_unlock 12 = .ok (.astore_n 2, 1) := by decide +kernel
theorem dL_unlock_13 : decode cL_unlock 13 = .ok (.ldc2_w 21, 3) := by decide +kernel
theorem dL_unlock_16 : decode cL_unlock 16 = .ok (.lreturn, 1) := by decide +kernel
theorem dL_nameRow_0 : decode cL_nameRow 0 = .ok (.aload_n 0, 1) := by decide +kernel
theorem dL_nameRow_1 : decode cL_nameRow 1 = .ok (.iload_n 1, 1) := by decide +kernel
theorem dL_nameRow_2 : decode cL_nameRow 2 = .ok (.iload_n 2, 1) := by decide +kernel
theorem dL_nameRow_3 : decode cL_nameRow 3 = .ok (.invokevirtual 57, 3) := by decide +kernel
theorem dL_nameRow_6 : decode cL_nameRow 6 = .ok (.i2l, 1) := by decide +kernel
theorem dL_nameRow_7 : decode cL_nameRow 7 = .ok (.lreturn, 1) := by decide +kernel
theorem dL_nameRow_8 : decode cL_nameRow 8 = .ok (.astore_n 3, 1) := by decide +kernel
theorem dL_nameRow_9 : decode cL_nameRow 9 = .ok (.ldc2_w 17, 3) := by decide +kernel
theorem dL_nameRow_12 : decode cL_nameRow 12 = .ok (.lreturn, 1) := by decide +kernel
theorem dL_nameRow_13 : decode cL_nameRow 13 = .ok (.astore_n 3, 1) := by decide +kernel
theorem dL_nameRow_14 : decode cL_nameRow 14 = .ok (.ldc2_w 21, 3) := by decide +kernel
theorem dL_nameRow_17 : decode cL_nameRow 17 = .ok (.lreturn, 1) := by decide +kernel
theorem dL_spread_0 : decode cL_spread 0 = .ok (.aload_n 0, 1) := by decide +kernel
theorem dL_spread_1 : decode cL_spread 1 = .ok (.iload_n 1, 1) := by decide +kernel
theorem dL_spread_2 : decode cL_spread 2 = .ok (.invokevirtual 61, 3) := by decide +kernel
theorem dL_spread_5 : decode cL_spread 5 = .ok (.i2l, 1) := by decide +kernel
theorem dL_spread_6 : decode cL_spread 6 = .ok (.lreturn, 1) := by decide +kernel
theorem dL_spread_7 : decode cL_spread 7 = .ok (.astore_n 2, 1) := by decide +kernel
theorem dL_spread_8 : decode cL_spread 8 = .ok (.ldc2_w 17, 3) := by decide +kernel
theorem dL_spread_11 : decode cL_spread 11 = .ok (.lreturn, 1) := by decide +kernel
theorem dL_spread_12 : decode cL_spread 12 = .ok (.astore_n 2, 1) := by decide +kernel
theorem dL_spread_13 : decode cL_spread 13 = .ok (.ldc2_w 21, 3) := by decide +kernel
theorem dL_spread_16 : decode cL_spread 16 = .ok (.lreturn, 1) := by decide +kernel
theorem dL_capacity_0 : decode cL_capacity 0 = .ok (.aload_n 0, 1) := by decide +kernel
theorem dL_capacity_1 : decode cL_capacity 1 = .ok (.iload_n 1, 1) := by decide +kernel
theorem dL_capacity_2 : decode cL_capacity 2 = .ok (.invokevirtual 68, 3) := by decide +kernel
theorem dL_capacity_5 : decode cL_capacity 5 = .ok (.i2l, 1) := by decide +kernel
theorem dL_capacity_6 : decode cL_capacity 6 = .ok (.lreturn, 1) := by decide +kernel
theorem dL_capacity_7 : decode cL_capacity 7 = .ok (.astore_n 2, 1) := by decide +kernel
theorem dL_capacity_8 : decode cL_capacity 8 = .ok (.ldc2_w 17, 3) := by decide +kernel
theorem dL_capacity_11 : decode cL_capacity 11 = .ok (.lreturn, 1) := by decide +kernel
theorem dL_occupancy_0 : decode cL_occupancy 0 = .ok (.aload_n 0, 1) := by decide +kernel
theorem dL_occupancy_1 : decode cL_occupancy 1 = .ok (.iload_n 1, 1) := by decide +kernel
theorem dL_occupancy_2 : decode cL_occupancy 2 = .ok (.invokevirtual 74, 3) := by decide +kernel
theorem dL_occupancy_5 : decode cL_occupancy 5 = .ok (.i2l, 1) := by decide +kernel
theorem dL_occupancy_6 : decode cL_occupancy 6 = .ok (.lreturn, 1) := by decide +kernel
theorem dL_occupancy_7 : decode cL_occupancy 7 = .ok (.astore_n 2, 1) := by decide +kernel
theorem dL_occupancy_8 : decode cL_occupancy 8 = .ok (.ldc2_w 17, 3) := by decide +kernel
theorem dL_occupancy_11 : decode cL_occupancy 11 = .ok (.lreturn, 1) := by decide +kernel
theorem dL_isLocked_0 : decode cL_isLocked 0 = .ok (.aload_n 0, 1) := by decide +kernel
theorem dL_isLocked_1 : decode cL_isLocked 1 = .ok (.iload_n 1, 1) := by decide +kernel
theorem dL_isLocked_2 : decode cL_isLocked 2 = .ok (.invokevirtual 83, 3) := by decide +kernel
theorem dL_isLocked_5 : decode cL_isLocked 5 = .ok (.ifCond .eq 7, 3) := by decide +kernel
theorem dL_isLocked_8 : decode cL_isLocked 8 = .ok (.lconst 1, 1) := by decide +kernel
theorem dL_isLocked_9 : decode cL_isLocked 9 = .ok (.goto 4, 3) := by decide +kernel
theorem dL_isLocked_12 : decode cL_isLocked 12 = .ok (.lconst 0, 1) := by decide +kernel
theorem dL_isLocked_13 : decode cL_isLocked 13 = .ok (.lreturn, 1) := by decide +kernel
theorem dL_isLocked_14 : decode cL_isLocked 14 = .ok (.astore_n 2, 1) := by decide +kernel
theorem dL_isLocked_15 : decode cL_isLocked 15 = .ok (.ldc2_w 17, 3) := by decide +kernel
theorem dL_isLocked_18 : decode cL_isLocked 18 = .ok (.lreturn, 1) := by decide +kernel
theorem dL_isCrowded_0 : decode cL_isCrowded 0 = .ok (.aload_n 0, 1) := by decide +kernel
theorem dL_isCrowded_1 : decode cL_isCrowded 1 = .ok (.iload_n 1, 1) := by decide +kernel
theorem dL_isCrowded_2 : decode cL_isCrowded 2 = .ok (.invokevirtual 87, 3) := by decide +kernel
theorem dL_isCrowded_5 : decode cL_isCrowded 5 = .ok (.ifCond .eq 7, 3) := by decide +kernel
theorem dL_isCrowded_8 : decode cL_isCrowded 8 = .ok (.lconst 1, 1) := by decide +kernel
theorem dL_isCrowded_9 : decode cL_isCrowded 9 = .ok (.goto 4, 3) := by decide +kernel
theorem dL_isCrowded_12 : decode cL_isCrowded 12 = .ok (.lconst 0, 1) := by decide +kernel
theorem dL_isCrowded_13 : decode cL_isCrowded 13 = .ok (.lreturn, 1) := by decide +kernel
theorem dL_isCrowded_14 : decode cL_isCrowded 14 = .ok (.astore_n 2, 1) := by decide +kernel
theorem dL_isCrowded_15 : decode cL_isCrowded 15 = .ok (.ldc2_w 17, 3) := by decide +kernel
theorem dL_isCrowded_18 : decode cL_isCrowded 18 = .ok (.lreturn, 1) := by decide +kernel
theorem dL_idInRow_0 : decode cL_idInRow 0 = .ok (.aload_n 0, 1) := by decide +kernel
theorem dL_idInRow_1 : decode cL_idInRow 1 = .ok (.iload_n 1, 1) := by decide +kernel
theorem dL_idInRow_2 : decode cL_idInRow 2 = .ok (.iload_n 2, 1) := by decide +kernel
theorem dL_idInRow_3 : decode cL_idInRow 3 = .ok (.invokevirtual 90, 3) := by decide +kernel
theorem dL_idInRow_6 : decode cL_idInRow 6 = .ok (.i2l, 1) := by decide +kernel
theorem dL_idInRow_7 : decode cL_idInRow 7 = .ok (.lreturn, 1) := by decide +kernel
theorem dL_idInRow_8 : decode cL_idInRow 8 = .ok (.astore_n 3, 1) := by decide +kernel
theorem dL_idInRow_9 : decode cL_idInRow 9 = .ok (.ldc2_w 17, 3) := by decide +kernel
theorem dL_idInRow_12 : decode cL_idInRow 12 = .ok (.lreturn, 1) := by decide +kernel
theorem dL_idInRow_13 : decode cL_idInRow 13 = .ok (.astore_n 3, 1) := by decide +kernel
theorem dL_idInRow_14 : decode cL_idInRow 14 = .ok (.ldc2_w 21, 3) := by decide +kernel
theorem dL_idInRow_17 : decode cL_idInRow 17 = .ok (.lreturn, 1) := by decide +kernel
theorem dL_rowOf_0 : decode cL_rowOf 0 = .ok (.aload_n 0, 1) := by decide +kernel
theorem dL_rowOf_1 : decode cL_rowOf 1 = .ok (.iload_n 1, 1) := by decide +kernel
theorem dL_rowOf_2 : decode cL_rowOf 2 = .ok (.invokevirtual 99, 3) := by decide +kernel
theorem dL_rowOf_5 : decode cL_rowOf 5 = .ok (.i2l, 1) := by decide +kernel
theorem dL_rowOf_6 : decode cL_rowOf 6 = .ok (.lreturn, 1) := by decide +kernel
theorem dL_rowOf_7 : decode cL_rowOf 7 = .ok (.astore_n 2, 1) := by decide +kernel
theorem dL_rowOf_8 : decode cL_rowOf 8 = .ok (.ldc2_w 17, 3) := by decide +kernel
theorem dL_rowOf_11 : decode cL_rowOf 11 = .ok (.lreturn, 1) := by decide +kernel
theorem dL_loudness_0 : decode cL_loudness 0 = .ok (.aload_n 0, 1) := by decide +kernel
theorem dL_loudness_1 : decode cL_loudness 1 = .ok (.iload_n 1, 1) := by decide +kernel
theorem dL_loudness_2 : decode cL_loudness 2 = .ok (.invokevirtual 102, 3) := by decide +kernel
theorem dL_loudness_5 : decode cL_loudness 5 = .ok (.i2l, 1) := by decide +kernel
theorem dL_loudness_6 : decode cL_loudness 6 = .ok (.lreturn, 1) := by decide +kernel
theorem dL_loudness_7 : decode cL_loudness 7 = .ok (.astore_n 2, 1) := by decide +kernel
theorem dL_loudness_8 : decode cL_loudness 8 = .ok (.ldc2_w 17, 3) := by decide +kernel
theorem dL_loudness_11 : decode cL_loudness 11 = .ok (.lreturn, 1) := by decide +kernel
theorem dL_positionInRow_0 : decode cL_positionInRow 0 = .ok (.aload_n 0, 1) := by decide +kernel
theorem dL_positionInRow_1 : decode cL_positionInRow 1 = .ok (.iload_n 1, 1) := by decide +kernel
theorem dL_positionInRow_2 : decode cL_positionInRow 2 = .ok (.invokevirtual 105, 3) := by decide +kernel
theorem dL_positionInRow_5 : decode cL_positionInRow 5 = .ok (.i2l, 1) := by decide +kernel
theorem dL_positionInRow_6 : decode cL_positionInRow 6 = .ok (.lreturn, 1) := by decide +kernel
theorem dL_positionInRow_7 : decode cL_positionInRow 7 = .ok (.astore_n 2, 1) := by decide +kernel
theorem dL_positionInRow_8 : decode cL_positionInRow 8 = .ok (.ldc2_w 17, 3) := by decide +kernel
theorem dL_positionInRow_11 : decode cL_positionInRow 11 = .ok (.lreturn, 1) := by decide +kernel
theorem dL_heir_0 : decode cL_heir 0 = .ok (.aload_n 0, 1) := by decide +kernel
theorem dL_heir_1 : decode cL_heir 1 = .ok (.iload_n 1, 1) := by decide +kernel
theorem dL_heir_2 : decode cL_heir 2 = .ok (.invokevirtual 111, 3) := by decide +kernel
theorem dL_heir_5 : decode cL_heir 5 = .ok (.i2l, 1) := by decide +kernel
theorem dL_heir_6 : decode cL_heir 6 = .ok (.lreturn, 1) := by decide +kernel
theorem dL_heir_7 : decode cL_heir 7 = .ok (.astore_n 2, 1) := by decide +kernel
theorem dL_heir_8 : decode cL_heir 8 = .ok (.ldc2_w 17, 3) := by decide +kernel
theorem dL_heir_11 : decode cL_heir 11 = .ok (.lreturn, 1) := by decide +kernel
theorem dL_heir_12 : decode cL_heir 12 = .ok (.astore_n 2, 1) := by decide +kernel
theorem dL_heir_13 : decode cL_heir 13 = .ok (.ldc2_w 21, 3) := by decide +kernel
theorem dL_heir_16 : decode cL_heir 16 = .ok (.lreturn, 1) := by decide +kernel
theorem dL_lastHeir_0 : decode cL_lastHeir 0 = .ok (.aload_n 0, 1) := by decide +kernel
theorem dL_lastHeir_1 : decode cL_lastHeir 1 = .ok (.iload_n 1, 1) := by decide +kernel
theorem dL_lastHeir_2 : decode cL_lastHeir 2 = .ok (.invokevirtual 114, 3) := by decide +kernel
theorem dL_lastHeir_5 : decode cL_lastHeir 5 = .ok (.i2l, 1) := by decide +kernel
theorem dL_lastHeir_6 : decode cL_lastHeir 6 = .ok (.lreturn, 1) := by decide +kernel
theorem dL_lastHeir_7 : decode cL_lastHeir 7 = .ok (.astore_n 2, 1) := by decide +kernel
theorem dL_lastHeir_8 : decode cL_lastHeir 8 = .ok (.ldc2_w 17, 3) := by decide +kernel
theorem dL_lastHeir_11 : decode cL_lastHeir 11 = .ok (.lreturn, 1) := by decide +kernel
theorem dL_lastHeirByDoubling_0 : decode cL_lastHeirByDoubling 0 = .ok (.aload_n 0, 1) := by decide +kernel
theorem dL_lastHeirByDoubling_1 : decode cL_lastHeirByDoubling 1 = .ok (.iload_n 1, 1) := by decide +kernel
theorem dL_lastHeirByDoubling_2 : decode cL_lastHeirByDoubling 2 = .ok (.invokevirtual 117, 3) := by decide +kernel
theorem dL_lastHeirByDoubling_5 : decode cL_lastHeirByDoubling 5 = .ok (.i2l, 1) := by decide +kernel
theorem dL_lastHeirByDoubling_6 : decode cL_lastHeirByDoubling 6 = .ok (.lreturn, 1) := by decide +kernel
theorem dL_lastHeirByDoubling_7 : decode cL_lastHeirByDoubling 7 = .ok (.astore_n 2, 1) := by decide +kernel
theorem dL_lastHeirByDoubling_8 : decode cL_lastHeirByDoubling 8 = .ok (.ldc2_w 17, 3) := by decide +kernel
theorem dL_lastHeirByDoubling_11 : decode cL_lastHeirByDoubling 11 = .ok (.lreturn, 1) := by decide +kernel
theorem dL_stepsToLastHeir_0 : decode cL_stepsToLastHeir 0 = .ok (.aload_n 0, 1) := by decide +kernel
theorem dL_stepsToLastHeir_1 : decode cL_stepsToLastHeir 1 = .ok (.iload_n 1, 1) := by decide +kernel
theorem dL_stepsToLastHeir_2 : decode cL_stepsToLastHeir 2 = .ok (.invokevirtual 120, 3) := by decide +kernel
theorem dL_stepsToLastHeir_5 : decode cL_stepsToLastHeir 5 = .ok (.i2l, 1) := by decide +kernel
theorem dL_stepsToLastHeir_6 : decode cL_stepsToLastHeir 6 = .ok (.lreturn, 1) := by decide +kernel
theorem dL_stepsToLastHeir_7 : decode cL_stepsToLastHeir 7 = .ok (.astore_n 2, 1) := by decide +kernel
theorem dL_stepsToLastHeir_8 : decode cL_stepsToLastHeir 8 = .ok (.ldc2_w 17, 3) := by decide +kernel
theorem dL_stepsToLastHeir_11 : decode cL_stepsToLastHeir 11 = .ok (.lreturn, 1) := by decide +kernel
theorem dL_bequeathers_0 : decode cL_bequeathers 0 = .ok (.aload_n 0, 1) := by decide +kernel
theorem dL_bequeathers_1 : decode cL_bequeathers 1 = .ok (.iload_n 1, 1) := by decide +kernel
theorem dL_bequeathers_2 : decode cL_bequeathers 2 = .ok (.invokevirtual 123, 3) := by decide +kernel
theorem dL_bequeathers_5 : decode cL_bequeathers 5 = .ok (.i2l, 1) := by decide +kernel
theorem dL_bequeathers_6 : decode cL_bequeathers 6 = .ok (.lreturn, 1) := by decide +kernel
theorem dL_bequeathers_7 : decode cL_bequeathers 7 = .ok (.astore_n 2, 1) := by decide +kernel
theorem dL_bequeathers_8 : decode cL_bequeathers 8 = .ok (.ldc2_w 17, 3) := by decide +kernel
theorem dL_bequeathers_11 : decode cL_bequeathers 11 = .ok (.lreturn, 1) := by decide +kernel
theorem dL_countInRows_0 : decode cL_countInRows 0 = .ok (.aload_n 0, 1) := by decide +kernel
theorem dL_countInRows_1 : decode cL_countInRows 1 = .ok (.iload_n 1, 1) := by decide +kernel
theorem dL_countInRows_2 : decode cL_countInRows 2 = .ok (.iload_n 2, 1) := by decide +kernel
theorem dL_countInRows_3 : decode cL_countInRows 3 = .ok (.invokevirtual 126, 3) := by decide +kernel
theorem dL_countInRows_6 : decode cL_countInRows 6 = .ok (.i2l, 1) := by decide +kernel
theorem dL_countInRows_7 : decode cL_countInRows 7 = .ok (.lreturn, 1) := by decide +kernel
theorem dL_countInRows_8 : decode cL_countInRows 8 = .ok (.astore_n 3, 1) := by decide +kernel
theorem dL_countInRows_9 : decode cL_countInRows 9 = .ok (.ldc2_w 17, 3) := by decide +kernel
theorem dL_countInRows_12 : decode cL_countInRows 12 = .ok (.lreturn, 1) := by decide +kernel
theorem dL_countInRows_13 : decode cL_countInRows 13 = .ok (.astore_n 3, 1) := by decide +kernel
theorem dL_countInRows_14 : decode cL_countInRows 14 = .ok (.ldc2_w 21, 3) := by decide +kernel
theorem dL_countInRows_17 : decode cL_countInRows 17 = .ok (.lreturn, 1) := by decide +kernel
theorem dL_countInRowsByTree_0 : decode cL_countInRowsByTree 0 = .ok (.aload_n 0, 1) := by decide +kernel
theorem dL_countInRowsByTree_1 : decode cL_countInRowsByTree 1 = .ok (.iload_n 1, 1) := by decide +kernel
theorem dL_countInRowsByTree_2 : decode cL_countInRowsByTree 2 = .ok (.iload_n 2, 1) := by decide +kernel
theorem dL_countInRowsByTree_3 : decode cL_countInRowsByTree 3 = .ok (.invokevirtual 129, 3) := by decide +kernel
theorem dL_countInRowsByTree_6 : decode cL_countInRowsByTree 6 = .ok (.i2l, 1) := by decide +kernel
theorem dL_countInRowsByTree_7 : decode cL_countInRowsByTree 7 = .ok (.lreturn, 1) := by decide +kernel
theorem dL_countInRowsByTree_8 : decode cL_countInRowsByTree 8 = .ok (.astore_n 3, 1) := by decide +kernel
theorem dL_countInRowsByTree_9 : decode cL_countInRowsByTree 9 = .ok (.ldc2_w 17, 3) := by decide +kernel
theorem dL_countInRowsByTree_12 : decode cL_countInRowsByTree 12 = .ok (.lreturn, 1) := by decide +kernel
theorem dL_countInRowsByTree_13 : decode cL_countInRowsByTree 13 = .ok (.astore_n 3, 1) := by decide +kernel
theorem dL_countInRowsByTree_14 : decode cL_countInRowsByTree 14 = .ok (.ldc2_w 21, 3) := by decide +kernel
theorem dL_countInRowsByTree_17 : decode cL_countInRowsByTree 17 = .ok (.lreturn, 1) := by decide +kernel
theorem dL_idByRank_0 : decode cL_idByRank 0 = .ok (.aload_n 0, 1) := by decide +kernel
theorem dL_idByRank_1 : decode cL_idByRank 1 = .ok (.iload_n 1, 1) := by decide +kernel
theorem dL_idByRank_2 : decode cL_idByRank 2 = .ok (.invokevirtual 132, 3) := by decide +kernel
theorem dL_idByRank_5 : decode cL_idByRank 5 = .ok (.i2l, 1) := by decide +kernel
theorem dL_idByRank_6 : decode cL_idByRank 6 = .ok (.lreturn, 1) := by decide +kernel
theorem dL_idByRank_7 : decode cL_idByRank 7 = .ok (.astore_n 2, 1) := by decide +kernel
theorem dL_idByRank_8 : decode cL_idByRank 8 = .ok (.ldc2_w 17, 3) := by decide +kernel
theorem dL_idByRank_11 : decode cL_idByRank 11 = .ok (.lreturn, 1) := by decide +kernel
theorem dL_idByRankByTree_0 : decode cL_idByRankByTree 0 = .ok (.aload_n 0, 1) := by decide +kernel
theorem dL_idByRankByTree_1 : decode cL_idByRankByTree 1 = .ok (.iload_n 1, 1) := by decide +kernel
theorem dL_idByRankByTree_2 : decode cL_idByRankByTree 2 = .ok (.invokevirtual 135, 3) := by decide +kernel
theorem dL_idByRankByTree_5 : decode cL_idByRankByTree 5 = .ok (.i2l, 1) := by decide +kernel
theorem dL_idByRankByTree_6 : decode cL_idByRankByTree 6 = .ok (.lreturn, 1) := by decide +kernel
theorem dL_idByRankByTree_7 : decode cL_idByRankByTree 7 = .ok (.astore_n 2, 1) := by decide +kernel
theorem dL_idByRankByTree_8 : decode cL_idByRankByTree 8 = .ok (.ldc2_w 17, 3) := by decide +kernel
theorem dL_idByRankByTree_11 : decode cL_idByRankByTree 11 = .ok (.lreturn, 1) := by decide +kernel
theorem dL_rank_0 : decode cL_rank 0 = .ok (.aload_n 0, 1) := by decide +kernel
theorem dL_rank_1 : decode cL_rank 1 = .ok (.iload_n 1, 1) := by decide +kernel
theorem dL_rank_2 : decode cL_rank 2 = .ok (.invokevirtual 138, 3) := by decide +kernel
theorem dL_rank_5 : decode cL_rank 5 = .ok (.i2l, 1) := by decide +kernel
theorem dL_rank_6 : decode cL_rank 6 = .ok (.lreturn, 1) := by decide +kernel
theorem dL_rank_7 : decode cL_rank 7 = .ok (.astore_n 2, 1) := by decide +kernel
theorem dL_rank_8 : decode cL_rank 8 = .ok (.ldc2_w 17, 3) := by decide +kernel
theorem dL_rank_11 : decode cL_rank 11 = .ok (.lreturn, 1) := by decide +kernel
theorem dL_loudest_0 : decode cL_loudest 0 = .ok (.aload_n 0, 1) := by decide +kernel
theorem dL_loudest_1 : decode cL_loudest 1 = .ok (.invokevirtual 141, 3) := by decide +kernel
theorem dL_loudest_4 : decode cL_loudest 4 = .ok (.i2l, 1) := by decide +kernel
theorem dL_loudest_5 : decode cL_loudest 5 = .ok (.lreturn, 1) := by decide +kernel
theorem dL_loudest_6 : decode cL_loudest 6 = .ok (.astore_n 1, 1) := by decide +kernel
theorem dL_loudest_7 : decode cL_loudest 7 = .ok (.ldc2_w 17, 3) := by decide +kernel
theorem dL_loudest_10 : decode cL_loudest 10 = .ok (.lreturn, 1) := by decide +kernel
theorem dL_namedRow_0 : decode cL_namedRow 0 = .ok (.aload_n 0, 1) := by decide +kernel
theorem dL_namedRow_1 : decode cL_namedRow 1 = .ok (.iload_n 1, 1) := by decide +kernel
theorem dL_namedRow_2 : decode cL_namedRow 2 = .ok (.invokevirtual 151, 3) := by decide +kernel
theorem dL_namedRow_5 : decode cL_namedRow 5 = .ok (.i2l, 1) := by decide +kernel
theorem dL_namedRow_6 : decode cL_namedRow 6 = .ok (.lreturn, 1) := by decide +kernel
theorem dL_namedRow_7 : decode cL_namedRow 7 = .ok (.astore_n 2, 1) := by decide +kernel
theorem dL_namedRow_8 : decode cL_namedRow 8 = .ok (.ldc2_w 17, 3) := by decide +kernel
theorem dL_namedRow_11 : decode cL_namedRow 11 = .ok (.lreturn, 1) := by decide +kernel
theorem dL_namedRow_12 : decode cL_namedRow 12 = .ok (.astore_n 2, 1) := by decide +kernel
theorem dL_namedRow_13 : decode cL_namedRow 13 = .ok (.ldc2_w 21, 3) := by decide +kernel
theorem dL_namedRow_16 : decode cL_namedRow 16 = .ok (.lreturn, 1) := by decide +kernel
theorem dL_boxCount_0 : decode cL_boxCount 0 = .ok (.aload_n 0, 1) := by decide +kernel
theorem dL_boxCount_1 : decode cL_boxCount 1 = .ok (.iload_n 1, 1) := by decide +kernel
theorem dL_boxCount_2 : decode cL_boxCount 2 = .ok (.invokevirtual 155, 3) := by decide +kernel
theorem dL_boxCount_5 : decode cL_boxCount 5 = .ok (.i2l, 1) := by decide +kernel
theorem dL_boxCount_6 : decode cL_boxCount 6 = .ok (.lreturn, 1) := by decide +kernel
theorem dL_boxCount_7 : decode cL_boxCount 7 = .ok (.astore_n 2, 1) := by decide +kernel
theorem dL_boxCount_8 : decode cL_boxCount 8 = .ok (.ldc2_w 17, 3) := by decide +kernel
theorem dL_boxCount_11 : decode cL_boxCount 11 = .ok (.lreturn, 1) := by decide +kernel
theorem dL_formatRow_0 : decode cL_formatRow 0 = .ok (.aload_n 0, 1) := by decide +kernel
theorem dL_formatRow_1 : decode cL_formatRow 1 = .ok (.iload_n 1, 1) := by decide +kernel
theorem dL_formatRow_2 : decode cL_formatRow 2 = .ok (.invokevirtual 200, 3) := by decide +kernel
theorem dL_formatRow_5 : decode cL_formatRow 5 = .ok (.i2l, 1) := by decide +kernel
theorem dL_formatRow_6 : decode cL_formatRow 6 = .ok (.lreturn, 1) := by decide +kernel
theorem dL_formatRow_7 : decode cL_formatRow 7 = .ok (.astore_n 2, 1) := by decide +kernel
theorem dL_formatRow_8 : decode cL_formatRow 8 = .ok (.ldc2_w 17, 3) := by decide +kernel
theorem dL_formatRow_11 : decode cL_formatRow 11 = .ok (.lreturn, 1) := by decide +kernel
theorem dL_formatEcho_0 : decode cL_formatEcho 0 = .ok (.aload_n 0, 1) := by decide +kernel
theorem dL_formatEcho_1 : decode cL_formatEcho 1 = .ok (.iload_n 1, 1) := by decide +kernel
theorem dL_formatEcho_2 : decode cL_formatEcho 2 = .ok (.invokevirtual 203, 3) := by decide +kernel
theorem dL_formatEcho_5 : decode cL_formatEcho 5 = .ok (.i2l, 1) := by decide +kernel
theorem dL_formatEcho_6 : decode cL_formatEcho 6 = .ok (.lreturn, 1) := by decide +kernel
theorem dL_formatEcho_7 : decode cL_formatEcho 7 = .ok (.astore_n 2, 1) := by decide +kernel
theorem dL_formatEcho_8 : decode cL_formatEcho 8 = .ok (.ldc2_w 17, 3) := by decide +kernel
theorem dL_formatEcho_11 : decode cL_formatEcho 11 = .ok (.lreturn, 1) := by decide +kernel
theorem dL_lineChar_0 : decode cL_lineChar 0 = .ok (.aload_n 0, 1) := by decide +kernel
theorem dL_lineChar_1 : decode cL_lineChar 1 = .ok (.iload_n 1, 1) := by decide +kernel
theorem dL_lineChar_2 : decode cL_lineChar 2 = .ok (.invokevirtual 206, 3) := by decide +kernel
theorem dL_lineChar_5 : decode cL_lineChar 5 = .ok (.i2l, 1) := by decide +kernel
theorem dL_lineChar_6 : decode cL_lineChar 6 = .ok (.lreturn, 1) := by decide +kernel
theorem dL_lineChar_7 : decode cL_lineChar 7 = .ok (.astore_n 2, 1) := by decide +kernel
theorem dL_lineChar_8 : decode cL_lineChar 8 = .ok (.ldc2_w 17, 3) := by decide +kernel
theorem dL_lineChar_11 : decode cL_lineChar 11 = .ok (.lreturn, 1) := by decide +kernel
theorem dL_append_0 : decode cL_append 0 = .ok (.aload_n 0, 1) := by decide +kernel
theorem dL_append_1 : decode cL_append 1 = .ok (.iload_n 1, 1) := by decide +kernel
theorem dL_append_2 : decode cL_append 2 = .ok (.invokevirtual 210, 3) := by decide +kernel
theorem dL_append_5 : decode cL_append 5 = .ok (.i2l, 1) := by decide +kernel
theorem dL_append_6 : decode cL_append 6 = .ok (.lreturn, 1) := by decide +kernel
theorem dL_append_7 : decode cL_append 7 = .ok (.astore_n 2, 1) := by decide +kernel
theorem dL_append_8 : decode cL_append 8 = .ok (.ldc2_w 17, 3) := by decide +kernel
theorem dL_append_11 : decode cL_append 11 = .ok (.lreturn, 1) := by decide +kernel
theorem dL_append_12 : decode cL_append 12 = .ok (.astore_n 2, 1) := by decide +kernel
theorem dL_append_13 : decode cL_append 13 = .ok (.ldc2_w 21, 3) := by decide +kernel
theorem dL_append_16 : decode cL_append 16 = .ok (.lreturn, 1) := by decide +kernel
theorem dL_run_0 : decode cL_run 0 = .ok (.aload_n 0, 1) := by decide +kernel
theorem dL_run_1 : decode cL_run 1 = .ok (.invokevirtual 213, 3) := by decide +kernel
theorem dL_run_4 : decode cL_run 4 = .ok (.i2l, 1) := by decide +kernel
theorem dL_run_5 : decode cL_run 5 = .ok (.lreturn, 1) := by decide +kernel
theorem dL_run_6 : decode cL_run 6 = .ok (.astore_n 1, 1) := by decide +kernel
theorem dL_run_7 : decode cL_run 7 = .ok (.ldc2_w 17, 3) := by decide +kernel
theorem dL_run_10 : decode cL_run 10 = .ok (.lreturn, 1) := by decide +kernel
theorem dL_run_11 : decode cL_run 11 = .ok (.astore_n 1, 1) := by decide +kernel
theorem dL_run_12 : decode cL_run 12 = .ok (.ldc2_w 21, 3) := by decide +kernel
theorem dL_run_15 : decode cL_run 15 = .ok (.lreturn, 1) := by decide +kernel
theorem dL_undo_0 : decode cL_undo 0 = .ok (.aload_n 0, 1) := by decide +kernel
theorem dL_undo_1 : decode cL_undo 1 = .ok (.invokevirtual 225, 3) := by decide +kernel
theorem dL_undo_4 : decode cL_undo 4 = .ok (.i2l, 1) := by decide +kernel
theorem dL_undo_5 : decode cL_undo 5 = .ok (.lreturn, 1) := by decide +kernel
theorem dL_undo_6 : decode cL_undo 6 = .ok (.astore_n 1, 1) := by decide +kernel
theorem dL_undo_7 : decode cL_undo 7 = .ok (.ldc2_w 17, 3) := by decide +kernel
theorem dL_undo_10 : decode cL_undo 10 = .ok (.lreturn, 1) := by decide +kernel
theorem dL_restore_0 : decode cL_restore 0 = .ok (.aload_n 0, 1) := by decide +kernel
theorem dL_restore_1 : decode cL_restore 1 = .ok (.invokevirtual 231, 3) := by decide +kernel
theorem dL_restore_4 : decode cL_restore 4 = .ok (.i2l, 1) := by decide +kernel
theorem dL_restore_5 : decode cL_restore 5 = .ok (.lreturn, 1) := by decide +kernel
theorem dL_restore_6 : decode cL_restore 6 = .ok (.astore_n 1, 1) := by decide +kernel
theorem dL_restore_7 : decode cL_restore 7 = .ok (.ldc2_w 17, 3) := by decide +kernel
theorem dL_restore_10 : decode cL_restore 10 = .ok (.lreturn, 1) := by decide +kernel
theorem dL_cell_0 : decode cL_cell 0 = .ok (.iload_n 1, 1) := by decide +kernel
theorem dL_cell_1 : decode cL_cell 1 = .ok (.aload_n 0, 1) := by decide +kernel
theorem dL_cell_2 : decode cL_cell 2 = .ok (.arraylength, 1) := by decide +kernel
theorem dL_cell_3 : decode cL_cell 3 = .ok (.if_icmp .ge 9, 3) := by decide +kernel
theorem dL_cell_6 : decode cL_cell 6 = .ok (.aload_n 0, 1) := by decide +kernel
theorem dL_cell_7 : decode cL_cell 7 = .ok (.iload_n 1, 1) := by decide +kernel
theorem dL_cell_8 : decode cL_cell 8 = .ok (.iaload, 1) := by decide +kernel
theorem dL_cell_9 : decode cL_cell 9 = .ok (.goto 11, 3) := by decide +kernel
theorem dL_cell_12 : decode cL_cell 12 = .ok (.sipush 7919, 3) := by decide +kernel
theorem dL_cell_15 : decode cL_cell 15 = .ok (.iload_n 1, 1) := by decide +kernel
theorem dL_cell_16 : decode cL_cell 16 = .ok (.imul, 1) := by decide +kernel
theorem dL_cell_17 : decode cL_cell 17 = .ok (.bipush 12, 2) := by decide +kernel
theorem dL_cell_19 : decode cL_cell 19 = .ok (.iadd, 1) := by decide +kernel
theorem dL_cell_20 : decode cL_cell 20 = .ok (.ireturn, 1) := by decide +kernel
theorem dL_chosen_0 : decode cL_chosen 0 = .ok (.iload_n 0, 1) := by decide +kernel
theorem dL_chosen_1 : decode cL_chosen 1 = .ok (.ldc 234, 2) := by decide +kernel
theorem dL_chosen_3 : decode cL_chosen 3 = .ok (.iand, 1) := by decide +kernel
theorem dL_chosen_4 : decode cL_chosen 4 = .ok (.iload_n 1, 1) := by decide +kernel
theorem dL_chosen_5 : decode cL_chosen 5 = .ok (.irem, 1) := by decide +kernel
theorem dL_chosen_6 : decode cL_chosen 6 = .ok (.ireturn, 1) := by decide +kernel
theorem dL_runs_0 : decode cL_runs 0 = .ok (.iconst 0, 1) := by decide +kernel
theorem dL_runs_1 : decode cL_runs 1 = .ok (.istore_n 2, 1) := by decide +kernel
theorem dL_runs_2 : decode cL_runs 2 = .ok (.iload_n 2, 1) := by decide +kernel
theorem dL_runs_3 : decode cL_runs 3 = .ok (.aload_n 1, 1) := by decide +kernel
theorem dL_runs_4 : decode cL_runs 4 = .ok (.invokevirtual 235, 3) := by decide +kernel
theorem dL_runs_7 : decode cL_runs 7 = .ok (.if_icmp .ge 19, 3) := by decide +kernel
theorem dL_runs_10 : decode cL_runs 10 = .ok (.aload_n 0, 1) := by decide +kernel
theorem dL_runs_11 : decode cL_runs 11 = .ok (.aload_n 1, 1) := by decide +kernel
theorem dL_runs_12 : decode cL_runs 12 = .ok (.iload_n 2, 1) := by decide +kernel
theorem dL_runs_13 : decode cL_runs 13 = .ok (.invokevirtual 240, 3) := by decide +kernel
theorem dL_runs_16 : decode cL_runs 16 = .ok (.invokestatic 243, 3) := by decide +kernel
theorem dL_runs_19 : decode cL_runs 19 = .ok (.pop2, 1) := by decide +kernel
theorem dL_runs_20 : decode cL_runs 20 = .ok (.iinc 2 1, 3) := by decide +kernel
theorem dL_runs_23 : decode cL_runs 23 = .ok (.goto (-21), 3) := by decide +kernel
theorem dL_runs_26 : decode cL_runs 26 = .ok (.aload_n 0, 1) := by decide +kernel
theorem dL_runs_27 : decode cL_runs 27 = .ok (.invokestatic 246, 3) := by decide +kernel
theorem dL_runs_30 : decode cL_runs 30 = .ok (.lreturn, 1) := by decide +kernel
theorem dL_mark_0 : decode cL_mark 0 = .ok (.ldc2_w 249, 3) := by decide +kernel
theorem dL_mark_3 : decode cL_mark 3 = .ok (.ldc2_w 251, 3) := by decide +kernel
theorem dL_mark_6 : decode cL_mark 6 = .ok (.aload_n 0, 1) := by decide +kernel
theorem dL_mark_7 : decode cL_mark 7 = .ok (.invokevirtual 158, 3) := by decide +kernel
theorem dL_mark_10 : decode cL_mark 10 = .ok (.i2l, 1) := by decide +kernel
theorem dL_mark_11 : decode cL_mark 11 = .ok (.lmul, 1) := by decide +kernel
theorem dL_mark_12 : decode cL_mark 12 = .ok (.ladd, 1) := by decide +kernel
theorem dL_mark_13 : decode cL_mark 13 = .ok (.ldc2_w 253, 3) := by decide +kernel
theorem dL_mark_16 : decode cL_mark 16 = .ok (.aload_n 0, 1) := by decide +kernel
theorem dL_mark_17 : decode cL_mark 17 = .ok (.invokevirtual 161, 3) := by decide +kernel
theorem dL_mark_20 : decode cL_mark 20 = .ok (.i2l, 1) := by decide +kernel
theorem dL_mark_21 : decode cL_mark 21 = .ok (.lmul, 1) := by decide +kernel
theorem dL_mark_22 : decode cL_mark 22 = .ok (.ladd, 1) := by decide +kernel
theorem dL_mark_23 : decode cL_mark 23 = .ok (.ldc2_w 255, 3) := by decide +kernel
theorem dL_mark_26 : decode cL_mark 26 = .ok (.aload_n 0, 1) := by decide +kernel
theorem dL_mark_27 : decode cL_mark 27 = .ok (.invokevirtual 164, 3) := by decide +kernel
theorem dL_mark_30 : decode cL_mark 30 = .ok (.lmul, 1) := by decide +kernel
theorem dL_mark_31 : decode cL_mark 31 = .ok (.ladd, 1) := by decide +kernel
theorem dL_mark_32 : decode cL_mark 32 = .ok (.ldc2_w 257, 3) := by decide +kernel
theorem dL_mark_35 : decode cL_mark 35 = .ok (.aload_n 0, 1) := by decide +kernel
theorem dL_mark_36 : decode cL_mark 36 = .ok (.invokevirtual 168, 3) := by decide +kernel
theorem dL_mark_39 : decode cL_mark 39 = .ok (.lmul, 1) := by decide +kernel
theorem dL_mark_40 : decode cL_mark 40 = .ok (.ladd, 1) := by decide +kernel
theorem dL_mark_41 : decode cL_mark 41 = .ok (.lstore_n 1, 1) := by decide +kernel
theorem dL_mark_42 : decode cL_mark 42 = .ok (.iconst 0, 1) := by decide +kernel
theorem dL_mark_43 : decode cL_mark 43 = .ok (.istore_n 3, 1) := by decide +kernel
theorem dL_mark_44 : decode cL_mark 44 = .ok (.iload_n 3, 1) := by decide +kernel
theorem dL_mark_45 : decode cL_mark 45 = .ok (.aload_n 0, 1) := by decide +kernel
theorem dL_mark_46 : decode cL_mark 46 = .ok (.invokevirtual 64, 3) := by decide +kernel
theorem dL_mark_49 : decode cL_mark 49 = .ok (.if_icmp .ge 59, 3) := by decide +kernel
theorem dL_mark_52 : decode cL_mark 52 = .ok (.aload_n 0, 1) := by decide +kernel
theorem dL_mark_53 : decode cL_mark 53 = .ok (.iload_n 3, 1) := by decide +kernel
theorem dL_mark_54 : decode cL_mark 54 = .ok (.invokestatic 259, 3) := by decide +kernel
theorem dL_mark_57 : decode cL_mark 57 = .ok (.lstore 4, 2) := by decide +kernel
theorem dL_mark_59 : decode cL_mark 59 = .ok (.iconst 0, 1) := by decide +kernel
theorem dL_mark_60 : decode cL_mark 60 = .ok (.istore 6, 2) := by decide +kernel
theorem dL_mark_62 : decode cL_mark 62 = .ok (.iload 6, 2) := by decide +kernel
theorem dL_mark_64 : decode cL_mark 64 = .ok (.i2l, 1) := by decide +kernel
theorem dL_mark_65 : decode cL_mark 65 = .ok (.lload 4, 2) := by decide +kernel
theorem dL_mark_67 : decode cL_mark 67 = .ok (.lcmp, 1) := by decide +kernel
theorem dL_mark_68 : decode cL_mark 68 = .ok (.ifCond .ge 22, 3) := by decide +kernel
theorem dL_mark_71 : decode cL_mark 71 = .ok (.ldc2_w 262, 3) := by decide +kernel
theorem dL_mark_74 : decode cL_mark 74 = .ok (.lload_n 1, 1) := by decide +kernel
theorem dL_mark_75 : decode cL_mark 75 = .ok (.lmul, 1) := by decide +kernel
theorem dL_mark_76 : decode cL_mark 76 = .ok (.aload_n 0, 1) := by decide +kernel
theorem dL_mark_77 : decode cL_mark 77 = .ok (.iload 6, 2) := by decide +kernel
theorem dL_mark_79 : decode cL_mark 79 = .ok (.invokestatic 264, 3) := by decide +kernel
theorem dL_mark_82 : decode cL_mark 82 = .ok (.ladd, 1) := by decide +kernel
theorem dL_mark_83 : decode cL_mark 83 = .ok (.lstore_n 1, 1) := by decide +kernel
theorem dL_mark_84 : decode cL_mark 84 = .ok (.iinc 6 1, 3) := by decide +kernel
theorem dL_mark_87 : decode cL_mark 87 = .ok (.goto (-25), 3) := by decide +kernel
theorem dL_mark_90 : decode cL_mark 90 = .ok (.ldc2_w 262, 3) := by decide +kernel
theorem dL_mark_93 : decode cL_mark 93 = .ok (.lload_n 1, 1) := by decide +kernel
theorem dL_mark_94 : decode cL_mark 94 = .ok (.lmul, 1) := by decide +kernel
theorem dL_mark_95 : decode cL_mark 95 = .ok (.aload_n 0, 1) := by decide +kernel
theorem dL_mark_96 : decode cL_mark 96 = .ok (.iload_n 3, 1) := by decide +kernel
theorem dL_mark_97 : decode cL_mark 97 = .ok (.invokestatic 266, 3) := by decide +kernel
theorem dL_mark_100 : decode cL_mark 100 = .ok (.ladd, 1) := by decide +kernel
theorem dL_mark_101 : decode cL_mark 101 = .ok (.lstore_n 1, 1) := by decide +kernel
theorem dL_mark_102 : decode cL_mark 102 = .ok (.iinc 3 1, 3) := by decide +kernel
theorem dL_mark_105 : decode cL_mark 105 = .ok (.goto (-61), 3) := by decide +kernel
theorem dL_mark_108 : decode cL_mark 108 = .ok (.iconst 0, 1) := by decide +kernel
theorem dL_mark_109 : decode cL_mark 109 = .ok (.istore_n 3, 1) := by decide +kernel
theorem dL_mark_110 : decode cL_mark 110 = .ok (.iload_n 3, 1) := by decide +kernel
theorem dL_mark_111 : decode cL_mark 111 = .ok (.aload_n 0, 1) := by decide +kernel
theorem dL_mark_112 : decode cL_mark 112 = .ok (.invokevirtual 93, 3) := by decide +kernel
theorem dL_mark_115 : decode cL_mark 115 = .ok (.if_icmp .ge 52, 3) := by decide +kernel
theorem dL_mark_118 : decode cL_mark 118 = .ok (.aload_n 0, 1) := by decide +kernel
theorem dL_mark_119 : decode cL_mark 119 = .ok (.aload_n 0, 1) := by decide +kernel
theorem dL_mark_120 : decode cL_mark 120 = .ok (.iload_n 3, 1) := by decide +kernel
theorem dL_mark_121 : decode cL_mark 121 = .ok (.invokestatic 268, 3) := by decide +kernel
theorem dL_mark_124 : decode cL_mark 124 = .ok (.l2i, 1) := by decide +kernel
theorem dL_mark_125 : decode cL_mark 125 = .ok (.invokestatic 270, 3) := by decide +kernel
theorem dL_mark_128 : decode cL_mark 128 = .ok (.lstore 4, 2) := by decide +kernel
theorem dL_mark_130 : decode cL_mark 130 = .ok (.iconst 0, 1) := by decide +kernel
theorem dL_mark_131 : decode cL_mark 131 = .ok (.istore 6, 2) := by decide +kernel
theorem dL_mark_133 : decode cL_mark 133 = .ok (.iload 6, 2) := by decide +kernel
theorem dL_mark_135 : decode cL_mark 135 = .ok (.i2l, 1) := by decide +kernel
theorem dL_mark_136 : decode cL_mark 136 = .ok (.lload 4, 2) := by decide +kernel
theorem dL_mark_138 : decode cL_mark 138 = .ok (.lcmp, 1) := by decide +kernel
theorem dL_mark_139 : decode cL_mark 139 = .ok (.ifCond .ge 22, 3) := by decide +kernel
theorem dL_mark_142 : decode cL_mark 142 = .ok (.ldc2_w 262, 3) := by decide +kernel
theorem dL_mark_145 : decode cL_mark 145 = .ok (.lload_n 1, 1) := by decide +kernel
theorem dL_mark_146 : decode cL_mark 146 = .ok (.lmul, 1) := by decide +kernel
theorem dL_mark_147 : decode cL_mark 147 = .ok (.aload_n 0, 1) := by decide +kernel
theorem dL_mark_148 : decode cL_mark 148 = .ok (.iload 6, 2) := by decide +kernel
theorem dL_mark_150 : decode cL_mark 150 = .ok (.invokestatic 264, 3) := by decide +kernel
theorem dL_mark_153 : decode cL_mark 153 = .ok (.ladd, 1) := by decide +kernel
theorem dL_mark_154 : decode cL_mark 154 = .ok (.lstore_n 1, 1) := by decide +kernel
theorem dL_mark_155 : decode cL_mark 155 = .ok (.iinc 6 1, 3) := by decide +kernel
theorem dL_mark_158 : decode cL_mark 158 = .ok (.goto (-25), 3) := by decide +kernel
theorem dL_mark_161 : decode cL_mark 161 = .ok (.iinc 3 1, 3) := by decide +kernel
theorem dL_mark_164 : decode cL_mark 164 = .ok (.goto (-54), 3) := by decide +kernel
theorem dL_mark_167 : decode cL_mark 167 = .ok (.bipush 97, 2) := by decide +kernel
theorem dL_mark_169 : decode cL_mark 169 = .ok (.istore_n 3, 1) := by decide +kernel
theorem dL_mark_170 : decode cL_mark 170 = .ok (.iload_n 3, 1) := by decide +kernel
theorem dL_mark_171 : decode cL_mark 171 = .ok (.bipush 104, 2) := by decide +kernel
theorem dL_mark_173 : decode cL_mark 173 = .ok (.if_icmp .gt 27, 3) := by decide +kernel
theorem dL_mark_176 : decode cL_mark 176 = .ok (.ldc2_w 262, 3) := by decide +kernel
theorem dL_mark_179 : decode cL_mark 179 = .ok (.lload_n 1, 1) := by decide +kernel
theorem dL_mark_180 : decode cL_mark 180 = .ok (.lmul, 1) := by decide +kernel
theorem dL_mark_181 : decode cL_mark 181 = .ok (.aload_n 0, 1) := by decide +kernel
theorem dL_mark_182 : decode cL_mark 182 = .ok (.iload_n 3, 1) := by decide +kernel
theorem dL_mark_183 : decode cL_mark 183 = .ok (.invokestatic 272, 3) := by decide +kernel
theorem dL_mark_186 : decode cL_mark 186 = .ok (.ldc2_w 274, 3) := by decide +kernel
theorem dL_mark_189 : decode cL_mark 189 = .ok (.lrem, 1) := by decide +kernel
theorem dL_mark_190 : decode cL_mark 190 = .ok (.ladd, 1) := by decide +kernel
theorem dL_mark_191 : decode cL_mark 191 = .ok (.lstore_n 1, 1) := by decide +kernel
theorem dL_mark_192 : decode cL_mark 192 = .ok (.iload_n 3, 1) := by decide +kernel
theorem dL_mark_193 : decode cL_mark 193 = .ok (.iconst 1, 1) := by decide +kernel
theorem dL_mark_194 : decode cL_mark 194 = .ok (.iadd, 1) := by decide +kernel
theorem dL_mark_195 : decode cL_mark 195 = .ok (.i2c, 1) := by decide +kernel
theorem dL_mark_196 : decode cL_mark 196 = .ok (.istore_n 3, 1) := by decide +kernel
theorem dL_mark_197 : decode cL_mark 197 = .ok (.goto (-27), 3) := by decide +kernel
theorem dL_mark_200 : decode cL_mark 200 = .ok (.lload_n 1, 1) := by decide +kernel
theorem dL_mark_201 : decode cL_mark 201 = .ok (.lreturn, 1) := by decide +kernel
theorem dL_anId_0 : decode cL_anId 0 = .ok (.aload_n 0, 1) := by decide +kernel
theorem dL_anId_1 : decode cL_anId 1 = .ok (.invokevirtual 93, 3) := by decide +kernel
theorem dL_anId_4 : decode cL_anId 4 = .ok (.ifCond .ne 7, 3) := by decide +kernel
theorem dL_anId_7 : decode cL_anId 7 = .ok (.iconst 0, 1) := by decide +kernel
theorem dL_anId_8 : decode cL_anId 8 = .ok (.goto 14, 3) := by decide +kernel
theorem dL_anId_11 : decode cL_anId 11 = .ok (.aload_n 0, 1) := by decide +kernel
theorem dL_anId_12 : decode cL_anId 12 = .ok (.iload_n 1, 1) := by decide +kernel
theorem dL_anId_13 : decode cL_anId 13 = .ok (.aload_n 0, 1) := by decide +kernel
theorem dL_anId_14 : decode cL_anId 14 = .ok (.invokevirtual 93, 3) := by decide +kernel
theorem dL_anId_17 : decode cL_anId 17 = .ok (.irem, 1) := by decide +kernel
theorem dL_anId_18 : decode cL_anId 18 = .ok (.invokestatic 268, 3) := by decide +kernel
theorem dL_anId_21 : decode cL_anId 21 = .ok (.l2i, 1) := by decide +kernel
theorem dL_anId_22 : decode cL_anId 22 = .ok (.ireturn, 1) := by decide +kernel
theorem dL_acts_0 : decode cL_acts 0 = .ok (.iload_n 1, 1) := by decide +kernel
theorem dL_acts_1 : decode cL_acts 1 = .ok (.bipush 8, 2) := by decide +kernel
theorem dL_acts_3 : decode cL_acts 3 = .ok (.ishr, 1) := by decide +kernel
theorem dL_acts_4 : decode cL_acts 4 = .ok (.ldc_w 276, 3) := by decide +kernel
theorem dL_acts_7 : decode cL_acts 7 = .ok (.invokestatic 277, 3) := by decide +kernel
theorem dL_acts_10 : decode cL_acts 10 = .ok (.istore_n 2, 1) := by decide +kernel
theorem dL_acts_11 : decode cL_acts 11 = .ok (.aload_n 0, 1) := by decide +kernel
theorem dL_acts_12 : decode cL_acts 12 = .ok (.invokevirtual 64, 3) := by decide +kernel
theorem dL_acts_15 : decode cL_acts 15 = .ok (.istore_n 3, 1) := by decide +kernel
theorem dL_acts_16 : decode cL_acts 16 = .ok (.iload_n 1, 1) := by decide +kernel
theorem dL_acts_17 : decode cL_acts 17 = .ok (.bipush 24, 2) := by decide +kernel
theorem dL_acts_19 : decode cL_acts 19 = .ok (.invokestatic 277, 3) := by decide +kernel
theorem dL_acts_22 : decode cL_acts 22 = .ok (.tableswitch 260 0 18 #[90, 101, 101, 117, 133, 133, 133, 133, 133, 151, 151, 167, 177, 177, 177, 195, 205, 233, 252], 90) := by decide +kernel
theorem dL_acts_112 : decode cL_acts 112 = .ok (.aload_n 0, 1) := by decide +kernel
theorem dL_acts_113 : decode cL_acts 113 = .ok (.iconst 1, 1) := by decide +kernel
theorem dL_acts_114 : decode cL_acts 114 = .ok (.iload_n 2, 1) := by decide +kernel
theorem dL_acts_115 : decode cL_acts 115 = .ok (.bipush 12, 2) := by decide +kernel
theorem dL_acts_117 : decode cL_acts 117 = .ok (.irem, 1) := by decide +kernel
theorem dL_acts_118 : decode cL_acts 118 = .ok (.iadd, 1) := by decide +kernel
theorem dL_acts_119 : decode cL_acts 119 = .ok (.invokestatic 280, 3) := by decide +kernel
theorem dL_acts_122 : decode cL_acts 122 = .ok (.lreturn, 1) := by decide +kernel
theorem dL_acts_123 : decode cL_acts 123 = .ok (.aload_n 0, 1) := by decide +kernel
theorem dL_acts_124 : decode cL_acts 124 = .ok (.iload_n 2, 1) := by decide +kernel
theorem dL_acts_125 : decode cL_acts 125 = .ok (.iload_n 3, 1) := by decide +kernel
theorem dL_acts_126 : decode cL_acts 126 = .ok (.irem, 1) := by decide +kernel
theorem dL_acts_127 : decode cL_acts 127 = .ok (.iconst 1, 1) := by decide +kernel
theorem dL_acts_128 : decode cL_acts 128 = .ok (.iload_n 2, 1) := by decide +kernel
theorem dL_acts_129 : decode cL_acts 129 = .ok (.bipush 8, 2) := by decide +kernel
theorem dL_acts_131 : decode cL_acts 131 = .ok (.idiv, 1) := by decide +kernel
theorem dL_acts_132 : decode cL_acts 132 = .ok (.iconst 3, 1) := by decide +kernel
theorem dL_acts_133 : decode cL_acts 133 = .ok (.irem, 1) := by decide +kernel
theorem dL_acts_134 : decode cL_acts 134 = .ok (.iadd, 1) := by decide +kernel
theorem dL_acts_135 : decode cL_acts 135 = .ok (.invokestatic 282, 3) := by decide +kernel
theorem dL_acts_138 : decode cL_acts 138 = .ok (.lreturn, 1) := by decide +kernel
theorem dL_acts_139 : decode cL_acts 139 = .ok (.aload_n 0, 1) := by decide +kernel
theorem dL_acts_140 : decode cL_acts 140 = .ok (.iload_n 2, 1) := by decide +kernel
theorem dL_acts_141 : decode cL_acts 141 = .ok (.iload_n 3, 1) := by decide +kernel
theorem dL_acts_142 : decode cL_acts 142 = .ok (.irem, 1) := by decide +kernel
theorem dL_acts_143 : decode cL_acts 143 = .ok (.iconst 1, 1) := by decide +kernel
theorem dL_acts_144 : decode cL_acts 144 = .ok (.iload_n 2, 1) := by decide +kernel
theorem dL_acts_145 : decode cL_acts 145 = .ok (.bipush 8, 2) := by decide +kernel
theorem dL_acts_147 : decode cL_acts 147 = .ok (.idiv, 1) := by decide +kernel
theorem dL_acts_148 : decode cL_acts 148 = .ok (.iconst 3, 1) := by decide +kernel
theorem dL_acts_149 : decode cL_acts 149 = .ok (.irem, 1) := by decide +kernel
theorem dL_acts_150 : decode cL_acts 150 = .ok (.iadd, 1) := by decide +kernel
theorem dL_acts_151 : decode cL_acts 151 = .ok (.invokestatic 285, 3) := by decide +kernel
theorem dL_acts_154 : decode cL_acts 154 = .ok (.lreturn, 1) := by decide +kernel
theorem dL_acts_155 : decode cL_acts 155 = .ok (.aload_n 0, 1) := by decide +kernel
theorem dL_acts_156 : decode cL_acts 156 = .ok (.iload_n 2, 1) := by decide +kernel
theorem dL_acts_157 : decode cL_acts 157 = .ok (.iload_n 3, 1) := by decide +kernel
theorem dL_acts_158 : decode cL_acts 158 = .ok (.irem, 1) := by decide +kernel
theorem dL_acts_159 : decode cL_acts 159 = .ok (.iconst 1, 1) := by decide +kernel
theorem dL_acts_160 : decode cL_acts 160 = .ok (.iload_n 2, 1) := by decide +kernel
theorem dL_acts_161 : decode cL_acts 161 = .ok (.bipush 8, 2) := by decide +kernel
theorem dL_acts_163 : decode cL_acts 163 = .ok (.idiv, 1) := by decide +kernel
theorem dL_acts_164 : decode cL_acts 164 = .ok (.sipush 999, 3) := by decide +kernel
theorem dL_acts_167 : decode cL_acts 167 = .ok (.irem, 1) := by decide +kernel
theorem dL_acts_168 : decode cL_acts 168 = .ok (.iadd, 1) := by decide +kernel
theorem dL_acts_169 : decode cL_acts 169 = .ok (.invokestatic 287, 3) := by decide +kernel
theorem dL_acts_172 : decode cL_acts 172 = .ok (.lreturn, 1) := by decide +kernel
theorem dL_acts_173 : decode cL_acts 173 = .ok (.aload_n 0, 1) := by decide +kernel
theorem dL_acts_174 : decode cL_acts 174 = .ok (.aload_n 0, 1) := by decide +kernel
theorem dL_acts_175 : decode cL_acts 175 = .ok (.iload_n 2, 1) := by decide +kernel
theorem dL_acts_176 : decode cL_acts 176 = .ok (.bipush 8, 2) := by decide +kernel
theorem dL_acts_178 : decode cL_acts 178 = .ok (.idiv, 1) := by decide +kernel
theorem dL_acts_179 : decode cL_acts 179 = .ok (.invokestatic 289, 3) := by decide +kernel
theorem dL_acts_182 : decode cL_acts 182 = .ok (.iload_n 2, 1) := by decide +kernel
theorem dL_acts_183 : decode cL_acts 183 = .ok (.iload_n 3, 1) := by decide +kernel
theorem dL_acts_184 : decode cL_acts 184 = .ok (.irem, 1) := by decide +kernel
theorem dL_acts_185 : decode cL_acts 185 = .ok (.invokestatic 293, 3) := by decide +kernel
theorem dL_acts_188 : decode cL_acts 188 = .ok (.lreturn, 1) := by decide +kernel
theorem dL_acts_189 : decode cL_acts 189 = .ok (.aload_n 0, 1) := by decide +kernel
theorem dL_acts_190 : decode cL_acts 190 = .ok (.aload_n 0, 1) := by decide +kernel
theorem dL_acts_191 : decode cL_acts 191 = .ok (.iload_n 2, 1) := by decide +kernel
theorem dL_acts_192 : decode cL_acts 192 = .ok (.invokestatic 289, 3) := by decide +kernel
theorem dL_acts_195 : decode cL_acts 195 = .ok (.invokestatic 295, 3) := by decide +kernel
theorem dL_acts_198 : decode cL_acts 198 = .ok (.lreturn, 1) := by decide +kernel
theorem dL_acts_199 : decode cL_acts 199 = .ok (.aload_n 0, 1) := by decide +kernel
theorem dL_acts_200 : decode cL_acts 200 = .ok (.aload_n 0, 1) := by decide +kernel
theorem dL_acts_201 : decode cL_acts 201 = .ok (.iload_n 2, 1) := by decide +kernel
theorem dL_acts_202 : decode cL_acts 202 = .ok (.invokestatic 289, 3) := by decide +kernel
theorem dL_acts_205 : decode cL_acts 205 = .ok (.aload_n 0, 1) := by decide +kernel
theorem dL_acts_206 : decode cL_acts 206 = .ok (.iload_n 2, 1) := by decide +kernel
theorem dL_acts_207 : decode cL_acts 207 = .ok (.bipush 24, 2) := by decide +kernel
theorem dL_acts_209 : decode cL_acts 209 = .ok (.idiv, 1) := by decide +kernel
theorem dL_acts_210 : decode cL_acts 210 = .ok (.invokestatic 289, 3) := by decide +kernel
theorem dL_acts_213 : decode cL_acts 213 = .ok (.invokestatic 297, 3) := by decide +kernel
theorem dL_acts_216 : decode cL_acts 216 = .ok (.lreturn, 1) := by decide +kernel
theorem dL_acts_217 : decode cL_acts 217 = .ok (.aload_n 0, 1) := by decide +kernel
theorem dL_acts_218 : decode cL_acts 218 = .ok (.aload_n 0, 1) := by decide +kernel
theorem dL_acts_219 : decode cL_acts 219 = .ok (.iload_n 2, 1) := by decide +kernel
theorem dL_acts_220 : decode cL_acts 220 = .ok (.invokestatic 289, 3) := by decide +kernel
theorem dL_acts_223 : decode cL_acts 223 = .ok (.invokestatic 299, 3) := by decide +kernel
theorem dL_acts_226 : decode cL_acts 226 = .ok (.lreturn, 1) := by decide +kernel
theorem dL_acts_227 : decode cL_acts 227 = .ok (.iload_n 2, 1) := by decide +kernel
theorem dL_acts_228 : decode cL_acts 228 = .ok (.iconst 2, 1) := by decide +kernel
theorem dL_acts_229 : decode cL_acts 229 = .ok (.irem, 1) := by decide +kernel
theorem dL_acts_230 : decode cL_acts 230 = .ok (.ifCond .ne 15, 3) := by decide +kernel
theorem dL_acts_233 : decode cL_acts 233 = .ok (.aload_n 0, 1) := by decide +kernel
theorem dL_acts_234 : decode cL_acts 234 = .ok (.iload_n 2, 1) := by decide +kernel
theorem dL_acts_235 : decode cL_acts 235 = .ok (.iconst 2, 1) := by decide +kernel
theorem dL_acts_236 : decode cL_acts 236 = .ok (.idiv, 1) := by decide +kernel
theorem dL_acts_237 : decode cL_acts 237 = .ok (.iload_n 3, 1) := by decide +kernel
theorem dL_acts_238 : decode cL_acts 238 = .ok (.irem, 1) := by decide +kernel
theorem dL_acts_239 : decode cL_acts 239 = .ok (.invokestatic 301, 3) := by decide +kernel
theorem dL_acts_242 : decode cL_acts 242 = .ok (.goto 12, 3) := by decide +kernel
theorem dL_acts_245 : decode cL_acts 245 = .ok (.aload_n 0, 1) := by decide +kernel
theorem dL_acts_246 : decode cL_acts 246 = .ok (.iload_n 2, 1) := by decide +kernel
theorem dL_acts_247 : decode cL_acts 247 = .ok (.iconst 2, 1) := by decide +kernel
theorem dL_acts_248 : decode cL_acts 248 = .ok (.idiv, 1) := by decide +kernel
theorem dL_acts_249 : decode cL_acts 249 = .ok (.iload_n 3, 1) := by decide +kernel
theorem dL_acts_250 : decode cL_acts 250 = .ok (.irem, 1) := by decide +kernel
theorem dL_acts_251 : decode cL_acts 251 = .ok (.invokestatic 303, 3) := by decide +kernel
theorem dL_acts_254 : decode cL_acts 254 = .ok (.lreturn, 1) := by decide +kernel
theorem dL_acts_255 : decode cL_acts 255 = .ok (.aload_n 0, 1) := by decide +kernel
theorem dL_acts_256 : decode cL_acts 256 = .ok (.bipush 97, 2) := by decide +kernel
theorem dL_acts_258 : decode cL_acts 258 = .ok (.iload_n 2, 1) := by decide +kernel
theorem dL_acts_259 : decode cL_acts 259 = .ok (.bipush 8, 2) := by decide +kernel
theorem dL_acts_261 : decode cL_acts 261 = .ok (.irem, 1) := by decide +kernel
theorem dL_acts_262 : decode cL_acts 262 = .ok (.iadd, 1) := by decide +kernel
theorem dL_acts_263 : decode cL_acts 263 = .ok (.i2c, 1) := by decide +kernel
theorem dL_acts_264 : decode cL_acts 264 = .ok (.iload_n 2, 1) := by decide +kernel
theorem dL_acts_265 : decode cL_acts 265 = .ok (.bipush 8, 2) := by decide +kernel
theorem dL_acts_267 : decode cL_acts 267 = .ok (.idiv, 1) := by decide +kernel
theorem dL_acts_268 : decode cL_acts 268 = .ok (.iload_n 3, 1) := by decide +kernel
theorem dL_acts_269 : decode cL_acts 269 = .ok (.irem, 1) := by decide +kernel
theorem dL_acts_270 : decode cL_acts 270 = .ok (.invokestatic 305, 3) := by decide +kernel
theorem dL_acts_273 : decode cL_acts 273 = .ok (.lreturn, 1) := by decide +kernel
theorem dL_acts_274 : decode cL_acts 274 = .ok (.aload_n 0, 1) := by decide +kernel
theorem dL_acts_275 : decode cL_acts 275 = .ok (.iload_n 2, 1) := by decide +kernel
theorem dL_acts_276 : decode cL_acts 276 = .ok (.iload_n 3, 1) := by decide +kernel
theorem dL_acts_277 : decode cL_acts 277 = .ok (.irem, 1) := by decide +kernel
theorem dL_acts_278 : decode cL_acts 278 = .ok (.invokestatic 308, 3) := by decide +kernel
theorem dL_acts_281 : decode cL_acts 281 = .ok (.lreturn, 1) := by decide +kernel
theorem dL_acts_282 : decode cL_acts 282 = .ok (.aload_n 0, 1) := by decide +kernel
theorem dL_acts_283 : decode cL_acts 283 = .ok (.getstatic 310, 3) := by decide +kernel
theorem dL_acts_286 : decode cL_acts 286 = .ok (.iload_n 2, 1) := by decide +kernel
theorem dL_acts_287 : decode cL_acts 287 = .ok (.bipush 8, 2) := by decide +kernel
theorem dL_acts_289 : decode cL_acts 289 = .ok (.irem, 1) := by decide +kernel
theorem dL_acts_290 : decode cL_acts 290 = .ok (.aaload, 1) := by decide +kernel
theorem dL_acts_291 : decode cL_acts 291 = .ok (.invokestatic 314, 3) := by decide +kernel
theorem dL_acts_294 : decode cL_acts 294 = .ok (.lreturn, 1) := by decide +kernel
theorem dL_spreads_0 : decode cL_spreads 0 = .ok (.aload_n 0, 1) := by decide +kernel
theorem dL_spreads_1 : decode cL_spreads 1 = .ok (.invokestatic 318, 3) := by decide +kernel
theorem dL_spreads_4 : decode cL_spreads 4 = .ok (.lstore_n 2, 1) := by decide +kernel
theorem dL_spreads_5 : decode cL_spreads 5 = .ok (.aload_n 0, 1) := by decide +kernel
theorem dL_spreads_6 : decode cL_spreads 6 = .ok (.iload_n 1, 1) := by decide +kernel
theorem dL_spreads_7 : decode cL_spreads 7 = .ok (.invokestatic 321, 3) := by decide +kernel
theorem dL_spreads_10 : decode cL_spreads 10 = .ok (.lstore 4, 2) := by decide +kernel
theorem dL_spreads_12 : decode cL_spreads 12 = .ok (.aload_n 0, 1) := by decide +kernel
theorem dL_spreads_13 : decode cL_spreads 13 = .ok (.iload_n 1, 1) := by decide +kernel
theorem dL_spreads_14 : decode cL_spreads 14 = .ok (.invokestatic 308, 3) := by decide +kernel
theorem dL_spreads_17 : decode cL_spreads 17 = .ok (.lstore 6, 2) := by decide +kernel
theorem dL_spreads_19 : decode cL_spreads 19 = .ok (.lload 6, 2) := by decide +kernel
theorem dL_spreads_21 : decode cL_spreads 21 = .ok (.lconst 0, 1) := by decide +kernel
theorem dL_spreads_22 : decode cL_spreads 22 = .ok (.lcmp, 1) := by decide +kernel
theorem dL_spreads_23 : decode cL_spreads 23 = .ok (.ifCond .ge 28, 3) := by decide +kernel
theorem dL_spreads_26 : decode cL_spreads 26 = .ok (.aload_n 0, 1) := by decide +kernel
theorem dL_spreads_27 : decode cL_spreads 27 = .ok (.iload_n 1, 1) := by decide +kernel
theorem dL_spreads_28 : decode cL_spreads 28 = .ok (.invokestatic 323, 3) := by decide +kernel
theorem dL_spreads_31 : decode cL_spreads 31 = .ok (.lconst 1, 1) := by decide +kernel
theorem dL_spreads_32 : decode cL_spreads 32 = .ok (.lcmp, 1) := by decide +kernel
theorem dL_spreads_33 : decode cL_spreads 33 = .ok (.ifCond .ne 16, 3) := by decide +kernel
theorem dL_spreads_36 : decode cL_spreads 36 = .ok (.aload_n 0, 1) := by decide +kernel
theorem dL_spreads_37 : decode cL_spreads 37 = .ok (.invokestatic 318, 3) := by decide +kernel
theorem dL_spreads_40 : decode cL_spreads 40 = .ok (.lload_n 2, 1) := by decide +kernel
theorem dL_spreads_41 : decode cL_spreads 41 = .ok (.lcmp, 1) := by decide +kernel
theorem dL_spreads_42 : decode cL_spreads 42 = .ok (.ifCond .ne 7, 3) := by decide +kernel
theorem dL_spreads_45 : decode cL_spreads 45 = .ok (.iconst 1, 1) := by decide +kernel
theorem dL_spreads_46 : decode cL_spreads 46 = .ok (.goto 4, 3) := by decide +kernel
theorem dL_spreads_49 : decode cL_spreads 49 = .ok (.iconst 0, 1) := by decide +kernel
theorem dL_spreads_50 : decode cL_spreads 50 = .ok (.ireturn, 1) := by decide +kernel
theorem dL_spreads_51 : decode cL_spreads 51 = .ok (.iconst 0, 1) := by decide +kernel
theorem dL_spreads_52 : decode cL_spreads 52 = .ok (.istore 8, 2) := by decide +kernel
theorem dL_spreads_54 : decode cL_spreads 54 = .ok (.iconst 0, 1) := by decide +kernel
theorem dL_spreads_55 : decode cL_spreads 55 = .ok (.istore 9, 2) := by decide +kernel
theorem dL_spreads_57 : decode cL_spreads 57 = .ok (.iload 9, 2) := by decide +kernel
theorem dL_spreads_59 : decode cL_spreads 59 = .ok (.aload_n 0, 1) := by decide +kernel
theorem dL_spreads_60 : decode cL_spreads 60 = .ok (.invokevirtual 64, 3) := by decide +kernel
theorem dL_spreads_63 : decode cL_spreads 63 = .ok (.if_icmp .ge 46, 3) := by decide +kernel
theorem dL_spreads_66 : decode cL_spreads 66 = .ok (.iload 8, 2) := by decide +kernel
theorem dL_spreads_68 : decode cL_spreads 68 = .ok (.aload_n 0, 1) := by decide +kernel
theorem dL_spreads_69 : decode cL_spreads 69 = .ok (.iload 9, 2) := by decide +kernel
theorem dL_spreads_71 : decode cL_spreads 71 = .ok (.invokestatic 323, 3) := by decide +kernel
theorem dL_spreads_74 : decode cL_spreads 74 = .ok (.lconst 0, 1) := by decide +kernel
theorem dL_spreads_75 : decode cL_spreads 75 = .ok (.lcmp, 1) := by decide +kernel
theorem dL_spreads_76 : decode cL_spreads 76 = .ok (.ifCond .ne 23, 3) := by decide +kernel
theorem dL_spreads_79 : decode cL_spreads 79 = .ok (.aload_n 0, 1) := by decide +kernel
theorem dL_spreads_80 : decode cL_spreads 80 = .ok (.iload 9, 2) := by decide +kernel
theorem dL_spreads_82 : decode cL_spreads 82 = .ok (.invokestatic 321, 3) := by decide +kernel
theorem dL_spreads_85 : decode cL_spreads 85 = .ok (.aload_n 0, 1) := by decide +kernel
theorem dL_spreads_86 : decode cL_spreads 86 = .ok (.iload 9, 2) := by decide +kernel
theorem dL_spreads_88 : decode cL_spreads 88 = .ok (.invokestatic 325, 3) := by decide +kernel
theorem dL_spreads_91 : decode cL_spreads 91 = .ok (.lcmp, 1) := by decide +kernel
theorem dL_spreads_92 : decode cL_spreads 92 = .ok (.ifCond .ge 7, 3) := by decide +kernel
theorem dL_spreads_95 : decode cL_spreads 95 = .ok (.iconst 1, 1) := by decide +kernel
theorem dL_spreads_96 : decode cL_spreads 96 = .ok (.goto 4, 3) := by decide +kernel
theorem dL_spreads_99 : decode cL_spreads 99 = .ok (.iconst 0, 1) := by decide +kernel
theorem dL_spreads_100 : decode cL_spreads 100 = .ok (.ior, 1) := by decide +kernel
theorem dL_spreads_101 : decode cL_spreads 101 = .ok (.istore 8, 2) := by decide +kernel
theorem dL_spreads_103 : decode cL_spreads 103 = .ok (.iinc 9 1, 3) := by decide +kernel
theorem dL_spreads_106 : decode cL_spreads 106 = .ok (.goto (-49), 3) := by decide +kernel
theorem dL_spreads_109 : decode cL_spreads 109 = .ok (.aload_n 0, 1) := by decide +kernel
theorem dL_spreads_110 : decode cL_spreads 110 = .ok (.iload_n 1, 1) := by decide +kernel
theorem dL_spreads_111 : decode cL_spreads 111 = .ok (.invokestatic 321, 3) := by decide +kernel
theorem dL_spreads_114 : decode cL_spreads 114 = .ok (.lload 4, 2) := by decide +kernel
theorem dL_spreads_116 : decode cL_spreads 116 = .ok (.lload 6, 2) := by decide +kernel
theorem dL_spreads_118 : decode cL_spreads 118 = .ok (.lsub, 1) := by decide +kernel
theorem dL_spreads_119 : decode cL_spreads 119 = .ok (.lcmp, 1) := by decide +kernel
theorem dL_spreads_120 : decode cL_spreads 120 = .ok (.ifCond .ne 29, 3) := by decide +kernel
theorem dL_spreads_123 : decode cL_spreads 123 = .ok (.aload_n 0, 1) := by decide +kernel
theorem dL_spreads_124 : decode cL_spreads 124 = .ok (.iload_n 1, 1) := by decide +kernel
theorem dL_spreads_125 : decode cL_spreads 125 = .ok (.invokestatic 327, 3) := by decide +kernel
theorem dL_spreads_128 : decode cL_spreads 128 = .ok (.lconst 0, 1) := by decide +kernel
theorem dL_spreads_129 : decode cL_spreads 129 = .ok (.lcmp, 1) := by decide +kernel
theorem dL_spreads_130 : decode cL_spreads 130 = .ok (.ifCond .eq 8, 3) := by decide +kernel
theorem dL_spreads_133 : decode cL_spreads 133 = .ok (.iload 8, 2) := by decide +kernel
theorem dL_spreads_135 : decode cL_spreads 135 = .ok (.ifCond .ne 14, 3) := by decide +kernel
theorem dL_spreads_138 : decode cL_spreads 138 = .ok (.aload_n 0, 1) := by decide +kernel
theorem dL_spreads_139 : decode cL_spreads 139 = .ok (.invokevirtual 196, 3) := by decide +kernel
theorem dL_spreads_142 : decode cL_spreads 142 = .ok (.ifCond .eq 7, 3) := by decide +kernel
theorem dL_spreads_145 : decode cL_spreads 145 = .ok (.iconst 1, 1) := by decide +kernel
theorem dL_spreads_146 : decode cL_spreads 146 = .ok (.goto 4, 3) := by decide +kernel
theorem dL_spreads_149 : decode cL_spreads 149 = .ok (.iconst 0, 1) := by decide +kernel
theorem dL_spreads_150 : decode cL_spreads 150 = .ok (.istore 9, 2) := by decide +kernel
theorem dL_spreads_152 : decode cL_spreads 152 = .ok (.aload_n 0, 1) := by decide +kernel
theorem dL_spreads_153 : decode cL_spreads 153 = .ok (.invokestatic 329, 3) := by decide +kernel
theorem dL_spreads_156 : decode cL_spreads 156 = .ok (.pop2, 1) := by decide +kernel
theorem dL_spreads_157 : decode cL_spreads 157 = .ok (.iload 9, 2) := by decide +kernel
theorem dL_spreads_159 : decode cL_spreads 159 = .ok (.ifCond .eq 16, 3) := by decide +kernel
theorem dL_spreads_162 : decode cL_spreads 162 = .ok (.aload_n 0, 1) := by decide +kernel
theorem dL_spreads_163 : decode cL_spreads 163 = .ok (.invokestatic 318, 3) := by decide +kernel
theorem dL_spreads_166 : decode cL_spreads 166 = .ok (.lload_n 2, 1) := by decide +kernel
theorem dL_spreads_167 : decode cL_spreads 167 = .ok (.lcmp, 1) := by decide +kernel
theorem dL_spreads_168 : decode cL_spreads 168 = .ok (.ifCond .ne 7, 3) := by decide +kernel
theorem dL_spreads_171 : decode cL_spreads 171 = .ok (.iconst 1, 1) := by decide +kernel
theorem dL_spreads_172 : decode cL_spreads 172 = .ok (.goto 4, 3) := by decide +kernel
theorem dL_spreads_175 : decode cL_spreads 175 = .ok (.iconst 0, 1) := by decide +kernel
theorem dL_spreads_176 : decode cL_spreads 176 = .ok (.ireturn, 1) := by decide +kernel
theorem dL_removes_0 : decode cL_removes 0 = .ok (.aload_n 0, 1) := by decide +kernel
theorem dL_removes_1 : decode cL_removes 1 = .ok (.invokestatic 318, 3) := by decide +kernel
theorem dL_removes_4 : decode cL_removes 4 = .ok (.lstore_n 2, 1) := by decide +kernel
theorem dL_removes_5 : decode cL_removes 5 = .ok (.aload_n 0, 1) := by decide +kernel
theorem dL_removes_6 : decode cL_removes 6 = .ok (.iload_n 1, 1) := by decide +kernel
theorem dL_removes_7 : decode cL_removes 7 = .ok (.invokestatic 331, 3) := by decide +kernel
theorem dL_removes_10 : decode cL_removes 10 = .ok (.lstore 4, 2) := by decide +kernel
theorem dL_removes_12 : decode cL_removes 12 = .ok (.aload_n 0, 1) := by decide +kernel
theorem dL_removes_13 : decode cL_removes 13 = .ok (.iload_n 1, 1) := by decide +kernel
theorem dL_removes_14 : decode cL_removes 14 = .ok (.invokestatic 333, 3) := by decide +kernel
theorem dL_removes_17 : decode cL_removes 17 = .ok (.lstore 6, 2) := by decide +kernel
theorem dL_removes_19 : decode cL_removes 19 = .ok (.aload_n 0, 1) := by decide +kernel
theorem dL_removes_20 : decode cL_removes 20 = .ok (.iload_n 1, 1) := by decide +kernel
theorem dL_removes_21 : decode cL_removes 21 = .ok (.invokestatic 335, 3) := by decide +kernel
theorem dL_removes_24 : decode cL_removes 24 = .ok (.lstore 8, 2) := by decide +kernel
theorem dL_removes_26 : decode cL_removes 26 = .ok (.lload 6, 2) := by decide +kernel
theorem dL_removes_28 : decode cL_removes 28 = .ok (.lconst 0, 1) := by decide +kernel
theorem dL_removes_29 : decode cL_removes 29 = .ok (.lcmp, 1) := by decide +kernel
theorem dL_removes_30 : decode cL_removes 30 = .ok (.ifCond .ge 7, 3) := by decide +kernel
theorem dL_removes_33 : decode cL_removes 33 = .ok (.lconst 0, 1) := by decide +kernel
theorem dL_removes_34 : decode cL_removes 34 = .ok (.goto 10, 3) := by decide +kernel
theorem dL_removes_37 : decode cL_removes 37 = .ok (.aload_n 0, 1) := by decide +kernel
theorem dL_removes_38 : decode cL_removes 38 = .ok (.lload 6, 2) := by decide +kernel
theorem dL_removes_40 : decode cL_removes 40 = .ok (.l2i, 1) := by decide +kernel
theorem dL_removes_41 : decode cL_removes 41 = .ok (.invokestatic 331, 3) := by decide +kernel
theorem dL_removes_44 : decode cL_removes 44 = .ok (.lstore 10, 2) := by decide +kernel
theorem dL_removes_46 : decode cL_removes 46 = .ok (.lload 6, 2) := by decide +kernel
theorem dL_removes_48 : decode cL_removes 48 = .ok (.lconst 0, 1) := by decide +kernel
theorem dL_removes_49 : decode cL_removes 49 = .ok (.lcmp, 1) := by decide +kernel
theorem dL_removes_50 : decode cL_removes 50 = .ok (.ifCond .ge 7, 3) := by decide +kernel
theorem dL_removes_53 : decode cL_removes 53 = .ok (.lconst 0, 1) := by decide +kernel
theorem dL_removes_54 : decode cL_removes 54 = .ok (.goto 18, 3) := by decide +kernel
theorem dL_removes_57 : decode cL_removes 57 = .ok (.aload_n 0, 1) := by decide +kernel
theorem dL_removes_58 : decode cL_removes 58 = .ok (.lload 6, 2) := by decide +kernel
theorem dL_removes_60 : decode cL_removes 60 = .ok (.l2i, 1) := by decide +kernel
theorem dL_removes_61 : decode cL_removes 61 = .ok (.invokestatic 337, 3) := by decide +kernel
theorem dL_removes_64 : decode cL_removes 64 = .ok (.aload_n 0, 1) := by decide +kernel
theorem dL_removes_65 : decode cL_removes 65 = .ok (.iload_n 1, 1) := by decide +kernel
theorem dL_removes_66 : decode cL_removes 66 = .ok (.invokestatic 337, 3) := by decide +kernel
theorem dL_removes_69 : decode cL_removes 69 = .ok (.ladd, 1) := by decide +kernel
theorem dL_removes_70 : decode cL_removes 70 = .ok (.lconst 1, 1) := by decide +kernel
theorem dL_removes_71 : decode cL_removes 71 = .ok (.lsub, 1) := by decide +kernel
theorem dL_removes_72 : decode cL_removes 72 = .ok (.lstore 12, 2) := by decide +kernel
theorem dL_removes_74 : decode cL_removes 74 = .ok (.lload 6, 2) := by decide +kernel
theorem dL_removes_76 : decode cL_removes 76 = .ok (.lconst 0, 1) := by decide +kernel
theorem dL_removes_77 : decode cL_removes 77 = .ok (.lcmp, 1) := by decide +kernel
theorem dL_removes_78 : decode cL_removes 78 = .ok (.ifCond .ge 7, 3) := by decide +kernel
theorem dL_removes_81 : decode cL_removes 81 = .ok (.iconst 1, 1) := by decide +kernel
theorem dL_removes_82 : decode cL_removes 82 = .ok (.goto 4, 3) := by decide +kernel
theorem dL_removes_85 : decode cL_removes 85 = .ok (.iconst 0, 1) := by decide +kernel
theorem dL_removes_86 : decode cL_removes 86 = .ok (.lload 8, 2) := by decide +kernel
theorem dL_removes_88 : decode cL_removes 88 = .ok (.lconst 0, 1) := by decide +kernel
theorem dL_removes_89 : decode cL_removes 89 = .ok (.lcmp, 1) := by decide +kernel
theorem dL_removes_90 : decode cL_removes 90 = .ok (.ifCond .ne 7, 3) := by decide +kernel
theorem dL_removes_93 : decode cL_removes 93 = .ok (.iconst 1, 1) := by decide +kernel
theorem dL_removes_94 : decode cL_removes 94 = .ok (.goto 4, 3) := by decide +kernel
theorem dL_removes_97 : decode cL_removes 97 = .ok (.iconst 0, 1) := by decide +kernel
theorem dL_removes_98 : decode cL_removes 98 = .ok (.if_icmp .ne 17, 3) := by decide +kernel
theorem dL_removes_101 : decode cL_removes 101 = .ok (.aload_n 0, 1) := by decide +kernel
theorem dL_removes_102 : decode cL_removes 102 = .ok (.iload_n 1, 1) := by decide +kernel
theorem dL_removes_103 : decode cL_removes 103 = .ok (.invokestatic 339, 3) := by decide +kernel
theorem dL_removes_106 : decode cL_removes 106 = .ok (.aload_n 0, 1) := by decide +kernel
theorem dL_removes_107 : decode cL_removes 107 = .ok (.iload_n 1, 1) := by decide +kernel
theorem dL_removes_108 : decode cL_removes 108 = .ok (.invokestatic 341, 3) := by decide +kernel
theorem dL_removes_111 : decode cL_removes 111 = .ok (.lcmp, 1) := by decide +kernel
theorem dL_removes_112 : decode cL_removes 112 = .ok (.ifCond .eq 5, 3) := by decide +kernel
theorem dL_removes_115 : decode cL_removes 115 = .ok (.iconst 0, 1) := by decide +kernel
theorem dL_removes_116 : decode cL_removes 116 = .ok (.ireturn, 1) := by decide +kernel
theorem dL_removes_117 : decode cL_removes 117 = .ok (.aload_n 0, 1) := by decide +kernel
theorem dL_removes_118 : decode cL_removes 118 = .ok (.iload_n 1, 1) := by decide +kernel
theorem dL_removes_119 : decode cL_removes 119 = .ok (.invokestatic 295, 3) := by decide +kernel
theorem dL_removes_122 : decode cL_removes 122 = .ok (.lstore 14, 2) := by decide +kernel
theorem dL_removes_124 : decode cL_removes 124 = .ok (.lload 14, 2) := by decide +kernel
theorem dL_removes_126 : decode cL_removes 126 = .ok (.lconst 0, 1) := by decide +kernel
theorem dL_removes_127 : decode cL_removes 127 = .ok (.lcmp, 1) := by decide +kernel
theorem dL_removes_128 : decode cL_removes 128 = .ok (.ifCond .ge 33, 3) := by decide +kernel
theorem dL_removes_131 : decode cL_removes 131 = .ok (.aload_n 0, 1) := by decide +kernel
theorem dL_removes_132 : decode cL_removes 132 = .ok (.aload_n 0, 1) := by decide +kernel
theorem dL_removes_133 : decode cL_removes 133 = .ok (.iload_n 1, 1) := by decide +kernel
theorem dL_removes_134 : decode cL_removes 134 = .ok (.invokestatic 343, 3) := by decide +kernel
theorem dL_removes_137 : decode cL_removes 137 = .ok (.l2i, 1) := by decide +kernel
theorem dL_removes_138 : decode cL_removes 138 = .ok (.invokestatic 323, 3) := by decide +kernel
theorem dL_removes_141 : decode cL_removes 141 = .ok (.lconst 1, 1) := by decide +kernel
theorem dL_removes_142 : decode cL_removes 142 = .ok (.lcmp, 1) := by decide +kernel
theorem dL_removes_143 : decode cL_removes 143 = .ok (.ifCond .ne 16, 3) := by decide +kernel
theorem dL_removes_146 : decode cL_removes 146 = .ok (.aload_n 0, 1) := by decide +kernel
theorem dL_removes_147 : decode cL_removes 147 = .ok (.invokestatic 318, 3) := by decide +kernel
theorem dL_removes_150 : decode cL_removes 150 = .ok (.lload_n 2, 1) := by decide +kernel
theorem dL_removes_151 : decode cL_removes 151 = .ok (.lcmp, 1) := by decide +kernel
theorem dL_removes_152 : decode cL_removes 152 = .ok (.ifCond .ne 7, 3) := by decide +kernel
theorem dL_removes_155 : decode cL_removes 155 = .ok (.iconst 1, 1) := by decide +kernel
theorem dL_removes_156 : decode cL_removes 156 = .ok (.goto 4, 3) := by decide +kernel
theorem dL_removes_159 : decode cL_removes 159 = .ok (.iconst 0, 1) := by decide +kernel
theorem dL_removes_160 : decode cL_removes 160 = .ok (.ireturn, 1) := by decide +kernel
theorem dL_removes_161 : decode cL_removes 161 = .ok (.lload 6, 2) := by decide +kernel
theorem dL_removes_163 : decode cL_removes 163 = .ok (.lconst 0, 1) := by decide +kernel
theorem dL_removes_164 : decode cL_removes 164 = .ok (.lcmp, 1) := by decide +kernel
theorem dL_removes_165 : decode cL_removes 165 = .ok (.ifCond .ge 19, 3) := by decide +kernel
theorem dL_removes_168 : decode cL_removes 168 = .ok (.lload 14, 2) := by decide +kernel
theorem dL_removes_170 : decode cL_removes 170 = .ok (.lload 4, 2) := by decide +kernel
theorem dL_removes_172 : decode cL_removes 172 = .ok (.lcmp, 1) := by decide +kernel
theorem dL_removes_173 : decode cL_removes 173 = .ok (.ifCond .ne 7, 3) := by decide +kernel
theorem dL_removes_176 : decode cL_removes 176 = .ok (.iconst 1, 1) := by decide +kernel
theorem dL_removes_177 : decode cL_removes 177 = .ok (.goto 44, 3) := by decide +kernel
theorem dL_removes_180 : decode cL_removes 180 = .ok (.iconst 0, 1) := by decide +kernel
theorem dL_removes_181 : decode cL_removes 181 = .ok (.goto 40, 3) := by decide +kernel
theorem dL_removes_184 : decode cL_removes 184 = .ok (.aload_n 0, 1) := by decide +kernel
theorem dL_removes_185 : decode cL_removes 185 = .ok (.lload 6, 2) := by decide +kernel
theorem dL_removes_187 : decode cL_removes 187 = .ok (.l2i, 1) := by decide +kernel
theorem dL_removes_188 : decode cL_removes 188 = .ok (.invokestatic 331, 3) := by decide +kernel
theorem dL_removes_191 : decode cL_removes 191 = .ok (.lload 10, 2) := by decide +kernel
theorem dL_removes_193 : decode cL_removes 193 = .ok (.lload 4, 2) := by decide +kernel
theorem dL_removes_195 : decode cL_removes 195 = .ok (.ladd, 1) := by decide +kernel
theorem dL_removes_196 : decode cL_removes 196 = .ok (.lload 14, 2) := by decide +kernel
theorem dL_removes_198 : decode cL_removes 198 = .ok (.lsub, 1) := by decide +kernel
theorem dL_removes_199 : decode cL_removes 199 = .ok (.lcmp, 1) := by decide +kernel
theorem dL_removes_200 : decode cL_removes 200 = .ok (.ifCond .ne 20, 3) := by decide +kernel
theorem dL_removes_203 : decode cL_removes 203 = .ok (.aload_n 0, 1) := by decide +kernel
theorem dL_removes_204 : decode cL_removes 204 = .ok (.lload 6, 2) := by decide +kernel
theorem dL_removes_206 : decode cL_removes 206 = .ok (.l2i, 1) := by decide +kernel
theorem dL_removes_207 : decode cL_removes 207 = .ok (.invokestatic 337, 3) := by decide +kernel
theorem dL_removes_210 : decode cL_removes 210 = .ok (.lload 12, 2) := by decide +kernel
theorem dL_removes_212 : decode cL_removes 212 = .ok (.lcmp, 1) := by decide +kernel
theorem dL_removes_213 : decode cL_removes 213 = .ok (.ifCond .ne 7, 3) := by decide +kernel
theorem dL_removes_216 : decode cL_removes 216 = .ok (.iconst 1, 1) := by decide +kernel
theorem dL_removes_217 : decode cL_removes 217 = .ok (.goto 4, 3) := by decide +kernel
theorem dL_removes_220 : decode cL_removes 220 = .ok (.iconst 0, 1) := by decide +kernel
theorem dL_removes_221 : decode cL_removes 221 = .ok (.istore 16, 2) := by decide +kernel
theorem dL_removes_223 : decode cL_removes 223 = .ok (.iload 16, 2) := by decide +kernel
theorem dL_removes_225 : decode cL_removes 225 = .ok (.aload_n 0, 1) := by decide +kernel
theorem dL_removes_226 : decode cL_removes 226 = .ok (.iload_n 1, 1) := by decide +kernel
theorem dL_removes_227 : decode cL_removes 227 = .ok (.invokevirtual 96, 3) := by decide +kernel
theorem dL_removes_230 : decode cL_removes 230 = .ok (.ifCond .ne 24, 3) := by decide +kernel
theorem dL_removes_233 : decode cL_removes 233 = .ok (.aload_n 0, 1) := by decide +kernel
theorem dL_removes_234 : decode cL_removes 234 = .ok (.invokevirtual 164, 3) := by decide +kernel
theorem dL_removes_237 : decode cL_removes 237 = .ok (.aload_n 0, 1) := by decide +kernel
theorem dL_removes_238 : decode cL_removes 238 = .ok (.invokevirtual 171, 3) := by decide +kernel
theorem dL_removes_241 : decode cL_removes 241 = .ok (.aload_n 0, 1) := by decide +kernel
theorem dL_removes_242 : decode cL_removes 242 = .ok (.invokevirtual 168, 3) := by decide +kernel
theorem dL_removes_245 : decode cL_removes 245 = .ok (.ladd, 1) := by decide +kernel
theorem dL_removes_246 : decode cL_removes 246 = .ok (.lcmp, 1) := by decide +kernel
theorem dL_removes_247 : decode cL_removes 247 = .ok (.ifCond .ne 7, 3) := by decide +kernel
theorem dL_removes_250 : decode cL_removes 250 = .ok (.iconst 1, 1) := by decide +kernel
theorem dL_removes_251 : decode cL_removes 251 = .ok (.goto 4, 3) := by decide +kernel
theorem dL_removes_254 : decode cL_removes 254 = .ok (.iconst 0, 1) := by decide +kernel
theorem dL_removes_255 : decode cL_removes 255 = .ok (.iand, 1) := by decide +kernel
theorem dL_removes_256 : decode cL_removes 256 = .ok (.istore 16, 2) := by decide +kernel
theorem dL_removes_258 : decode cL_removes 258 = .ok (.aload_n 0, 1) := by decide +kernel
theorem dL_removes_259 : decode cL_removes 259 = .ok (.invokestatic 329, 3) := by decide +kernel
theorem dL_removes_262 : decode cL_removes 262 = .ok (.pop2, 1) := by decide +kernel
theorem dL_removes_263 : decode cL_removes 263 = .ok (.iload 16, 2) := by decide +kernel
theorem dL_removes_265 : decode cL_removes 265 = .ok (.ifCond .eq 16, 3) := by decide +kernel
theorem dL_removes_268 : decode cL_removes 268 = .ok (.aload_n 0, 1) := by decide +kernel
theorem dL_removes_269 : decode cL_removes 269 = .ok (.invokestatic 318, 3) := by decide +kernel
theorem dL_removes_272 : decode cL_removes 272 = .ok (.lload_n 2, 1) := by decide +kernel
theorem dL_removes_273 : decode cL_removes 273 = .ok (.lcmp, 1) := by decide +kernel
theorem dL_removes_274 : decode cL_removes 274 = .ok (.ifCond .ne 7, 3) := by decide +kernel
theorem dL_removes_277 : decode cL_removes 277 = .ok (.iconst 1, 1) := by decide +kernel
theorem dL_removes_278 : decode cL_removes 278 = .ok (.goto 4, 3) := by decide +kernel
theorem dL_removes_281 : decode cL_removes 281 = .ok (.iconst 0, 1) := by decide +kernel
theorem dL_removes_282 : decode cL_removes 282 = .ok (.ireturn, 1) := by decide +kernel
theorem dL_fits_0 : decode cL_fits 0 = .ok (.aload_n 0, 1) := by decide +kernel
theorem dL_fits_1 : decode cL_fits 1 = .ok (.invokevirtual 196, 3) := by decide +kernel
theorem dL_fits_4 : decode cL_fits 4 = .ok (.ifCond .ne 5, 3) := by decide +kernel
theorem dL_fits_7 : decode cL_fits 7 = .ok (.iconst 0, 1) := by decide +kernel
theorem dL_fits_8 : decode cL_fits 8 = .ok (.ireturn, 1) := by decide +kernel
theorem dL_fits_9 : decode cL_fits 9 = .ok (.iconst 0, 1) := by decide +kernel
theorem dL_fits_10 : decode cL_fits 10 = .ok (.istore_n 2, 1) := by decide +kernel
theorem dL_fits_11 : decode cL_fits 11 = .ok (.iload_n 2, 1) := by decide +kernel
theorem dL_fits_12 : decode cL_fits 12 = .ok (.aload_n 0, 1) := by decide +kernel
theorem dL_fits_13 : decode cL_fits 13 = .ok (.invokevirtual 64, 3) := by decide +kernel
theorem dL_fits_16 : decode cL_fits 16 = .ok (.if_icmp .ge 19, 3) := by decide +kernel
theorem dL_fits_19 : decode cL_fits 19 = .ok (.aload_n 0, 1) := by decide +kernel
theorem dL_fits_20 : decode cL_fits 20 = .ok (.iload_n 2, 1) := by decide +kernel
theorem dL_fits_21 : decode cL_fits 21 = .ok (.invokestatic 345, 3) := by decide +kernel
theorem dL_fits_24 : decode cL_fits 24 = .ok (.ifCond .ne 5, 3) := by decide +kernel
theorem dL_fits_27 : decode cL_fits 27 = .ok (.iconst 0, 1) := by decide +kernel
theorem dL_fits_28 : decode cL_fits 28 = .ok (.ireturn, 1) := by decide +kernel
theorem dL_fits_29 : decode cL_fits 29 = .ok (.iinc 2 1, 3) := by decide +kernel
theorem dL_fits_32 : decode cL_fits 32 = .ok (.goto (-21), 3) := by decide +kernel
theorem dL_fits_35 : decode cL_fits 35 = .ok (.iconst 0, 1) := by decide +kernel
theorem dL_fits_36 : decode cL_fits 36 = .ok (.istore_n 2, 1) := by decide +kernel
theorem dL_fits_37 : decode cL_fits 37 = .ok (.iload_n 2, 1) := by decide +kernel
theorem dL_fits_38 : decode cL_fits 38 = .ok (.aload_n 0, 1) := by decide +kernel
theorem dL_fits_39 : decode cL_fits 39 = .ok (.invokevirtual 93, 3) := by decide +kernel
theorem dL_fits_42 : decode cL_fits 42 = .ok (.if_icmp .ge 70, 3) := by decide +kernel
theorem dL_fits_45 : decode cL_fits 45 = .ok (.aload_n 0, 1) := by decide +kernel
theorem dL_fits_46 : decode cL_fits 46 = .ok (.iload_n 2, 1) := by decide +kernel
theorem dL_fits_47 : decode cL_fits 47 = .ok (.invokestatic 268, 3) := by decide +kernel
theorem dL_fits_50 : decode cL_fits 50 = .ok (.l2i, 1) := by decide +kernel
theorem dL_fits_51 : decode cL_fits 51 = .ok (.istore_n 3, 1) := by decide +kernel
theorem dL_fits_52 : decode cL_fits 52 = .ok (.aload_n 0, 1) := by decide +kernel
theorem dL_fits_53 : decode cL_fits 53 = .ok (.iload_n 2, 1) := by decide +kernel
theorem dL_fits_54 : decode cL_fits 54 = .ok (.invokestatic 349, 3) := by decide +kernel
theorem dL_fits_57 : decode cL_fits 57 = .ok (.iload_n 3, 1) := by decide +kernel
theorem dL_fits_58 : decode cL_fits 58 = .ok (.i2l, 1) := by decide +kernel
theorem dL_fits_59 : decode cL_fits 59 = .ok (.lcmp, 1) := by decide +kernel
theorem dL_fits_60 : decode cL_fits 60 = .ok (.ifCond .ne 44, 3) := by decide +kernel
theorem dL_fits_63 : decode cL_fits 63 = .ok (.aload_n 0, 1) := by decide +kernel
theorem dL_fits_64 : decode cL_fits 64 = .ok (.iload_n 3, 1) := by decide +kernel
theorem dL_fits_65 : decode cL_fits 65 = .ok (.invokestatic 351, 3) := by decide +kernel
theorem dL_fits_68 : decode cL_fits 68 = .ok (.iload_n 2, 1) := by decide +kernel
theorem dL_fits_69 : decode cL_fits 69 = .ok (.i2l, 1) := by decide +kernel
theorem dL_fits_70 : decode cL_fits 70 = .ok (.lcmp, 1) := by decide +kernel
theorem dL_fits_71 : decode cL_fits 71 = .ok (.ifCond .ne 33, 3) := by decide +kernel
theorem dL_fits_74 : decode cL_fits 74 = .ok (.aload_n 0, 1) := by decide +kernel
theorem dL_fits_75 : decode cL_fits 75 = .ok (.aload_n 0, 1) := by decide +kernel
theorem dL_fits_76 : decode cL_fits 76 = .ok (.iload_n 3, 1) := by decide +kernel
theorem dL_fits_77 : decode cL_fits 77 = .ok (.invokestatic 343, 3) := by decide +kernel
theorem dL_fits_80 : decode cL_fits 80 = .ok (.l2i, 1) := by decide +kernel
theorem dL_fits_81 : decode cL_fits 81 = .ok (.aload_n 0, 1) := by decide +kernel
theorem dL_fits_82 : decode cL_fits 82 = .ok (.iload_n 3, 1) := by decide +kernel
theorem dL_fits_83 : decode cL_fits 83 = .ok (.invokestatic 353, 3) := by decide +kernel
theorem dL_fits_86 : decode cL_fits 86 = .ok (.l2i, 1) := by decide +kernel
theorem dL_fits_87 : decode cL_fits 87 = .ok (.invokestatic 355, 3) := by decide +kernel
theorem dL_fits_90 : decode cL_fits 90 = .ok (.iload_n 3, 1) := by decide +kernel
theorem dL_fits_91 : decode cL_fits 91 = .ok (.i2l, 1) := by decide +kernel
theorem dL_fits_92 : decode cL_fits 92 = .ok (.lcmp, 1) := by decide +kernel
theorem dL_fits_93 : decode cL_fits 93 = .ok (.ifCond .ne 11, 3) := by decide +kernel
theorem dL_fits_96 : decode cL_fits 96 = .ok (.aload_n 0, 1) := by decide +kernel
theorem dL_fits_97 : decode cL_fits 97 = .ok (.iload_n 3, 1) := by decide +kernel
theorem dL_fits_98 : decode cL_fits 98 = .ok (.invokestatic 357, 3) := by decide +kernel
theorem dL_fits_101 : decode cL_fits 101 = .ok (.ifCond .ne 5, 3) := by decide +kernel
theorem dL_fits_104 : decode cL_fits 104 = .ok (.iconst 0, 1) := by decide +kernel
theorem dL_fits_105 : decode cL_fits 105 = .ok (.ireturn, 1) := by decide +kernel
theorem dL_fits_106 : decode cL_fits 106 = .ok (.iinc 2 1, 3) := by decide +kernel
theorem dL_fits_109 : decode cL_fits 109 = .ok (.goto (-72), 3) := by decide +kernel
theorem dL_fits_112 : decode cL_fits 112 = .ok (.iload_n 1, 1) := by decide +kernel
theorem dL_fits_113 : decode cL_fits 113 = .ok (.aload_n 0, 1) := by decide +kernel
theorem dL_fits_114 : decode cL_fits 114 = .ok (.invokevirtual 64, 3) := by decide +kernel
theorem dL_fits_117 : decode cL_fits 117 = .ok (.invokestatic 277, 3) := by decide +kernel
theorem dL_fits_120 : decode cL_fits 120 = .ok (.istore_n 2, 1) := by decide +kernel
theorem dL_fits_121 : decode cL_fits 121 = .ok (.aload_n 0, 1) := by decide +kernel
theorem dL_fits_122 : decode cL_fits 122 = .ok (.invokevirtual 64, 3) := by decide +kernel
theorem dL_fits_125 : decode cL_fits 125 = .ok (.iconst 1, 1) := by decide +kernel
theorem dL_fits_126 : decode cL_fits 126 = .ok (.isub, 1) := by decide +kernel
theorem dL_fits_127 : decode cL_fits 127 = .ok (.istore_n 3, 1) := by decide +kernel
theorem dL_fits_128 : decode cL_fits 128 = .ok (.aload_n 0, 1) := by decide +kernel
theorem dL_fits_129 : decode cL_fits 129 = .ok (.iload_n 2, 1) := by decide +kernel
theorem dL_fits_130 : decode cL_fits 130 = .ok (.iload_n 3, 1) := by decide +kernel
theorem dL_fits_131 : decode cL_fits 131 = .ok (.invokestatic 360, 3) := by decide +kernel
theorem dL_fits_134 : decode cL_fits 134 = .ok (.aload_n 0, 1) := by decide +kernel
theorem dL_fits_135 : decode cL_fits 135 = .ok (.iload_n 2, 1) := by decide +kernel
theorem dL_fits_136 : decode cL_fits 136 = .ok (.iload_n 3, 1) := by decide +kernel
theorem dL_fits_137 : decode cL_fits 137 = .ok (.invokestatic 362, 3) := by decide +kernel
theorem dL_fits_140 : decode cL_fits 140 = .ok (.lcmp, 1) := by decide +kernel
theorem dL_fits_141 : decode cL_fits 141 = .ok (.ifCond .ne 37, 3) := by decide +kernel
theorem dL_fits_144 : decode cL_fits 144 = .ok (.aload_n 0, 1) := by decide +kernel
theorem dL_fits_145 : decode cL_fits 145 = .ok (.invokevirtual 93, 3) := by decide +kernel
theorem dL_fits_148 : decode cL_fits 148 = .ok (.ifCond .eq 26, 3) := by decide +kernel
theorem dL_fits_151 : decode cL_fits 151 = .ok (.aload_n 0, 1) := by decide +kernel
theorem dL_fits_152 : decode cL_fits 152 = .ok (.aload_n 0, 1) := by decide +kernel
theorem dL_fits_153 : decode cL_fits 153 = .ok (.invokestatic 364, 3) := by decide +kernel
theorem dL_fits_156 : decode cL_fits 156 = .ok (.l2i, 1) := by decide +kernel
theorem dL_fits_157 : decode cL_fits 157 = .ok (.invokestatic 331, 3) := by decide +kernel
theorem dL_fits_160 : decode cL_fits 160 = .ok (.aload_n 0, 1) := by decide +kernel
theorem dL_fits_161 : decode cL_fits 161 = .ok (.aload_n 0, 1) := by decide +kernel
theorem dL_fits_162 : decode cL_fits 162 = .ok (.iconst 0, 1) := by decide +kernel
theorem dL_fits_163 : decode cL_fits 163 = .ok (.invokestatic 268, 3) := by decide +kernel
theorem dL_fits_166 : decode cL_fits 166 = .ok (.l2i, 1) := by decide +kernel
theorem dL_fits_167 : decode cL_fits 167 = .ok (.invokestatic 331, 3) := by decide +kernel
theorem dL_fits_170 : decode cL_fits 170 = .ok (.lcmp, 1) := by decide +kernel
theorem dL_fits_171 : decode cL_fits 171 = .ok (.ifCond .lt 7, 3) := by decide +kernel
theorem dL_fits_174 : decode cL_fits 174 = .ok (.iconst 1, 1) := by decide +kernel
theorem dL_fits_175 : decode cL_fits 175 = .ok (.goto 4, 3) := by decide +kernel
theorem dL_fits_178 : decode cL_fits 178 = .ok (.iconst 0, 1) := by decide +kernel
theorem dL_fits_179 : decode cL_fits 179 = .ok (.ireturn, 1) := by decide +kernel
