theorem dX0_init_0 : decode cX0_init 0 = .ok (.aload_n 0, 1) := by decide +kernel
theorem dX0_init_1 : decode cX0_init 1 = .ok (.invokespecial 3, 3) := by decide +kernel
theorem dX0_init_4 : decode cX0_init 4 = .ok (.aload_n 0, 1) := by decide +kernel
theorem dX0_init_5 : decode cX0_init 5 = .ok (.ldc 9, 2) := by decide +kernel
theorem dX0_init_7 : decode cX0_init 7 = .ok (.newarray .int, 2) := by decide +kernel
theorem dX0_init_9 : decode cX0_init 9 = .ok (.putfield 10, 3) := by decide +kernel
theorem dX0_init_12 : decode cX0_init 12 = .ok (.aload_n 0, 1) := by decide +kernel
theorem dX0_init_13 : decode cX0_init 13 = .ok (.sipush 200, 3) := by decide +kernel
theorem dX0_init_16 : decode cX0_init 16 = .ok (.newarray .int, 2) := by decide +kernel
theorem dX0_init_18 : decode cX0_init 18 = .ok (.putfield 14, 3) := by decide +kernel
theorem dX0_init_21 : decode cX0_init 21 = .ok (.aload_n 0, 1) := by decide +kernel
theorem dX0_init_22 : decode cX0_init 22 = .ok (.iconst 0, 1) := by decide +kernel
theorem dX0_init_23 : decode cX0_init 23 = .ok (.putfield 17, 3) := by decide +kernel
theorem dX0_init_26 : decode cX0_init 26 = .ok (.aload_n 0, 1) := by decide +kernel
theorem dX0_init_27 : decode cX0_init 27 = .ok (.iconst 0, 1) := by decide +kernel
theorem dX0_init_28 : decode cX0_init 28 = .ok (.putfield 21, 3) := by decide +kernel
theorem dX0_init_31 : decode cX0_init 31 = .ok (.aload_n 0, 1) := by decide +kernel
theorem dX0_init_32 : decode cX0_init 32 = .ok (.iconst 0, 1) := by decide +kernel
theorem dX0_init_33 : decode cX0_init 33 = .ok (.putfield 24, 3) := by decide +kernel
theorem dX0_init_36 : decode cX0_init 36 = .ok (.aload_n 0, 1) := by decide +kernel
theorem dX0_init_37 : decode cX0_init 37 = .ok (.iconst (-1), 1) := by decide +kernel
theorem dX0_init_38 : decode cX0_init 38 = .ok (.putfield 27, 3) := by decide +kernel
theorem dX0_init_41 : decode cX0_init 41 = .ok (.aload_n 0, 1) := by decide +kernel
theorem dX0_init_42 : decode cX0_init 42 = .ok (.iconst 1, 1) := by decide +kernel
theorem dX0_init_43 : decode cX0_init 43 = .ok (.putfield 30, 3) := by decide +kernel
theorem dX0_init_46 : decode cX0_init 46 = .ok (.return_, 1) := by decide +kernel
theorem dX0_append_0 : decode cX0_append 0 = .ok (.aload_n 0, 1) := by decide +kernel
theorem dX0_append_1 : decode cX0_append 1 = .ok (.invokevirtual 34, 3) := by decide +kernel
theorem dX0_append_4 : decode cX0_append 4 = .ok (.aload_n 0, 1) := by decide +kernel
theorem dX0_append_5 : decode cX0_append 5 = .ok (.iload_n 2, 1) := by decide +kernel
theorem dX0_append_6 : decode cX0_append 6 = .ok (.invokevirtual 48, 3) := by decide +kernel
theorem dX0_append_9 : decode cX0_append 9 = .ok (.iload_n 1, 1) := by decide +kernel
theorem dX0_append_10 : decode cX0_append 10 = .ok (.ifCond .lt 9, 3) := by decide +kernel
theorem dX0_append_13 : decode cX0_append 13 = .ok (.iload_n 1, 1) := by decide +kernel
theorem dX0_append_14 : decode cX0_append 14 = .ok (.bipush 16, 2) := by decide +kernel
theorem dX0_append_16 : decode cX0_append 16 = .ok (.if_icmp .lt 13, 3) := by decide +kernel
theorem dX0_append_19 : decode cX0_append 19 = .ok (.new 52, 3) := by decide +kernel
theorem dX0_append_22 : decode cX0_append 22 = .ok (.dup, 1) := by decide +kernel
theorem dX0_append_23 : decode cX0_append 23 = .ok (.ldc 54, 2) := by decide +kernel
theorem dX0_append_25 : decode cX0_append 25 = .ok (.invokespecial 56, 3) := by decide +kernel
theorem dX0_append_28 : decode cX0_append 28 = .ok (.athrow, 1) := by decide +kernel
theorem dX0_append_29 : decode cX0_append 29 = .ok (.iload 4, 2) := by decide +kernel
theorem dX0_append_31 : decode cX0_append 31 = .ok (.ifCond .lt 11, 3) := by decide +kernel
theorem dX0_append_34 : decode cX0_append 34 = .ok (.iload 4, 2) := by decide +kernel
theorem dX0_append_36 : decode cX0_append 36 = .ok (.sipush 200, 3) := by decide +kernel
theorem dX0_append_39 : decode cX0_append 39 = .ok (.if_icmp .le 13, 3) := by decide +kernel
theorem dX0_append_42 : decode cX0_append 42 = .ok (.new 52, 3) := by decide +kernel
theorem dX0_append_45 : decode cX0_append 45 = .ok (.dup, 1) := by decide +kernel
theorem dX0_append_46 : decode cX0_append 46 = .ok (.ldc 57, 2) := by decide +kernel
theorem dX0_append_48 : decode cX0_append 48 = .ok (.invokespecial 56, 3) := by decide +kernel
theorem dX0_append_51 : decode cX0_append 51 = .ok (.athrow, 1) := by decide +kernel
theorem dX0_append_52 : decode cX0_append 52 = .ok (.iload_n 3, 1) := by decide +kernel
theorem dX0_append_53 : decode cX0_append 53 = .ok (.iconst (-1), 1) := by decide +kernel
theorem dX0_append_54 : decode cX0_append 54 = .ok (.if_icmp .lt 11, 3) := by decide +kernel
theorem dX0_append_57 : decode cX0_append 57 = .ok (.iload_n 3, 1) := by decide +kernel
theorem dX0_append_58 : decode cX0_append 58 = .ok (.aload_n 0, 1) := by decide +kernel
theorem dX0_append_59 : decode cX0_append 59 = .ok (.getfield 24, 3) := by decide +kernel
theorem dX0_append_62 : decode cX0_append 62 = .ok (.if_icmp .lt 13, 3) := by decide +kernel
theorem dX0_append_65 : decode cX0_append 65 = .ok (.new 52, 3) := by decide +kernel
theorem dX0_append_68 : decode cX0_append 68 = .ok (.dup, 1) := by decide +kernel
theorem dX0_append_69 : decode cX0_append 69 = .ok (.ldc 59, 2) := by decide +kernel
theorem dX0_append_71 : decode cX0_append 71 = .ok (.invokespecial 56, 3) := by decide +kernel
theorem dX0_append_74 : decode cX0_append 74 = .ok (.athrow, 1) := by decide +kernel
theorem dX0_append_75 : decode cX0_append 75 = .ok (.iload 4, 2) := by decide +kernel
theorem dX0_append_77 : decode cX0_append 77 = .ok (.iconst 5, 1) := by decide +kernel
theorem dX0_append_78 : decode cX0_append 78 = .ok (.iadd, 1) := by decide +kernel
theorem dX0_append_79 : decode cX0_append 79 = .ok (.istore 5, 2) := by decide +kernel
theorem dX0_append_81 : decode cX0_append 81 = .ok (.iload 5, 2) := by decide +kernel
theorem dX0_append_83 : decode cX0_append 83 = .ok (.ldc 9, 2) := by decide +kernel
theorem dX0_append_85 : decode cX0_append 85 = .ok (.aload_n 0, 1) := by decide +kernel
theorem dX0_append_86 : decode cX0_append 86 = .ok (.getfield 24, 3) := by decide +kernel
theorem dX0_append_89 : decode cX0_append 89 = .ok (.aload_n 0, 1) := by decide +kernel
theorem dX0_append_90 : decode cX0_append 90 = .ok (.getfield 17, 3) := by decide +kernel
theorem dX0_append_93 : decode cX0_append 93 = .ok (.isub, 1) := by decide +kernel
theorem dX0_append_94 : decode cX0_append 94 = .ok (.isub, 1) := by decide +kernel
theorem dX0_append_95 : decode cX0_append 95 = .ok (.if_icmp .le 5, 3) := by decide +kernel
theorem dX0_append_98 : decode cX0_append 98 = .ok (.iconst (-1), 1) := by decide +kernel
theorem dX0_append_99 : decode cX0_append 99 = .ok (.ireturn, 1) := by decide +kernel
theorem dX0_append_100 : decode cX0_append 100 = .ok (.aload_n 0, 1) := by decide +kernel
theorem dX0_append_101 : decode cX0_append 101 = .ok (.getfield 24, 3) := by decide +kernel
theorem dX0_append_104 : decode cX0_append 104 = .ok (.istore 6, 2) := by decide +kernel
theorem dX0_append_106 : decode cX0_append 106 = .ok (.aload_n 0, 1) := by decide +kernel
theorem dX0_append_107 : decode cX0_append 107 = .ok (.iload_n 2, 1) := by decide +kernel
theorem dX0_append_108 : decode cX0_append 108 = .ok (.invokevirtual 61, 3) := by decide +kernel
theorem dX0_append_111 : decode cX0_append 111 = .ok (.istore 7, 2) := by decide +kernel
theorem dX0_append_113 : decode cX0_append 113 = .ok (.aload_n 0, 1) := by decide +kernel
theorem dX0_append_114 : decode cX0_append 114 = .ok (.iload 5, 2) := by decide +kernel
theorem dX0_append_116 : decode cX0_append 116 = .ok (.invokevirtual 65, 3) := by decide +kernel
theorem dX0_append_119 : decode cX0_append 119 = .ok (.aload_n 0, 1) := by decide +kernel
theorem dX0_append_120 : decode cX0_append 120 = .ok (.iload_n 1, 1) := by decide +kernel
theorem dX0_append_121 : decode cX0_append 121 = .ok (.bipush 16, 2) := by decide +kernel
theorem dX0_append_123 : decode cX0_append 123 = .ok (.iload_n 2, 1) := by decide +kernel
theorem dX0_append_124 : decode cX0_append 124 = .ok (.imul, 1) := by decide +kernel
theorem dX0_append_125 : decode cX0_append 125 = .ok (.iadd, 1) := by decide +kernel
theorem dX0_append_126 : decode cX0_append 126 = .ok (.invokevirtual 65, 3) := by decide +kernel
theorem dX0_append_129 : decode cX0_append 129 = .ok (.aload_n 0, 1) := by decide +kernel
theorem dX0_append_130 : decode cX0_append 130 = .ok (.iload 7, 2) := by decide +kernel
theorem dX0_append_132 : decode cX0_append 132 = .ok (.invokevirtual 65, 3) := by decide +kernel
theorem dX0_append_135 : decode cX0_append 135 = .ok (.aload_n 0, 1) := by decide +kernel
theorem dX0_append_136 : decode cX0_append 136 = .ok (.iload_n 3, 1) := by decide +kernel
theorem dX0_append_137 : decode cX0_append 137 = .ok (.invokevirtual 65, 3) := by decide +kernel
theorem dX0_append_140 : decode cX0_append 140 = .ok (.aload_n 0, 1) := by decide +kernel
theorem dX0_append_141 : decode cX0_append 141 = .ok (.iload 4, 2) := by decide +kernel
theorem dX0_append_143 : decode cX0_append 143 = .ok (.invokevirtual 68, 3) := by decide +kernel
theorem dX0_append_146 : decode cX0_append 146 = .ok (.aload_n 0, 1) := by decide +kernel
theorem dX0_append_147 : decode cX0_append 147 = .ok (.iload 5, 2) := by decide +kernel
theorem dX0_append_149 : decode cX0_append 149 = .ok (.invokevirtual 65, 3) := by decide +kernel
theorem dX0_append_152 : decode cX0_append 152 = .ok (.iload 6, 2) := by decide +kernel
theorem dX0_append_154 : decode cX0_append 154 = .ok (.ireturn, 1) := by decide +kernel
theorem dX0_back_0 : decode cX0_back 0 = .ok (.aload_n 0, 1) := by decide +kernel
theorem dX0_back_1 : decode cX0_back 1 = .ok (.invokevirtual 34, 3) := by decide +kernel
theorem dX0_back_4 : decode cX0_back 4 = .ok (.aload_n 0, 1) := by decide +kernel
theorem dX0_back_5 : decode cX0_back 5 = .ok (.iload_n 1, 1) := by decide +kernel
theorem dX0_back_6 : decode cX0_back 6 = .ok (.invokevirtual 48, 3) := by decide +kernel
theorem dX0_back_9 : decode cX0_back 9 = .ok (.iload_n 3, 1) := by decide +kernel
theorem dX0_back_10 : decode cX0_back 10 = .ok (.ifCond .ge 13, 3) := by decide +kernel
theorem dX0_back_13 : decode cX0_back 13 = .ok (.new 52, 3) := by decide +kernel
theorem dX0_back_16 : decode cX0_back 16 = .ok (.dup, 1) := by decide +kernel
theorem dX0_back_17 : decode cX0_back 17 = .ok (.ldc 107, 2) := by decide +kernel
theorem dX0_back_19 : decode cX0_back 19 = .ok (.invokespecial 56, 3) := by decide +kernel
theorem dX0_back_22 : decode cX0_back 22 = .ok (.athrow, 1) := by decide +kernel
theorem dX0_back_23 : decode cX0_back 23 = .ok (.aload_n 0, 1) := by decide +kernel
theorem dX0_back_24 : decode cX0_back 24 = .ok (.iload_n 1, 1) := by decide +kernel
theorem dX0_back_25 : decode cX0_back 25 = .ok (.iload_n 2, 1) := by decide +kernel
theorem dX0_back_26 : decode cX0_back 26 = .ok (.iload_n 3, 1) := by decide +kernel
theorem dX0_back_27 : decode cX0_back 27 = .ok (.invokevirtual 109, 3) := by decide +kernel
theorem dX0_back_30 : decode cX0_back 30 = .ok (.ireturn, 1) := by decide +kernel
theorem dX0_requireOpen_0 : decode cX0_requireOpen 0 = .ok (.aload_n 0, 1) := by decide +kernel
theorem dX0_requireOpen_1 : decode cX0_requireOpen 1 = .ok (.getfield 30, 3) := by decide +kernel
theorem dX0_requireOpen_4 : decode cX0_requireOpen 4 = .ok (.ifCond .ne 13, 3) := by decide +kernel
theorem dX0_requireOpen_7 : decode cX0_requireOpen 7 = .ok (.new 80, 3) := by decide +kernel
theorem dX0_requireOpen_10 : decode cX0_requireOpen 10 = .ok (.dup, 1) := by decide +kernel
theorem dX0_requireOpen_11 : decode cX0_requireOpen 11 = .ok (.ldc 125, 2) := by decide +kernel
theorem dX0_requireOpen_13 : decode cX0_requireOpen 13 = .ok (.invokespecial 84, 3) := by decide +kernel
theorem dX0_requireOpen_16 : decode cX0_requireOpen 16 = .ok (.athrow, 1) := by decide +kernel
theorem dX0_requireOpen_17 : decode cX0_requireOpen 17 = .ok (.return_, 1) := by decide +kernel
theorem dX0_requireOwner_0 : decode cX0_requireOwner 0 = .ok (.iload_n 1, 1) := by decide +kernel
theorem dX0_requireOwner_1 : decode cX0_requireOwner 1 = .ok (.ifCond .lt 9, 3) := by decide +kernel
theorem dX0_requireOwner_4 : decode cX0_requireOwner 4 = .ok (.iload_n 1, 1) := by decide +kernel
theorem dX0_requireOwner_5 : decode cX0_requireOwner 5 = .ok (.bipush 8, 2) := by decide +kernel
theorem dX0_requireOwner_7 : decode cX0_requireOwner 7 = .ok (.if_icmp .lt 13, 3) := by decide +kernel
theorem dX0_requireOwner_10 : decode cX0_requireOwner 10 = .ok (.new 52, 3) := by decide +kernel
theorem dX0_requireOwner_13 : decode cX0_requireOwner 13 = .ok (.dup, 1) := by decide +kernel
theorem dX0_requireOwner_14 : decode cX0_requireOwner 14 = .ok (.ldc 127, 2) := by decide +kernel
theorem dX0_requireOwner_16 : decode cX0_requireOwner 16 = .ok (.invokespecial 56, 3) := by decide +kernel
theorem dX0_requireOwner_19 : decode cX0_requireOwner 19 = .ok (.athrow, 1) := by decide +kernel
theorem dX0_requireOwner_20 : decode cX0_requireOwner 20 = .ok (.return_, 1) := by decide +kernel
theorem dX0_wordAt_0 : decode cX0_wordAt 0 = .ok (.aload_n 0, 1) := by decide +kernel
theorem dX0_wordAt_1 : decode cX0_wordAt 1 = .ok (.getfield 10, 3) := by decide +kernel
theorem dX0_wordAt_4 : decode cX0_wordAt 4 = .ok (.iload_n 1, 1) := by decide +kernel
theorem dX0_wordAt_5 : decode cX0_wordAt 5 = .ok (.ldc 138, 2) := by decide +kernel
theorem dX0_wordAt_7 : decode cX0_wordAt 7 = .ok (.iand, 1) := by decide +kernel
theorem dX0_wordAt_8 : decode cX0_wordAt 8 = .ok (.iaload, 1) := by decide +kernel
theorem dX0_wordAt_9 : decode cX0_wordAt 9 = .ok (.ireturn, 1) := by decide +kernel
theorem dX0_addWord_0 : decode cX0_addWord 0 = .ok (.aload_n 0, 1) := by decide +kernel
theorem dX0_addWord_1 : decode cX0_addWord 1 = .ok (.getfield 10, 3) := by decide +kernel
theorem dX0_addWord_4 : decode cX0_addWord 4 = .ok (.aload_n 0, 1) := by decide +kernel
theorem dX0_addWord_5 : decode cX0_addWord 5 = .ok (.getfield 24, 3) := by decide +kernel
theorem dX0_addWord_8 : decode cX0_addWord 8 = .ok (.ldc 138, 2) := by decide +kernel
theorem dX0_addWord_10 : decode cX0_addWord 10 = .ok (.iand, 1) := by decide +kernel
theorem dX0_addWord_11 : decode cX0_addWord 11 = .ok (.iload_n 1, 1) := by decide +kernel
theorem dX0_addWord_12 : decode cX0_addWord 12 = .ok (.iastore, 1) := by decide +kernel
theorem dX0_addWord_13 : decode cX0_addWord 13 = .ok (.aload_n 0, 1) := by decide +kernel
theorem dX0_addWord_14 : decode cX0_addWord 14 = .ok (.dup, 1) := by decide +kernel
theorem dX0_addWord_15 : decode cX0_addWord 15 = .ok (.getfield 24, 3) := by decide +kernel
theorem dX0_addWord_18 : decode cX0_addWord 18 = .ok (.iconst 1, 1) := by decide +kernel
theorem dX0_addWord_19 : decode cX0_addWord 19 = .ok (.iadd, 1) := by decide +kernel
theorem dX0_addWord_20 : decode cX0_addWord 20 = .ok (.putfield 24, 3) := by decide +kernel
theorem dX0_addWord_23 : decode cX0_addWord 23 = .ok (.return_, 1) := by decide +kernel
theorem dX0_addContent_0 : decode cX0_addContent 0 = .ok (.iconst 0, 1) := by decide +kernel
theorem dX0_addContent_1 : decode cX0_addContent 1 = .ok (.istore_n 2, 1) := by decide +kernel
theorem dX0_addContent_2 : decode cX0_addContent 2 = .ok (.iload_n 2, 1) := by decide +kernel
theorem dX0_addContent_3 : decode cX0_addContent 3 = .ok (.iload_n 1, 1) := by decide +kernel
theorem dX0_addContent_4 : decode cX0_addContent 4 = .ok (.if_icmp .ge 28, 3) := by decide +kernel
theorem dX0_addContent_7 : decode cX0_addContent 7 = .ok (.iload_n 2, 1) := by decide +kernel
theorem dX0_addContent_8 : decode cX0_addContent 8 = .ok (.aload_n 0, 1) := by decide +kernel
theorem dX0_addContent_9 : decode cX0_addContent 9 = .ok (.getfield 14, 3) := by decide +kernel
theorem dX0_addContent_12 : decode cX0_addContent 12 = .ok (.arraylength, 1) := by decide +kernel
theorem dX0_addContent_13 : decode cX0_addContent 13 = .ok (.if_icmp .ge 19, 3) := by decide +kernel
theorem dX0_addContent_16 : decode cX0_addContent 16 = .ok (.aload_n 0, 1) := by decide +kernel
theorem dX0_addContent_17 : decode cX0_addContent 17 = .ok (.aload_n 0, 1) := by decide +kernel
theorem dX0_addContent_18 : decode cX0_addContent 18 = .ok (.getfield 14, 3) := by decide +kernel
theorem dX0_addContent_21 : decode cX0_addContent 21 = .ok (.iload_n 2, 1) := by decide +kernel
theorem dX0_addContent_22 : decode cX0_addContent 22 = .ok (.iaload, 1) := by decide +kernel
theorem dX0_addContent_23 : decode cX0_addContent 23 = .ok (.invokevirtual 65, 3) := by decide +kernel
theorem dX0_addContent_26 : decode cX0_addContent 26 = .ok (.iinc 2 1, 3) := by decide +kernel
theorem dX0_addContent_29 : decode cX0_addContent 29 = .ok (.goto (-27), 3) := by decide +kernel
theorem dX0_addContent_32 : decode cX0_addContent 32 = .ok (.return_, 1) := by decide +kernel
theorem dX0_kindAt_0 : decode cX0_kindAt 0 = .ok (.aload_n 0, 1) := by decide +kernel
theorem dX0_kindAt_1 : decode cX0_kindAt 1 = .ok (.iload_n 1, 1) := by decide +kernel
theorem dX0_kindAt_2 : decode cX0_kindAt 2 = .ok (.iconst 1, 1) := by decide +kernel
theorem dX0_kindAt_3 : decode cX0_kindAt 3 = .ok (.iadd, 1) := by decide +kernel
theorem dX0_kindAt_4 : decode cX0_kindAt 4 = .ok (.invokevirtual 97, 3) := by decide +kernel
theorem dX0_kindAt_7 : decode cX0_kindAt 7 = .ok (.bipush 16, 2) := by decide +kernel
theorem dX0_kindAt_9 : decode cX0_kindAt 9 = .ok (.irem, 1) := by decide +kernel
theorem dX0_kindAt_10 : decode cX0_kindAt 10 = .ok (.ireturn, 1) := by decide +kernel
theorem dX0_ownerAt_0 : decode cX0_ownerAt 0 = .ok (.aload_n 0, 1) := by decide +kernel
theorem dX0_ownerAt_1 : decode cX0_ownerAt 1 = .ok (.iload_n 1, 1) := by decide +kernel
theorem dX0_ownerAt_2 : decode cX0_ownerAt 2 = .ok (.iconst 1, 1) := by decide +kernel
theorem dX0_ownerAt_3 : decode cX0_ownerAt 3 = .ok (.iadd, 1) := by decide +kernel
theorem dX0_ownerAt_4 : decode cX0_ownerAt 4 = .ok (.invokevirtual 97, 3) := by decide +kernel
theorem dX0_ownerAt_7 : decode cX0_ownerAt 7 = .ok (.bipush 16, 2) := by decide +kernel
theorem dX0_ownerAt_9 : decode cX0_ownerAt 9 = .ok (.idiv, 1) := by decide +kernel
theorem dX0_ownerAt_10 : decode cX0_ownerAt 10 = .ok (.ireturn, 1) := by decide +kernel
theorem dX0_lastRecordBefore_0 : decode cX0_lastRecordBefore 0 = .ok (.iload_n 1, 1) := by decide +kernel
theorem dX0_lastRecordBefore_1 : decode cX0_lastRecordBefore 1 = .ok (.istore_n 2, 1) := by decide +kernel
theorem dX0_lastRecordBefore_2 : decode cX0_lastRecordBefore 2 = .ok (.iconst 0, 1) := by decide +kernel
theorem dX0_lastRecordBefore_3 : decode cX0_lastRecordBefore 3 = .ok (.istore_n 3, 1) := by decide +kernel
theorem dX0_lastRecordBefore_4 : decode cX0_lastRecordBefore 4 = .ok (.iload_n 3, 1) := by decide +kernel
theorem dX0_lastRecordBefore_5 : decode cX0_lastRecordBefore 5 = .ok (.sipush 13107, 3) := by decide +kernel
theorem dX0_lastRecordBefore_8 : decode cX0_lastRecordBefore 8 = .ok (.if_icmp .ge 41, 3) := by decide +kernel
theorem dX0_lastRecordBefore_11 : decode cX0_lastRecordBefore 11 = .ok (.iload_n 2, 1) := by decide +kernel
theorem dX0_lastRecordBefore_12 : decode cX0_lastRecordBefore 12 = .ok (.aload_n 0, 1) := by decide +kernel
theorem dX0_lastRecordBefore_13 : decode cX0_lastRecordBefore 13 = .ok (.getfield 17, 3) := by decide +kernel
theorem dX0_lastRecordBefore_16 : decode cX0_lastRecordBefore 16 = .ok (.if_icmp .le 33, 3) := by decide +kernel
theorem dX0_lastRecordBefore_19 : decode cX0_lastRecordBefore 19 = .ok (.aload_n 0, 1) := by decide +kernel
theorem dX0_lastRecordBefore_20 : decode cX0_lastRecordBefore 20 = .ok (.iload_n 2, 1) := by decide +kernel
theorem dX0_lastRecordBefore_21 : decode cX0_lastRecordBefore 21 = .ok (.iconst 1, 1) := by decide +kernel
theorem dX0_lastRecordBefore_22 : decode cX0_lastRecordBefore 22 = .ok (.isub, 1) := by decide +kernel
theorem dX0_lastRecordBefore_23 : decode cX0_lastRecordBefore 23 = .ok (.invokevirtual 97, 3) := by decide +kernel
theorem dX0_lastRecordBefore_26 : decode cX0_lastRecordBefore 26 = .ok (.istore 4, 2) := by decide +kernel
theorem dX0_lastRecordBefore_28 : decode cX0_lastRecordBefore 28 = .ok (.iload_n 2, 1) := by decide +kernel
theorem dX0_lastRecordBefore_29 : decode cX0_lastRecordBefore 29 = .ok (.iload 4, 2) := by decide +kernel
theorem dX0_lastRecordBefore_31 : decode cX0_lastRecordBefore 31 = .ok (.invokestatic 142, 3) := by decide +kernel
theorem dX0_lastRecordBefore_34 : decode cX0_lastRecordBefore 34 = .ok (.isub, 1) := by decide +kernel
theorem dX0_lastRecordBefore_35 : decode cX0_lastRecordBefore 35 = .ok (.istore_n 2, 1) := by decide +kernel
theorem dX0_lastRecordBefore_36 : decode cX0_lastRecordBefore 36 = .ok (.iload 4, 2) := by decide +kernel
theorem dX0_lastRecordBefore_38 : decode cX0_lastRecordBefore 38 = .ok (.ifCond .le 5, 3) := by decide +kernel
theorem dX0_lastRecordBefore_41 : decode cX0_lastRecordBefore 41 = .ok (.iload_n 2, 1) := by decide +kernel
theorem dX0_lastRecordBefore_42 : decode cX0_lastRecordBefore 42 = .ok (.ireturn, 1) := by decide +kernel
theorem dX0_lastRecordBefore_43 : decode cX0_lastRecordBefore 43 = .ok (.iinc 3 1, 3) := by decide +kernel
theorem dX0_lastRecordBefore_46 : decode cX0_lastRecordBefore 46 = .ok (.goto (-42), 3) := by decide +kernel
theorem dX0_lastRecordBefore_49 : decode cX0_lastRecordBefore 49 = .ok (.iconst (-1), 1) := by decide +kernel
theorem dX0_lastRecordBefore_50 : decode cX0_lastRecordBefore 50 = .ok (.ireturn, 1) := by decide +kernel
theorem dX0_lastRecordOf_0 : decode cX0_lastRecordOf 0 = .ok (.aload_n 0, 1) := by decide +kernel
theorem dX0_lastRecordOf_1 : decode cX0_lastRecordOf 1 = .ok (.aload_n 0, 1) := by decide +kernel
theorem dX0_lastRecordOf_2 : decode cX0_lastRecordOf 2 = .ok (.getfield 24, 3) := by decide +kernel
theorem dX0_lastRecordOf_5 : decode cX0_lastRecordOf 5 = .ok (.invokevirtual 88, 3) := by decide +kernel
theorem dX0_lastRecordOf_8 : decode cX0_lastRecordOf 8 = .ok (.istore_n 2, 1) := by decide +kernel
theorem dX0_lastRecordOf_9 : decode cX0_lastRecordOf 9 = .ok (.iconst 0, 1) := by decide +kernel
theorem dX0_lastRecordOf_10 : decode cX0_lastRecordOf 10 = .ok (.istore_n 3, 1) := by decide +kernel
theorem dX0_lastRecordOf_11 : decode cX0_lastRecordOf 11 = .ok (.iload_n 3, 1) := by decide +kernel
theorem dX0_lastRecordOf_12 : decode cX0_lastRecordOf 12 = .ok (.sipush 13107, 3) := by decide +kernel
theorem dX0_lastRecordOf_15 : decode cX0_lastRecordOf 15 = .ok (.if_icmp .ge 31, 3) := by decide +kernel
theorem dX0_lastRecordOf_18 : decode cX0_lastRecordOf 18 = .ok (.iload_n 2, 1) := by decide +kernel
theorem dX0_lastRecordOf_19 : decode cX0_lastRecordOf 19 = .ok (.iconst (-1), 1) := by decide +kernel
theorem dX0_lastRecordOf_20 : decode cX0_lastRecordOf 20 = .ok (.if_icmp .eq 26, 3) := by decide +kernel
theorem dX0_lastRecordOf_23 : decode cX0_lastRecordOf 23 = .ok (.aload_n 0, 1) := by decide +kernel
theorem dX0_lastRecordOf_24 : decode cX0_lastRecordOf 24 = .ok (.iload_n 2, 1) := by decide +kernel
theorem dX0_lastRecordOf_25 : decode cX0_lastRecordOf 25 = .ok (.invokevirtual 94, 3) := by decide +kernel
theorem dX0_lastRecordOf_28 : decode cX0_lastRecordOf 28 = .ok (.iload_n 1, 1) := by decide +kernel
theorem dX0_lastRecordOf_29 : decode cX0_lastRecordOf 29 = .ok (.if_icmp .ne 5, 3) := by decide +kernel
theorem dX0_lastRecordOf_32 : decode cX0_lastRecordOf 32 = .ok (.iload_n 2, 1) := by decide +kernel
theorem dX0_lastRecordOf_33 : decode cX0_lastRecordOf 33 = .ok (.ireturn, 1) := by decide +kernel
theorem dX0_lastRecordOf_34 : decode cX0_lastRecordOf 34 = .ok (.aload_n 0, 1) := by decide +kernel
theorem dX0_lastRecordOf_35 : decode cX0_lastRecordOf 35 = .ok (.iload_n 2, 1) := by decide +kernel
theorem dX0_lastRecordOf_36 : decode cX0_lastRecordOf 36 = .ok (.invokevirtual 88, 3) := by decide +kernel
theorem dX0_lastRecordOf_39 : decode cX0_lastRecordOf 39 = .ok (.istore_n 2, 1) := by decide +kernel
theorem dX0_lastRecordOf_40 : decode cX0_lastRecordOf 40 = .ok (.iinc 3 1, 3) := by decide +kernel
theorem dX0_lastRecordOf_43 : decode cX0_lastRecordOf 43 = .ok (.goto (-32), 3) := by decide +kernel
theorem dX0_lastRecordOf_46 : decode cX0_lastRecordOf 46 = .ok (.iconst (-1), 1) := by decide +kernel
theorem dX0_lastRecordOf_47 : decode cX0_lastRecordOf 47 = .ok (.ireturn, 1) := by decide +kernel
theorem dX0_kthOnTheWay_0 : decode cX0_kthOnTheWay 0 = .ok (.aload_n 0, 1) := by decide +kernel
theorem dX0_kthOnTheWay_1 : decode cX0_kthOnTheWay 1 = .ok (.iload_n 1, 1) := by decide +kernel
theorem dX0_kthOnTheWay_2 : decode cX0_kthOnTheWay 2 = .ok (.invokevirtual 61, 3) := by decide +kernel
theorem dX0_kthOnTheWay_5 : decode cX0_kthOnTheWay 5 = .ok (.istore 4, 2) := by decide +kernel
theorem dX0_kthOnTheWay_7 : decode cX0_kthOnTheWay 7 = .ok (.iload 4, 2) := by decide +kernel
theorem dX0_kthOnTheWay_9 : decode cX0_kthOnTheWay 9 = .ok (.istore 5, 2) := by decide +kernel
theorem dX0_kthOnTheWay_11 : decode cX0_kthOnTheWay 11 = .ok (.iload_n 3, 1) := by decide +kernel
theorem dX0_kthOnTheWay_12 : decode cX0_kthOnTheWay 12 = .ok (.istore 6, 2) := by decide +kernel
theorem dX0_kthOnTheWay_14 : decode cX0_kthOnTheWay 14 = .ok (.iconst 0, 1) := by decide +kernel
theorem dX0_kthOnTheWay_15 : decode cX0_kthOnTheWay 15 = .ok (.istore 7, 2) := by decide +kernel
theorem dX0_kthOnTheWay_17 : decode cX0_kthOnTheWay 17 = .ok (.iload 7, 2) := by decide +kernel
theorem dX0_kthOnTheWay_19 : decode cX0_kthOnTheWay 19 = .ok (.sipush 13107, 3) := by decide +kernel
theorem dX0_kthOnTheWay_22 : decode cX0_kthOnTheWay 22 = .ok (.if_icmp .ge 77, 3) := by decide +kernel
theorem dX0_kthOnTheWay_25 : decode cX0_kthOnTheWay 25 = .ok (.iload 5, 2) := by decide +kernel
theorem dX0_kthOnTheWay_27 : decode cX0_kthOnTheWay 27 = .ok (.iconst (-1), 1) := by decide +kernel
theorem dX0_kthOnTheWay_28 : decode cX0_kthOnTheWay 28 = .ok (.if_icmp .eq 71, 3) := by decide +kernel
theorem dX0_kthOnTheWay_31 : decode cX0_kthOnTheWay 31 = .ok (.iload 5, 2) := by decide +kernel
theorem dX0_kthOnTheWay_33 : decode cX0_kthOnTheWay 33 = .ok (.iload 4, 2) := by decide +kernel
theorem dX0_kthOnTheWay_35 : decode cX0_kthOnTheWay 35 = .ok (.if_icmp .lt 64, 3) := by decide +kernel
theorem dX0_kthOnTheWay_38 : decode cX0_kthOnTheWay 38 = .ok (.iload 5, 2) := by decide +kernel
theorem dX0_kthOnTheWay_40 : decode cX0_kthOnTheWay 40 = .ok (.iload 4, 2) := by decide +kernel
theorem dX0_kthOnTheWay_42 : decode cX0_kthOnTheWay 42 = .ok (.if_icmp .ne 33, 3) := by decide +kernel
theorem dX0_kthOnTheWay_45 : decode cX0_kthOnTheWay 45 = .ok (.aload_n 0, 1) := by decide +kernel
theorem dX0_kthOnTheWay_46 : decode cX0_kthOnTheWay 46 = .ok (.iload 5, 2) := by decide +kernel
theorem dX0_kthOnTheWay_48 : decode cX0_kthOnTheWay 48 = .ok (.iload_n 1, 1) := by decide +kernel
theorem dX0_kthOnTheWay_49 : decode cX0_kthOnTheWay 49 = .ok (.iload_n 2, 1) := by decide +kernel
theorem dX0_kthOnTheWay_50 : decode cX0_kthOnTheWay 50 = .ok (.invokevirtual 147, 3) := by decide +kernel
theorem dX0_kthOnTheWay_53 : decode cX0_kthOnTheWay 53 = .ok (.ifCond .eq 14, 3) := by decide +kernel
theorem dX0_kthOnTheWay_56 : decode cX0_kthOnTheWay 56 = .ok (.iload 6, 2) := by decide +kernel
theorem dX0_kthOnTheWay_58 : decode cX0_kthOnTheWay 58 = .ok (.ifCond .ne 6, 3) := by decide +kernel
theorem dX0_kthOnTheWay_61 : decode cX0_kthOnTheWay 61 = .ok (.iload 5, 2) := by decide +kernel
theorem dX0_kthOnTheWay_63 : decode cX0_kthOnTheWay 63 = .ok (.ireturn, 1) := by decide +kernel
theorem dX0_kthOnTheWay_64 : decode cX0_kthOnTheWay 64 = .ok (.iinc 6 (-1), 3) := by decide +kernel
theorem dX0_kthOnTheWay_67 : decode cX0_kthOnTheWay 67 = .ok (.aload_n 0, 1) := by decide +kernel
theorem dX0_kthOnTheWay_68 : decode cX0_kthOnTheWay 68 = .ok (.iload 5, 2) := by decide +kernel
theorem dX0_kthOnTheWay_70 : decode cX0_kthOnTheWay 70 = .ok (.invokevirtual 151, 3) := by decide +kernel
theorem dX0_kthOnTheWay_73 : decode cX0_kthOnTheWay 73 = .ok (.istore 4, 2) := by decide +kernel
theorem dX0_kthOnTheWay_75 : decode cX0_kthOnTheWay 75 = .ok (.iload 4, 2) := by decide +kernel
theorem dX0_kthOnTheWay_77 : decode cX0_kthOnTheWay 77 = .ok (.iconst (-1), 1) := by decide +kernel
theorem dX0_kthOnTheWay_78 : decode cX0_kthOnTheWay 78 = .ok (.if_icmp .ne 7, 3) := by decide +kernel
theorem dX0_kthOnTheWay_81 : decode cX0_kthOnTheWay 81 = .ok (.iconst (-1), 1) := by decide +kernel
theorem dX0_kthOnTheWay_82 : decode cX0_kthOnTheWay 82 = .ok (.goto 9, 3) := by decide +kernel
theorem dX0_kthOnTheWay_85 : decode cX0_kthOnTheWay 85 = .ok (.aload_n 0, 1) := by decide +kernel
theorem dX0_kthOnTheWay_86 : decode cX0_kthOnTheWay 86 = .ok (.iload 5, 2) := by decide +kernel
theorem dX0_kthOnTheWay_88 : decode cX0_kthOnTheWay 88 = .ok (.invokevirtual 88, 3) := by decide +kernel
theorem dX0_kthOnTheWay_91 : decode cX0_kthOnTheWay 91 = .ok (.istore 5, 2) := by decide +kernel
theorem dX0_kthOnTheWay_93 : decode cX0_kthOnTheWay 93 = .ok (.iinc 7 1, 3) := by decide +kernel
theorem dX0_kthOnTheWay_96 : decode cX0_kthOnTheWay 96 = .ok (.goto (-79), 3) := by decide +kernel
theorem dX0_kthOnTheWay_99 : decode cX0_kthOnTheWay 99 = .ok (.iconst (-1), 1) := by decide +kernel
theorem dX0_kthOnTheWay_100 : decode cX0_kthOnTheWay 100 = .ok (.ireturn, 1) := by decide +kernel
theorem dX0_isAskedFor_0 : decode cX0_isAskedFor 0 = .ok (.aload_n 0, 1) := by decide +kernel
theorem dX0_isAskedFor_1 : decode cX0_isAskedFor 1 = .ok (.iload_n 1, 1) := by decide +kernel
theorem dX0_isAskedFor_2 : decode cX0_isAskedFor 2 = .ok (.invokevirtual 94, 3) := by decide +kernel
theorem dX0_isAskedFor_5 : decode cX0_isAskedFor 5 = .ok (.iload_n 2, 1) := by decide +kernel
theorem dX0_isAskedFor_6 : decode cX0_isAskedFor 6 = .ok (.if_icmp .ne 20, 3) := by decide +kernel
theorem dX0_isAskedFor_9 : decode cX0_isAskedFor 9 = .ok (.iload_n 3, 1) := by decide +kernel
theorem dX0_isAskedFor_10 : decode cX0_isAskedFor 10 = .ok (.aload_n 0, 1) := by decide +kernel
theorem dX0_isAskedFor_11 : decode cX0_isAskedFor 11 = .ok (.iload_n 1, 1) := by decide +kernel
theorem dX0_isAskedFor_12 : decode cX0_isAskedFor 12 = .ok (.invokevirtual 91, 3) := by decide +kernel
theorem dX0_isAskedFor_15 : decode cX0_isAskedFor 15 = .ok (.iushr, 1) := by decide +kernel
theorem dX0_isAskedFor_16 : decode cX0_isAskedFor 16 = .ok (.iconst 1, 1) := by decide +kernel
theorem dX0_isAskedFor_17 : decode cX0_isAskedFor 17 = .ok (.iand, 1) := by decide +kernel
theorem dX0_isAskedFor_18 : decode cX0_isAskedFor 18 = .ok (.iconst 1, 1) := by decide +kernel
theorem dX0_isAskedFor_19 : decode cX0_isAskedFor 19 = .ok (.if_icmp .ne 7, 3) := by decide +kernel
theorem dX0_isAskedFor_22 : decode cX0_isAskedFor 22 = .ok (.iconst 1, 1) := by decide +kernel
theorem dX0_isAskedFor_23 : decode cX0_isAskedFor 23 = .ok (.goto 4, 3) := by decide +kernel
theorem dX0_isAskedFor_26 : decode cX0_isAskedFor 26 = .ok (.iconst 0, 1) := by decide +kernel
theorem dX0_isAskedFor_27 : decode cX0_isAskedFor 27 = .ok (.ireturn, 1) := by decide +kernel
theorem dX0_stopBehind_0 : decode cX0_stopBehind 0 = .ok (.aload_n 0, 1) := by decide +kernel
theorem dX0_stopBehind_1 : decode cX0_stopBehind 1 = .ok (.iload_n 1, 1) := by decide +kernel
theorem dX0_stopBehind_2 : decode cX0_stopBehind 2 = .ok (.iconst 3, 1) := by decide +kernel
theorem dX0_stopBehind_3 : decode cX0_stopBehind 3 = .ok (.iadd, 1) := by decide +kernel
theorem dX0_stopBehind_4 : decode cX0_stopBehind 4 = .ok (.invokevirtual 97, 3) := by decide +kernel
theorem dX0_stopBehind_7 : decode cX0_stopBehind 7 = .ok (.istore_n 2, 1) := by decide +kernel
theorem dX0_stopBehind_8 : decode cX0_stopBehind 8 = .ok (.iload_n 2, 1) := by decide +kernel
theorem dX0_stopBehind_9 : decode cX0_stopBehind 9 = .ok (.iconst (-1), 1) := by decide +kernel
theorem dX0_stopBehind_10 : decode cX0_stopBehind 10 = .ok (.if_icmp .eq 7, 3) := by decide +kernel
theorem dX0_stopBehind_13 : decode cX0_stopBehind 13 = .ok (.iload_n 2, 1) := by decide +kernel
theorem dX0_stopBehind_14 : decode cX0_stopBehind 14 = .ok (.goto 10, 3) := by decide +kernel
theorem dX0_stopBehind_17 : decode cX0_stopBehind 17 = .ok (.aload_n 0, 1) := by decide +kernel
theorem dX0_stopBehind_18 : decode cX0_stopBehind 18 = .ok (.iload_n 1, 1) := by decide +kernel
theorem dX0_stopBehind_19 : decode cX0_stopBehind 19 = .ok (.iconst 2, 1) := by decide +kernel
theorem dX0_stopBehind_20 : decode cX0_stopBehind 20 = .ok (.iadd, 1) := by decide +kernel
theorem dX0_stopBehind_21 : decode cX0_stopBehind 21 = .ok (.invokevirtual 97, 3) := by decide +kernel
theorem dX0_stopBehind_24 : decode cX0_stopBehind 24 = .ok (.ireturn, 1) := by decide +kernel
