theorem dX0_init_0 : decode cX0_init 0 = .ok (.aload_n 0, 1) := by decide +kernel
theorem dX0_init_1 : decode cX0_init 1 = .ok (.invokespecial 3, 3) := by decide +kernel
theorem dX0_init_4 : decode cX0_init 4 = .ok (.aload_n 0, 1) := by decide +kernel
theorem dX0_init_5 : decode cX0_init 5 = .ok (.ldc 9, 2) := by decide +kernel
theorem dX0_init_7 : decode cX0_init 7 = .ok (.newarray .int, 2) := by decide +kernel
theorem dX0_init_9 : decode cX0_init 9 = .ok (.putfield 10, 3) := by decide +kernel
theorem dX0_init_12 : decode cX0_init 12 = .ok (.aload_n 0, 1) := by decide +kernel
theorem dX0_init_13 : decode cX0_init 13 = .ok (.sipush 200, 3) := by decide +kernel
theorem dX0_init_16 : decode cX0_init 16 = .ok (.newarray .int, 2) := by decide +kernel
theorem dX0_init_18 : decode cX0_init 18 = .ok (.putfield 14, 3) := by decide +kernel
theorem dX0_init_21 : decode cX0_init 21 = .ok (.aload_n 0, 1) := by decide +kernel
theorem dX0_init_22 : decode cX0_init 22 = .ok (.iconst 0, 1) := by decide +kernel
theorem dX0_init_23 : decode cX0_init 23 = .ok (.putfield 17, 3) := by decide +kernel
theorem dX0_init_26 : decode cX0_init 26 = .ok (.aload_n 0, 1) := by decide +kernel
theorem dX0_init_27 : decode cX0_init 27 = .ok (.iconst 0, 1) := by decide +kernel
theorem dX0_init_28 : decode cX0_init 28 = .ok (.putfield 21, 3) := by decide +kernel
theorem dX0_init_31 : decode cX0_init 31 = .ok (.aload_n 0, 1) := by decide +kernel
theorem dX0_init_32 : decode cX0_init 32 = .ok (.iconst 0, 1) := by decide +kernel
theorem dX0_init_33 : decode cX0_init 33 = .ok (.putfield 24, 3) := by decide +kernel
theorem dX0_init_36 : decode cX0_init 36 = .ok (.aload_n 0, 1) := by decide +kernel
theorem dX0_init_37 : decode cX0_init 37 = .ok (.iconst (-1), 1) := by decide +kernel
theorem dX0_init_38 : decode cX0_init 38 = .ok (.putfield 27, 3) := by decide +kernel
theorem dX0_init_41 : decode cX0_init 41 = .ok (.aload_n 0, 1) := by decide +kernel
theorem dX0_init_42 : decode cX0_init 42 = .ok (.iconst 1, 1) := by decide +kernel
theorem dX0_init_43 : decode cX0_init 43 = .ok (.putfield 30, 3) := by decide +kernel
theorem dX0_init_46 : decode cX0_init 46 = .ok (.return_, 1) := by decide +kernel
theorem dX0_set_0 : decode cX0_set 0 = .ok (.aload_n 0, 1) := by decide +kernel
theorem dX0_set_1 : decode cX0_set 1 = .ok (.invokevirtual 34, 3) := by decide +kernel
theorem dX0_set_4 : decode cX0_set 4 = .ok (.iload_n 1, 1) := by decide +kernel
theorem dX0_set_5 : decode cX0_set 5 = .ok (.ifCond .lt 12, 3) := by decide +kernel
theorem dX0_set_8 : decode cX0_set 8 = .ok (.iload_n 1, 1) := by decide +kernel
theorem dX0_set_9 : decode cX0_set 9 = .ok (.aload_n 0, 1) := by decide +kernel
theorem dX0_set_10 : decode cX0_set 10 = .ok (.getfield 14, 3) := by decide +kernel
theorem dX0_set_13 : decode cX0_set 13 = .ok (.arraylength, 1) := by decide +kernel
theorem dX0_set_14 : decode cX0_set 14 = .ok (.if_icmp .lt 13, 3) := by decide +kernel
theorem dX0_set_17 : decode cX0_set 17 = .ok (.new 37, 3) := by decide +kernel
theorem dX0_set_20 : decode cX0_set 20 = .ok (.dup, 1) := by decide +kernel
theorem dX0_set_21 : decode cX0_set 21 = .ok (.ldc 39, 2) := by decide +kernel
theorem dX0_set_23 : decode cX0_set 23 = .ok (.invokespecial 41, 3) := by decide +kernel
theorem dX0_set_26 : decode cX0_set 26 = .ok (.athrow, 1) := by decide +kernel
theorem dX0_set_27 : decode cX0_set 27 = .ok (.aload_n 0, 1) := by decide +kernel
theorem dX0_set_28 : decode cX0_set 28 = .ok (.getfield 14, 3) := by decide +kernel
theorem dX0_set_31 : decode cX0_set 31 = .ok (.iload_n 1, 1) := by decide +kernel
theorem dX0_set_32 : decode cX0_set 32 = .ok (.iload_n 2, 1) := by decide +kernel
theorem dX0_set_33 : decode cX0_set 33 = .ok (.iastore, 1) := by decide +kernel
theorem dX0_set_34 : decode cX0_set 34 = .ok (.return_, 1) := by decide +kernel
theorem dX0_fill_0 : decode cX0_fill 0 = .ok (.aload_n 0, 1) := by decide +kernel
theorem dX0_fill_1 : decode cX0_fill 1 = .ok (.invokevirtual 34, 3) := by decide +kernel
theorem dX0_fill_4 : decode cX0_fill 4 = .ok (.aload_n 0, 1) := by decide +kernel
theorem dX0_fill_5 : decode cX0_fill 5 = .ok (.iload_n 1, 1) := by decide +kernel
theorem dX0_fill_6 : decode cX0_fill 6 = .ok (.iload_n 2, 1) := by decide +kernel
theorem dX0_fill_7 : decode cX0_fill 7 = .ok (.invokevirtual 44, 3) := by decide +kernel
theorem dX0_fill_10 : decode cX0_fill 10 = .ok (.return_, 1) := by decide +kernel
theorem dX0_append_0 : decode cX0_append 0 = .ok (.aload_n 0, 1) := by decide +kernel
theorem dX0_append_1 : decode cX0_append 1 = .ok (.invokevirtual 34, 3) := by decide +kernel
theorem dX0_append_4 : decode cX0_append 4 = .ok (.aload_n 0, 1) := by decide +kernel
theorem dX0_append_5 : decode cX0_append 5 = .ok (.iload_n 2, 1) := by decide +kernel
theorem dX0_append_6 : decode cX0_append 6 = .ok (.invokevirtual 48, 3) := by decide +kernel
theorem dX0_append_9 : decode cX0_append 9 = .ok (.iload_n 1, 1) := by decide +kernel
theorem dX0_append_10 : decode cX0_append 10 = .ok (.ifCond .lt 9, 3) := by decide +kernel
theorem dX0_append_13 : decode cX0_append 13 = .ok (.iload_n 1, 1) := by decide +kernel
theorem dX0_append_14 : decode cX0_append 14 = .ok (.bipush 16, 2) := by decide +kernel
theorem dX0_append_16 : decode cX0_append 16 = .ok (.if_icmp .lt 13, 3) := by decide +kernel
theorem dX0_append_19 : decode cX0_append 19 = .ok (.new 52, 3) := by decide +kernel
theorem dX0_append_22 : decode cX0_append 22 = .ok (.dup, 1) := by decide +kernel
theorem dX0_append_23 : decode cX0_append 23 = .ok (.ldc 54, 2) := by decide +kernel
theorem dX0_append_25 : decode cX0_append 25 = .ok (.invokespecial 56, 3) := by decide +kernel
theorem dX0_append_28 : decode cX0_append 28 = .ok (.athrow, 1) := by decide +kernel
theorem dX0_append_29 : decode cX0_append 29 = .ok (.iload 4, 2) := by decide +kernel
theorem dX0_append_31 : decode cX0_append 31 = .ok (.ifCond .lt 11, 3) := by decide +kernel
theorem dX0_append_34 : decode cX0_append 34 = .ok (.iload 4, 2) := by decide +kernel
theorem dX0_append_36 : decode cX0_append 36 = .ok (.sipush 200, 3) := by decide +kernel
theorem dX0_append_39 : decode cX0_append 39 = .ok (.if_icmp .le 13, 3) := by decide +kernel
theorem dX0_append_42 : decode cX0_append 42 = .ok (.new 52, 3) := by decide +kernel
theorem dX0_append_45 : decode cX0_append 45 = .ok (.dup, 1) := by decide +kernel
theorem dX0_append_46 : decode cX0_append 46 = .ok (.ldc 57, 2) := by decide +kernel
theorem dX0_append_48 : decode cX0_append 48 = .ok (.invokespecial 56, 3) := by decide +kernel
theorem dX0_append_51 : decode cX0_append 51 = .ok (.athrow, 1) := by decide +kernel
theorem dX0_append_52 : decode cX0_append 52 = .ok (.iload_n 3, 1) := by decide +kernel
theorem dX0_append_53 : decode cX0_append 53 = .ok (.iconst (-1), 1) := by decide +kernel
theorem dX0_append_54 : decode cX0_append 54 = .ok (.if_icmp .lt 11, 3) := by decide +kernel
theorem dX0_append_57 : decode cX0_append 57 = .ok (.iload_n 3, 1) := by decide +kernel
theorem dX0_append_58 : decode cX0_append 58 = .ok (.aload_n 0, 1) := by decide +kernel
theorem dX0_append_59 : decode cX0_append 59 = .ok (.getfield 24, 3) := by decide +kernel
theorem dX0_append_62 : decode cX0_append 62 = .ok (.if_icmp .lt 13, 3) := by decide +kernel
theorem dX0_append_65 : decode cX0_append 65 = .ok (.new 52, 3) := by decide +kernel
theorem dX0_append_68 : decode cX0_append 68 = .ok (.dup, 1) := by decide +kernel
theorem dX0_append_69 : decode cX0_append 69 = .ok (.ldc 59, 2) := by decide +kernel
theorem dX0_append_71 : decode cX0_append 71 = .ok (.invokespecial 56, 3) := by decide +kernel
theorem dX0_append_74 : decode cX0_append 74 = .ok (.athrow, 1) := by decide +kernel
theorem dX0_append_75 : decode cX0_append 75 = .ok (.iload 4, 2) := by decide +kernel
theorem dX0_append_77 : decode cX0_append 77 = .ok (.iconst 5, 1) := by decide +kernel
theorem dX0_append_78 : decode cX0_append 78 = .ok (.iadd, 1) := by decide +kernel
theorem dX0_append_79 : decode cX0_append 79 = .ok (.istore 5, 2) := by decide +kernel
theorem dX0_append_81 : decode cX0_append 81 = .ok (.iload 5, 2) := by decide +kernel
theorem dX0_append_83 : decode cX0_append 83 = .ok (.ldc 9, 2) := by decide +kernel
theorem dX0_append_85 : decode cX0_append 85 = .ok (.aload_n 0, 1) := by decide +kernel
theorem dX0_append_86 : decode cX0_append 86 = .ok (.getfield 24, 3) := by decide +kernel
theorem dX0_append_89 : decode cX0_append 89 = .ok (.aload_n 0, 1) := by decide +kernel
theorem dX0_append_90 : decode cX0_append 90 = .ok (.getfield 17, 3) := by decide +kernel
theorem dX0_append_93 : decode cX0_append 93 = .ok (.isub, 1) := by decide +kernel
theorem dX0_append_94 : decode cX0_append 94 = .ok (.isub, 1) := by decide +kernel
theorem dX0_append_95 : decode cX0_append 95 = .ok (.if_icmp .le 5, 3) := by decide +kernel
theorem dX0_append_98 : decode cX0_append 98 = .ok (.iconst (-1), 1) := by decide +kernel
theorem dX0_append_99 : decode cX0_append 99 = .ok (.ireturn, 1) := by decide +kernel
theorem dX0_append_100 : decode cX0_append 100 = .ok (.aload_n 0, 1) := by decide +kernel
theorem dX0_append_101 : decode cX0_append 101 = .ok (.getfield 24, 3) := by decide +kernel
theorem dX0_append_104 : decode cX0_append 104 = .ok (.istore 6, 2) := by decide +kernel
theorem dX0_append_106 : decode cX0_append 106 = .ok (.aload_n 0, 1) := by decide +kernel
theorem dX0_append_107 : decode cX0_append 107 = .ok (.iload_n 2, 1) := by decide +kernel
theorem dX0_append_108 : decode cX0_append 108 = .ok (.invokevirtual 61, 3) := by decide +kernel
theorem dX0_append_111 : decode cX0_append 111 = .ok (.istore 7, 2) := by decide +kernel
theorem dX0_append_113 : decode cX0_append 113 = .ok (.aload_n 0, 1) := by decide +kernel
theorem dX0_append_114 : decode cX0_append 114 = .ok (.iload 5, 2) := by decide +kernel
theorem dX0_append_116 : decode cX0_append 116 = .ok (.invokevirtual 65, 3) := by decide +kernel
theorem dX0_append_119 : decode cX0_append 119 = .ok (.aload_n 0, 1) := by decide +kernel
theorem dX0_append_120 : decode cX0_append 120 = .ok (.iload_n 1, 1) := by decide +kernel
theorem dX0_append_121 : decode cX0_append 121 = .ok (.bipush 16, 2) := by decide +kernel
theorem dX0_append_123 : decode cX0_append 123 = .ok (.iload_n 2, 1) := by decide +kernel
theorem dX0_append_124 : decode cX0_append 124 = .ok (.imul, 1) := by decide +kernel
theorem dX0_append_125 : decode cX0_append 125 = .ok (.iadd, 1) := by decide +kernel
theorem dX0_append_126 : decode cX0_append 126 = .ok (.invokevirtual 65, 3) := by decide +kernel
theorem dX0_append_129 : decode cX0_append 129 = .ok (.aload_n 0, 1) := by decide +kernel
theorem dX0_append_130 : decode cX0_append 130 = .ok (.iload 7, 2) := by decide +kernel
theorem dX0_append_132 : decode cX0_append 132 = .ok (.invokevirtual 65, 3) := by decide +kernel
theorem dX0_append_135 : decode cX0_append 135 = .ok (.aload_n 0, 1) := by decide +kernel
theorem dX0_append_136 : decode cX0_append 136 = .ok (.iload_n 3, 1) := by decide +kernel
theorem dX0_append_137 : decode cX0_append 137 = .ok (.invokevirtual 65, 3) := by decide +kernel
theorem dX0_append_140 : decode cX0_append 140 = .ok (.aload_n 0, 1) := by decide +kernel
theorem dX0_append_141 : decode cX0_append 141 = .ok (.iload 4, 2) := by decide +kernel
theorem dX0_append_143 : decode cX0_append 143 = .ok (.invokevirtual 68, 3) := by decide +kernel
theorem dX0_append_146 : decode cX0_append 146 = .ok (.aload_n 0, 1) := by decide +kernel
theorem dX0_append_147 : decode cX0_append 147 = .ok (.iload 5, 2) := by decide +kernel
theorem dX0_append_149 : decode cX0_append 149 = .ok (.invokevirtual 65, 3) := by decide +kernel
theorem dX0_append_152 : decode cX0_append 152 = .ok (.iload 6, 2) := by decide +kernel
theorem dX0_append_154 : decode cX0_append 154 = .ok (.ireturn, 1) := by decide +kernel
theorem dX0_force_0 : decode cX0_force 0 = .ok (.aload_n 0, 1) := by decide +kernel
theorem dX0_force_1 : decode cX0_force 1 = .ok (.invokevirtual 34, 3) := by decide +kernel
theorem dX0_force_4 : decode cX0_force 4 = .ok (.aload_n 0, 1) := by decide +kernel
theorem dX0_force_5 : decode cX0_force 5 = .ok (.iload_n 1, 1) := by decide +kernel
theorem dX0_force_6 : decode cX0_force 6 = .ok (.invokevirtual 71, 3) := by decide +kernel
theorem dX0_force_9 : decode cX0_force 9 = .ok (.aload_n 0, 1) := by decide +kernel
theorem dX0_force_10 : decode cX0_force 10 = .ok (.aload_n 0, 1) := by decide +kernel
theorem dX0_force_11 : decode cX0_force 11 = .ok (.iload_n 1, 1) := by decide +kernel
theorem dX0_force_12 : decode cX0_force 12 = .ok (.invokevirtual 74, 3) := by decide +kernel
theorem dX0_force_15 : decode cX0_force 15 = .ok (.invokevirtual 77, 3) := by decide +kernel
theorem dX0_force_18 : decode cX0_force 18 = .ok (.ireturn, 1) := by decide +kernel
theorem dX0_forceAll_0 : decode cX0_forceAll 0 = .ok (.aload_n 0, 1) := by decide +kernel
theorem dX0_forceAll_1 : decode cX0_forceAll 1 = .ok (.invokevirtual 34, 3) := by decide +kernel
theorem dX0_forceAll_4 : decode cX0_forceAll 4 = .ok (.aload_n 0, 1) := by decide +kernel
theorem dX0_forceAll_5 : decode cX0_forceAll 5 = .ok (.aload_n 0, 1) := by decide +kernel
theorem dX0_forceAll_6 : decode cX0_forceAll 6 = .ok (.getfield 24, 3) := by decide +kernel
theorem dX0_forceAll_9 : decode cX0_forceAll 9 = .ok (.invokevirtual 77, 3) := by decide +kernel
theorem dX0_forceAll_12 : decode cX0_forceAll 12 = .ok (.ireturn, 1) := by decide +kernel
theorem dX0_giveBack_0 : decode cX0_giveBack 0 = .ok (.aload_n 0, 1) := by decide +kernel
theorem dX0_giveBack_1 : decode cX0_giveBack 1 = .ok (.invokevirtual 34, 3) := by decide +kernel
theorem dX0_giveBack_4 : decode cX0_giveBack 4 = .ok (.aload_n 0, 1) := by decide +kernel
theorem dX0_giveBack_5 : decode cX0_giveBack 5 = .ok (.iload_n 1, 1) := by decide +kernel
theorem dX0_giveBack_6 : decode cX0_giveBack 6 = .ok (.invokevirtual 71, 3) := by decide +kernel
theorem dX0_giveBack_9 : decode cX0_giveBack 9 = .ok (.aload_n 0, 1) := by decide +kernel
theorem dX0_giveBack_10 : decode cX0_giveBack 10 = .ok (.iload_n 1, 1) := by decide +kernel
theorem dX0_giveBack_11 : decode cX0_giveBack 11 = .ok (.invokevirtual 74, 3) := by decide +kernel
theorem dX0_giveBack_14 : decode cX0_giveBack 14 = .ok (.aload_n 0, 1) := by decide +kernel
theorem dX0_giveBack_15 : decode cX0_giveBack 15 = .ok (.getfield 21, 3) := by decide +kernel
theorem dX0_giveBack_18 : decode cX0_giveBack 18 = .ok (.if_icmp .le 13, 3) := by decide +kernel
theorem dX0_giveBack_21 : decode cX0_giveBack 21 = .ok (.new 80, 3) := by decide +kernel
theorem dX0_giveBack_24 : decode cX0_giveBack 24 = .ok (.dup, 1) := by decide +kernel
theorem dX0_giveBack_25 : decode cX0_giveBack 25 = .ok (.ldc 82, 2) := by decide +kernel
theorem dX0_giveBack_27 : decode cX0_giveBack 27 = .ok (.invokespecial 84, 3) := by decide +kernel
theorem dX0_giveBack_30 : decode cX0_giveBack 30 = .ok (.athrow, 1) := by decide +kernel
theorem dX0_giveBack_31 : decode cX0_giveBack 31 = .ok (.iload_n 1, 1) := by decide +kernel
theorem dX0_giveBack_32 : decode cX0_giveBack 32 = .ok (.aload_n 0, 1) := by decide +kernel
theorem dX0_giveBack_33 : decode cX0_giveBack 33 = .ok (.getfield 17, 3) := by decide +kernel
theorem dX0_giveBack_36 : decode cX0_giveBack 36 = .ok (.isub, 1) := by decide +kernel
theorem dX0_giveBack_37 : decode cX0_giveBack 37 = .ok (.istore_n 2, 1) := by decide +kernel
theorem dX0_giveBack_38 : decode cX0_giveBack 38 = .ok (.aload_n 0, 1) := by decide +kernel
theorem dX0_giveBack_39 : decode cX0_giveBack 39 = .ok (.iload_n 1, 1) := by decide +kernel
theorem dX0_giveBack_40 : decode cX0_giveBack 40 = .ok (.putfield 17, 3) := by decide +kernel
theorem dX0_giveBack_43 : decode cX0_giveBack 43 = .ok (.iload_n 2, 1) := by decide +kernel
theorem dX0_giveBack_44 : decode cX0_giveBack 44 = .ok (.ireturn, 1) := by decide +kernel
theorem dX0_first_0 : decode cX0_first 0 = .ok (.aload_n 0, 1) := by decide +kernel
theorem dX0_first_1 : decode cX0_first 1 = .ok (.invokevirtual 34, 3) := by decide +kernel
theorem dX0_first_4 : decode cX0_first 4 = .ok (.aload_n 0, 1) := by decide +kernel
theorem dX0_first_5 : decode cX0_first 5 = .ok (.aload_n 0, 1) := by decide +kernel
theorem dX0_first_6 : decode cX0_first 6 = .ok (.getfield 17, 3) := by decide +kernel
theorem dX0_first_9 : decode cX0_first 9 = .ok (.invokevirtual 85, 3) := by decide +kernel
theorem dX0_first_12 : decode cX0_first 12 = .ok (.ireturn, 1) := by decide +kernel
theorem dX0_last_0 : decode cX0_last 0 = .ok (.aload_n 0, 1) := by decide +kernel
theorem dX0_last_1 : decode cX0_last 1 = .ok (.invokevirtual 34, 3) := by decide +kernel
theorem dX0_last_4 : decode cX0_last 4 = .ok (.aload_n 0, 1) := by decide +kernel
theorem dX0_last_5 : decode cX0_last 5 = .ok (.aload_n 0, 1) := by decide +kernel
theorem dX0_last_6 : decode cX0_last 6 = .ok (.getfield 24, 3) := by decide +kernel
theorem dX0_last_9 : decode cX0_last 9 = .ok (.invokevirtual 88, 3) := by decide +kernel
theorem dX0_last_12 : decode cX0_last 12 = .ok (.ireturn, 1) := by decide +kernel
theorem dX0_lastForced_0 : decode cX0_lastForced 0 = .ok (.aload_n 0, 1) := by decide +kernel
theorem dX0_lastForced_1 : decode cX0_lastForced 1 = .ok (.invokevirtual 34, 3) := by decide +kernel
theorem dX0_lastForced_4 : decode cX0_lastForced 4 = .ok (.aload_n 0, 1) := by decide +kernel
theorem dX0_lastForced_5 : decode cX0_lastForced 5 = .ok (.aload_n 0, 1) := by decide +kernel
theorem dX0_lastForced_6 : decode cX0_lastForced 6 = .ok (.getfield 21, 3) := by decide +kernel
theorem dX0_lastForced_9 : decode cX0_lastForced 9 = .ok (.invokevirtual 88, 3) := by decide +kernel
theorem dX0_lastForced_12 : decode cX0_lastForced 12 = .ok (.ireturn, 1) := by decide +kernel
theorem dX0_next_0 : decode cX0_next 0 = .ok (.aload_n 0, 1) := by decide +kernel
theorem dX0_next_1 : decode cX0_next 1 = .ok (.invokevirtual 34, 3) := by decide +kernel
theorem dX0_next_4 : decode cX0_next 4 = .ok (.aload_n 0, 1) := by decide +kernel
theorem dX0_next_5 : decode cX0_next 5 = .ok (.iload_n 1, 1) := by decide +kernel
theorem dX0_next_6 : decode cX0_next 6 = .ok (.invokevirtual 71, 3) := by decide +kernel
theorem dX0_next_9 : decode cX0_next 9 = .ok (.aload_n 0, 1) := by decide +kernel
theorem dX0_next_10 : decode cX0_next 10 = .ok (.aload_n 0, 1) := by decide +kernel
theorem dX0_next_11 : decode cX0_next 11 = .ok (.iload_n 1, 1) := by decide +kernel
theorem dX0_next_12 : decode cX0_next 12 = .ok (.invokevirtual 74, 3) := by decide +kernel
theorem dX0_next_15 : decode cX0_next 15 = .ok (.invokevirtual 85, 3) := by decide +kernel
theorem dX0_next_18 : decode cX0_next 18 = .ok (.ireturn, 1) := by decide +kernel
theorem dX0_before_0 : decode cX0_before 0 = .ok (.aload_n 0, 1) := by decide +kernel
theorem dX0_before_1 : decode cX0_before 1 = .ok (.invokevirtual 34, 3) := by decide +kernel
theorem dX0_before_4 : decode cX0_before 4 = .ok (.aload_n 0, 1) := by decide +kernel
theorem dX0_before_5 : decode cX0_before 5 = .ok (.iload_n 1, 1) := by decide +kernel
theorem dX0_before_6 : decode cX0_before 6 = .ok (.invokevirtual 71, 3) := by decide +kernel
theorem dX0_before_9 : decode cX0_before 9 = .ok (.aload_n 0, 1) := by decide +kernel
theorem dX0_before_10 : decode cX0_before 10 = .ok (.iload_n 1, 1) := by decide +kernel
theorem dX0_before_11 : decode cX0_before 11 = .ok (.invokevirtual 88, 3) := by decide +kernel
theorem dX0_before_14 : decode cX0_before 14 = .ok (.ireturn, 1) := by decide +kernel
theorem dX0_lastOf_0 : decode cX0_lastOf 0 = .ok (.aload_n 0, 1) := by decide +kernel
theorem dX0_lastOf_1 : decode cX0_lastOf 1 = .ok (.invokevirtual 34, 3) := by decide +kernel
theorem dX0_lastOf_4 : decode cX0_lastOf 4 = .ok (.aload_n 0, 1) := by decide +kernel
theorem dX0_lastOf_5 : decode cX0_lastOf 5 = .ok (.iload_n 1, 1) := by decide +kernel
theorem dX0_lastOf_6 : decode cX0_lastOf 6 = .ok (.invokevirtual 48, 3) := by decide +kernel
theorem dX0_lastOf_9 : decode cX0_lastOf 9 = .ok (.aload_n 0, 1) := by decide +kernel
theorem dX0_lastOf_10 : decode cX0_lastOf 10 = .ok (.iload_n 1, 1) := by decide +kernel
theorem dX0_lastOf_11 : decode cX0_lastOf 11 = .ok (.invokevirtual 61, 3) := by decide +kernel
theorem dX0_lastOf_14 : decode cX0_lastOf 14 = .ok (.ireturn, 1) := by decide +kernel
theorem dX0_of_0 : decode cX0_of 0 = .ok (.aload_n 0, 1) := by decide +kernel
theorem dX0_of_1 : decode cX0_of 1 = .ok (.invokevirtual 34, 3) := by decide +kernel
theorem dX0_of_4 : decode cX0_of 4 = .ok (.aload_n 0, 1) := by decide +kernel
theorem dX0_of_5 : decode cX0_of 5 = .ok (.iload_n 1, 1) := by decide +kernel
theorem dX0_of_6 : decode cX0_of 6 = .ok (.invokevirtual 71, 3) := by decide +kernel
theorem dX0_of_9 : decode cX0_of 9 = .ok (.iload_n 2, 1) := by decide +kernel
theorem dX0_of_10 : decode cX0_of 10 = .ok (.tableswitch 68 0 4 #[34, 40, 46, 54, 62], 34) := by decide +kernel
theorem dX0_of_44 : decode cX0_of 44 = .ok (.aload_n 0, 1) := by decide +kernel
theorem dX0_of_45 : decode cX0_of 45 = .ok (.iload_n 1, 1) := by decide +kernel
theorem dX0_of_46 : decode cX0_of 46 = .ok (.invokevirtual 91, 3) := by decide +kernel
theorem dX0_of_49 : decode cX0_of 49 = .ok (.ireturn, 1) := by decide +kernel
theorem dX0_of_50 : decode cX0_of 50 = .ok (.aload_n 0, 1) := by decide +kernel
theorem dX0_of_51 : decode cX0_of 51 = .ok (.iload_n 1, 1) := by decide +kernel
theorem dX0_of_52 : decode cX0_of 52 = .ok (.invokevirtual 94, 3) := by decide +kernel
theorem dX0_of_55 : decode cX0_of 55 = .ok (.ireturn, 1) := by decide +kernel
theorem dX0_of_56 : decode cX0_of 56 = .ok (.aload_n 0, 1) := by decide +kernel
theorem dX0_of_57 : decode cX0_of 57 = .ok (.iload_n 1, 1) := by decide +kernel
theorem dX0_of_58 : decode cX0_of 58 = .ok (.iconst 2, 1) := by decide +kernel
theorem dX0_of_59 : decode cX0_of 59 = .ok (.iadd, 1) := by decide +kernel
theorem dX0_of_60 : decode cX0_of 60 = .ok (.invokevirtual 97, 3) := by decide +kernel
theorem dX0_of_63 : decode cX0_of 63 = .ok (.ireturn, 1) := by decide +kernel
theorem dX0_of_64 : decode cX0_of 64 = .ok (.aload_n 0, 1) := by decide +kernel
theorem dX0_of_65 : decode cX0_of 65 = .ok (.iload_n 1, 1) := by decide +kernel
theorem dX0_of_66 : decode cX0_of 66 = .ok (.iconst 3, 1) := by decide +kernel
theorem dX0_of_67 : decode cX0_of 67 = .ok (.iadd, 1) := by decide +kernel
theorem dX0_of_68 : decode cX0_of 68 = .ok (.invokevirtual 97, 3) := by decide +kernel
theorem dX0_of_71 : decode cX0_of 71 = .ok (.ireturn, 1) := by decide +kernel
theorem dX0_of_72 : decode cX0_of 72 = .ok (.aload_n 0, 1) := by decide +kernel
theorem dX0_of_73 : decode cX0_of 73 = .ok (.iload_n 1, 1) := by decide +kernel
theorem dX0_of_74 : decode cX0_of 74 = .ok (.invokevirtual 100, 3) := by decide +kernel
theorem dX0_of_77 : decode cX0_of 77 = .ok (.ireturn, 1) := by decide +kernel
theorem dX0_of_78 : decode cX0_of 78 = .ok (.new 37, 3) := by decide +kernel
theorem dX0_of_81 : decode cX0_of 81 = .ok (.dup, 1) := by decide +kernel
theorem dX0_of_82 : decode cX0_of 82 = .ok (.ldc 103, 2) := by decide +kernel
theorem dX0_of_84 : decode cX0_of 84 = .ok (.invokespecial 41, 3) := by decide +kernel
theorem dX0_of_87 : decode cX0_of 87 = .ok (.athrow, 1) := by decide +kernel
theorem dX0_word_0 : decode cX0_word 0 = .ok (.aload_n 0, 1) := by decide +kernel
theorem dX0_word_1 : decode cX0_word 1 = .ok (.invokevirtual 34, 3) := by decide +kernel
theorem dX0_word_4 : decode cX0_word 4 = .ok (.aload_n 0, 1) := by decide +kernel
theorem dX0_word_5 : decode cX0_word 5 = .ok (.iload_n 1, 1) := by decide +kernel
theorem dX0_word_6 : decode cX0_word 6 = .ok (.invokevirtual 71, 3) := by decide +kernel
theorem dX0_word_9 : decode cX0_word 9 = .ok (.iload_n 2, 1) := by decide +kernel
theorem dX0_word_10 : decode cX0_word 10 = .ok (.ifCond .lt 12, 3) := by decide +kernel
theorem dX0_word_13 : decode cX0_word 13 = .ok (.iload_n 2, 1) := by decide +kernel
theorem dX0_word_14 : decode cX0_word 14 = .ok (.aload_n 0, 1) := by decide +kernel
theorem dX0_word_15 : decode cX0_word 15 = .ok (.iload_n 1, 1) := by decide +kernel
theorem dX0_word_16 : decode cX0_word 16 = .ok (.invokevirtual 100, 3) := by decide +kernel
theorem dX0_word_19 : decode cX0_word 19 = .ok (.if_icmp .lt 13, 3) := by decide +kernel
theorem dX0_word_22 : decode cX0_word 22 = .ok (.new 37, 3) := by decide +kernel
theorem dX0_word_25 : decode cX0_word 25 = .ok (.dup, 1) := by decide +kernel
theorem dX0_word_26 : decode cX0_word 26 = .ok (.ldc 105, 2) := by decide +kernel
theorem dX0_word_28 : decode cX0_word 28 = .ok (.invokespecial 41, 3) := by decide +kernel
theorem dX0_word_31 : decode cX0_word 31 = .ok (.athrow, 1) := by decide +kernel
theorem dX0_word_32 : decode cX0_word 32 = .ok (.aload_n 0, 1) := by decide +kernel
theorem dX0_word_33 : decode cX0_word 33 = .ok (.iload_n 1, 1) := by decide +kernel
theorem dX0_word_34 : decode cX0_word 34 = .ok (.iconst 4, 1) := by decide +kernel
theorem dX0_word_35 : decode cX0_word 35 = .ok (.iadd, 1) := by decide +kernel
theorem dX0_word_36 : decode cX0_word 36 = .ok (.iload_n 2, 1) := by decide +kernel
theorem dX0_word_37 : decode cX0_word 37 = .ok (.iadd, 1) := by decide +kernel
theorem dX0_word_38 : decode cX0_word 38 = .ok (.invokevirtual 97, 3) := by decide +kernel
theorem dX0_word_41 : decode cX0_word 41 = .ok (.ireturn, 1) := by decide +kernel
theorem dX0_back_0 : decode cX0_back 0 = .ok (.aload_n 0, 1) := by decide +kernel
theorem dX0_back_1 : decode cX0_back 1 = .ok (.invokevirtual 34, 3) := by decide +kernel
theorem dX0_back_4 : decode cX0_back 4 = .ok (.aload_n 0, 1) := by decide +kernel
theorem dX0_back_5 : decode cX0_back 5 = .ok (.iload_n 1, 1) := by decide +kernel
theorem dX0_back_6 : decode cX0_back 6 = .ok (.invokevirtual 48, 3) := by decide +kernel
theorem dX0_back_9 : decode cX0_back 9 = .ok (.iload_n 3, 1) := by decide +kernel
theorem dX0_back_10 : decode cX0_back 10 = .ok (.ifCond .ge 13, 3) := by decide +kernel
theorem dX0_back_13 : decode cX0_back 13 = .ok (.new 52, 3) := by decide +kernel
theorem dX0_back_16 : decode cX0_back 16 = .ok (.dup, 1) := by decide +kernel
theorem dX0_back_17 : decode cX0_back 17 = .ok (.ldc 107, 2) := by decide +kernel
theorem dX0_back_19 : decode cX0_back 19 = .ok (.invokespecial 56, 3) := by decide +kernel
theorem dX0_back_22 : decode cX0_back 22 = .ok (.athrow, 1) := by decide +kernel
theorem dX0_back_23 : decode cX0_back 23 = .ok (.aload_n 0, 1) := by decide +kernel
theorem dX0_back_24 : decode cX0_back 24 = .ok (.iload_n 1, 1) := by decide +kernel
theorem dX0_back_25 : decode cX0_back 25 = .ok (.iload_n 2, 1) := by decide +kernel
theorem dX0_back_26 : decode cX0_back 26 = .ok (.iload_n 3, 1) := by decide +kernel
theorem dX0_back_27 : decode cX0_back 27 = .ok (.invokevirtual 109, 3) := by decide +kernel
theorem dX0_back_30 : decode cX0_back 30 = .ok (.ireturn, 1) := by decide +kernel
theorem dX0_count_0 : decode cX0_count 0 = .ok (.aload_n 0, 1) := by decide +kernel
theorem dX0_count_1 : decode cX0_count 1 = .ok (.invokevirtual 34, 3) := by decide +kernel
theorem dX0_count_4 : decode cX0_count 4 = .ok (.iconst 0, 1) := by decide +kernel
theorem dX0_count_5 : decode cX0_count 5 = .ok (.istore_n 1, 1) := by decide +kernel
theorem dX0_count_6 : decode cX0_count 6 = .ok (.aload_n 0, 1) := by decide +kernel
theorem dX0_count_7 : decode cX0_count 7 = .ok (.aload_n 0, 1) := by decide +kernel
theorem dX0_count_8 : decode cX0_count 8 = .ok (.getfield 24, 3) := by decide +kernel
theorem dX0_count_11 : decode cX0_count 11 = .ok (.invokevirtual 88, 3) := by decide +kernel
theorem dX0_count_14 : decode cX0_count 14 = .ok (.istore_n 2, 1) := by decide +kernel
theorem dX0_count_15 : decode cX0_count 15 = .ok (.iconst 0, 1) := by decide +kernel
theorem dX0_count_16 : decode cX0_count 16 = .ok (.istore_n 3, 1) := by decide +kernel
theorem dX0_count_17 : decode cX0_count 17 = .ok (.iload_n 3, 1) := by decide +kernel
theorem dX0_count_18 : decode cX0_count 18 = .ok (.sipush 13107, 3) := by decide +kernel
theorem dX0_count_21 : decode cX0_count 21 = .ok (.if_icmp .ge 23, 3) := by decide +kernel
theorem dX0_count_24 : decode cX0_count 24 = .ok (.iload_n 2, 1) := by decide +kernel
theorem dX0_count_25 : decode cX0_count 25 = .ok (.iconst (-1), 1) := by decide +kernel
theorem dX0_count_26 : decode cX0_count 26 = .ok (.if_icmp .eq 18, 3) := by decide +kernel
theorem dX0_count_29 : decode cX0_count 29 = .ok (.iinc 1 1, 3) := by decide +kernel
theorem dX0_count_32 : decode cX0_count 32 = .ok (.aload_n 0, 1) := by decide +kernel
theorem dX0_count_33 : decode cX0_count 33 = .ok (.iload_n 2, 1) := by decide +kernel
theorem dX0_count_34 : decode cX0_count 34 = .ok (.invokevirtual 88, 3) := by decide +kernel
theorem dX0_count_37 : decode cX0_count 37 = .ok (.istore_n 2, 1) := by decide +kernel
theorem dX0_count_38 : decode cX0_count 38 = .ok (.iinc 3 1, 3) := by decide +kernel
theorem dX0_count_41 : decode cX0_count 41 = .ok (.goto (-24), 3) := by decide +kernel
theorem dX0_count_44 : decode cX0_count 44 = .ok (.iload_n 1, 1) := by decide +kernel
theorem dX0_count_45 : decode cX0_count 45 = .ok (.ireturn, 1) := by decide +kernel
theorem dX0_log_0 : decode cX0_log 0 = .ok (.iload_n 1, 1) := by decide +kernel
theorem dX0_log_1 : decode cX0_log 1 = .ok (.tableswitch 42 0 2 #[27, 32, 37], 27) := by decide +kernel
theorem dX0_log_28 : decode cX0_log 28 = .ok (.aload_n 0, 1) := by decide +kernel
theorem dX0_log_29 : decode cX0_log 29 = .ok (.getfield 17, 3) := by decide +kernel
theorem dX0_log_32 : decode cX0_log 32 = .ok (.ireturn, 1) := by decide +kernel
theorem dX0_log_33 : decode cX0_log 33 = .ok (.aload_n 0, 1) := by decide +kernel
theorem dX0_log_34 : decode cX0_log 34 = .ok (.getfield 21, 3) := by decide +kernel
theorem dX0_log_37 : decode cX0_log 37 = .ok (.ireturn, 1) := by decide +kernel
theorem dX0_log_38 : decode cX0_log 38 = .ok (.aload_n 0, 1) := by decide +kernel
theorem dX0_log_39 : decode cX0_log 39 = .ok (.getfield 24, 3) := by decide +kernel
theorem dX0_log_42 : decode cX0_log 42 = .ok (.ireturn, 1) := by decide +kernel
theorem dX0_log_43 : decode cX0_log 43 = .ok (.new 37, 3) := by decide +kernel
theorem dX0_log_46 : decode cX0_log 46 = .ok (.dup, 1) := by decide +kernel
theorem dX0_log_47 : decode cX0_log 47 = .ok (.ldc 113, 2) := by decide +kernel
theorem dX0_log_49 : decode cX0_log 49 = .ok (.invokespecial 41, 3) := by decide +kernel
theorem dX0_log_52 : decode cX0_log 52 = .ok (.athrow, 1) := by decide +kernel
theorem dX0_cutAfter_0 : decode cX0_cutAfter 0 = .ok (.iload_n 1, 1) := by decide +kernel
theorem dX0_cutAfter_1 : decode cX0_cutAfter 1 = .ok (.iconst (-1), 1) := by decide +kernel
theorem dX0_cutAfter_2 : decode cX0_cutAfter 2 = .ok (.if_icmp .ge 13, 3) := by decide +kernel
theorem dX0_cutAfter_5 : decode cX0_cutAfter 5 = .ok (.new 52, 3) := by decide +kernel
theorem dX0_cutAfter_8 : decode cX0_cutAfter 8 = .ok (.dup, 1) := by decide +kernel
theorem dX0_cutAfter_9 : decode cX0_cutAfter 9 = .ok (.ldc 115, 2) := by decide +kernel
theorem dX0_cutAfter_11 : decode cX0_cutAfter 11 = .ok (.invokespecial 56, 3) := by decide +kernel
theorem dX0_cutAfter_14 : decode cX0_cutAfter 14 = .ok (.athrow, 1) := by decide +kernel
theorem dX0_cutAfter_15 : decode cX0_cutAfter 15 = .ok (.aload_n 0, 1) := by decide +kernel
theorem dX0_cutAfter_16 : decode cX0_cutAfter 16 = .ok (.iload_n 1, 1) := by decide +kernel
theorem dX0_cutAfter_17 : decode cX0_cutAfter 17 = .ok (.putfield 27, 3) := by decide +kernel
theorem dX0_cutAfter_20 : decode cX0_cutAfter 20 = .ok (.return_, 1) := by decide +kernel
theorem dX0_cut_0 : decode cX0_cut 0 = .ok (.aload_n 0, 1) := by decide +kernel
theorem dX0_cut_1 : decode cX0_cut 1 = .ok (.getfield 30, 3) := by decide +kernel
theorem dX0_cut_4 : decode cX0_cut 4 = .ok (.ifCond .ne 5, 3) := by decide +kernel
theorem dX0_cut_7 : decode cX0_cut 7 = .ok (.iconst 0, 1) := by decide +kernel
theorem dX0_cut_8 : decode cX0_cut 8 = .ok (.ireturn, 1) := by decide +kernel
theorem dX0_cut_9 : decode cX0_cut 9 = .ok (.aload_n 0, 1) := by decide +kernel
theorem dX0_cut_10 : decode cX0_cut 10 = .ok (.invokevirtual 117, 3) := by decide +kernel
theorem dX0_cut_13 : decode cX0_cut 13 = .ok (.iconst 1, 1) := by decide +kernel
theorem dX0_cut_14 : decode cX0_cut 14 = .ok (.ireturn, 1) := by decide +kernel
theorem dX0_open_0 : decode cX0_open 0 = .ok (.aload_n 0, 1) := by decide +kernel
theorem dX0_open_1 : decode cX0_open 1 = .ok (.getfield 30, 3) := by decide +kernel
theorem dX0_open_4 : decode cX0_open 4 = .ok (.ifCond .eq 13, 3) := by decide +kernel
theorem dX0_open_7 : decode cX0_open 7 = .ok (.new 80, 3) := by decide +kernel
theorem dX0_open_10 : decode cX0_open 10 = .ok (.dup, 1) := by decide +kernel
theorem dX0_open_11 : decode cX0_open 11 = .ok (.ldc 120, 2) := by decide +kernel
theorem dX0_open_13 : decode cX0_open 13 = .ok (.invokespecial 84, 3) := by decide +kernel
theorem dX0_open_16 : decode cX0_open 16 = .ok (.athrow, 1) := by decide +kernel
theorem dX0_open_17 : decode cX0_open 17 = .ok (.aload_n 0, 1) := by decide +kernel
theorem dX0_open_18 : decode cX0_open 18 = .ok (.invokevirtual 122, 3) := by decide +kernel
theorem dX0_open_21 : decode cX0_open 21 = .ok (.aload_n 0, 1) := by decide +kernel
theorem dX0_open_22 : decode cX0_open 22 = .ok (.aload_n 0, 1) := by decide +kernel
theorem dX0_open_23 : decode cX0_open 23 = .ok (.getfield 24, 3) := by decide +kernel
theorem dX0_open_26 : decode cX0_open 26 = .ok (.invokevirtual 77, 3) := by decide +kernel
theorem dX0_open_29 : decode cX0_open 29 = .ok (.istore_n 1, 1) := by decide +kernel
theorem dX0_open_30 : decode cX0_open 30 = .ok (.aload_n 0, 1) := by decide +kernel
theorem dX0_open_31 : decode cX0_open 31 = .ok (.iload_n 1, 1) := by decide +kernel
theorem dX0_open_32 : decode cX0_open 32 = .ok (.iconst (-1), 1) := by decide +kernel
theorem dX0_open_33 : decode cX0_open 33 = .ok (.if_icmp .eq 7, 3) := by decide +kernel
theorem dX0_open_36 : decode cX0_open 36 = .ok (.iconst 1, 1) := by decide +kernel
theorem dX0_open_37 : decode cX0_open 37 = .ok (.goto 4, 3) := by decide +kernel
theorem dX0_open_40 : decode cX0_open 40 = .ok (.iconst 0, 1) := by decide +kernel
theorem dX0_open_41 : decode cX0_open 41 = .ok (.putfield 30, 3) := by decide +kernel
theorem dX0_open_44 : decode cX0_open 44 = .ok (.iload_n 1, 1) := by decide +kernel
theorem dX0_open_45 : decode cX0_open 45 = .ok (.ireturn, 1) := by decide +kernel
theorem dX0_isOpen_0 : decode cX0_isOpen 0 = .ok (.aload_n 0, 1) := by decide +kernel
theorem dX0_isOpen_1 : decode cX0_isOpen 1 = .ok (.getfield 30, 3) := by decide +kernel
theorem dX0_isOpen_4 : decode cX0_isOpen 4 = .ok (.ireturn, 1) := by decide +kernel
theorem dX0_requireOpen_0 : decode cX0_requireOpen 0 = .ok (.aload_n 0, 1) := by decide +kernel
theorem dX0_requireOpen_1 : decode cX0_requireOpen 1 = .ok (.getfield 30, 3) := by decide +kernel
theorem dX0_requireOpen_4 : decode cX0_requireOpen 4 = .ok (.ifCond .ne 13, 3) := by decide +kernel
theorem dX0_requireOpen_7 : decode cX0_requireOpen 7 = .ok (.new 80, 3) := by decide +kernel
theorem dX0_requireOpen_10 : decode cX0_requireOpen 10 = .ok (.dup, 1) := by decide +kernel
theorem dX0_requireOpen_11 : decode cX0_requireOpen 11 = .ok (.ldc 125, 2) := by decide +kernel
theorem dX0_requireOpen_13 : decode cX0_requireOpen 13 = .ok (.invokespecial 84, 3) := by decide +kernel
theorem dX0_requireOpen_16 : decode cX0_requireOpen 16 = .ok (.athrow, 1) := by decide +kernel
theorem dX0_requireOpen_17 : decode cX0_requireOpen 17 = .ok (.return_, 1) := by decide +kernel
theorem dX0_requireOwner_0 : decode cX0_requireOwner 0 = .ok (.iload_n 1, 1) := by decide +kernel
theorem dX0_requireOwner_1 : decode cX0_requireOwner 1 = .ok (.ifCond .lt 9, 3) := by decide +kernel
theorem dX0_requireOwner_4 : decode cX0_requireOwner 4 = .ok (.iload_n 1, 1) := by decide +kernel
theorem dX0_requireOwner_5 : decode cX0_requireOwner 5 = .ok (.bipush 8, 2) := by decide +kernel
theorem dX0_requireOwner_7 : decode cX0_requireOwner 7 = .ok (.if_icmp .lt 13, 3) := by decide +kernel
theorem dX0_requireOwner_10 : decode cX0_requireOwner 10 = .ok (.new 52, 3) := by decide +kernel
theorem dX0_requireOwner_13 : decode cX0_requireOwner 13 = .ok (.dup, 1) := by decide +kernel
theorem dX0_requireOwner_14 : decode cX0_requireOwner 14 = .ok (.ldc 127, 2) := by decide +kernel
theorem dX0_requireOwner_16 : decode cX0_requireOwner 16 = .ok (.invokespecial 56, 3) := by decide +kernel
theorem dX0_requireOwner_19 : decode cX0_requireOwner 19 = .ok (.athrow, 1) := by decide +kernel
theorem dX0_requireOwner_20 : decode cX0_requireOwner 20 = .ok (.return_, 1) := by decide +kernel
theorem dX0_requireRecord_0 : decode cX0_requireRecord 0 = .ok (.aload_n 0, 1) := by decide +kernel
theorem dX0_requireRecord_1 : decode cX0_requireRecord 1 = .ok (.iload_n 1, 1) := by decide +kernel
theorem dX0_requireRecord_2 : decode cX0_requireRecord 2 = .ok (.invokevirtual 129, 3) := by decide +kernel
theorem dX0_requireRecord_5 : decode cX0_requireRecord 5 = .ok (.ifCond .ne 13, 3) := by decide +kernel
theorem dX0_requireRecord_8 : decode cX0_requireRecord 8 = .ok (.new 133, 3) := by decide +kernel
theorem dX0_requireRecord_11 : decode cX0_requireRecord 11 = .ok (.dup, 1) := by decide +kernel
theorem dX0_requireRecord_12 : decode cX0_requireRecord 12 = .ok (.ldc 135, 2) := by decide +kernel
theorem dX0_requireRecord_14 : decode cX0_requireRecord 14 = .ok (.invokespecial 137, 3) := by decide +kernel
theorem dX0_requireRecord_17 : decode cX0_requireRecord 17 = .ok (.athrow, 1) := by decide +kernel
theorem dX0_requireRecord_18 : decode cX0_requireRecord 18 = .ok (.return_, 1) := by decide +kernel
theorem dX0_fillBuffer_0 : decode cX0_fillBuffer 0 = .ok (.iconst 0, 1) := by decide +kernel
theorem dX0_fillBuffer_1 : decode cX0_fillBuffer 1 = .ok (.istore_n 3, 1) := by decide +kernel
theorem dX0_fillBuffer_2 : decode cX0_fillBuffer 2 = .ok (.iload_n 3, 1) := by decide +kernel
theorem dX0_fillBuffer_3 : decode cX0_fillBuffer 3 = .ok (.aload_n 0, 1) := by decide +kernel
theorem dX0_fillBuffer_4 : decode cX0_fillBuffer 4 = .ok (.getfield 14, 3) := by decide +kernel
theorem dX0_fillBuffer_7 : decode cX0_fillBuffer 7 = .ok (.arraylength, 1) := by decide +kernel
theorem dX0_fillBuffer_8 : decode cX0_fillBuffer 8 = .ok (.if_icmp .ge 20, 3) := by decide +kernel
theorem dX0_fillBuffer_11 : decode cX0_fillBuffer 11 = .ok (.aload_n 0, 1) := by decide +kernel
theorem dX0_fillBuffer_12 : decode cX0_fillBuffer 12 = .ok (.getfield 14, 3) := by decide +kernel
theorem dX0_fillBuffer_15 : decode cX0_fillBuffer 15 = .ok (.iload_n 3, 1) := by decide +kernel
theorem dX0_fillBuffer_16 : decode cX0_fillBuffer 16 = .ok (.iload_n 1, 1) := by decide +kernel
theorem dX0_fillBuffer_17 : decode cX0_fillBuffer 17 = .ok (.iload_n 3, 1) := by decide +kernel
theorem dX0_fillBuffer_18 : decode cX0_fillBuffer 18 = .ok (.iload_n 2, 1) := by decide +kernel
theorem dX0_fillBuffer_19 : decode cX0_fillBuffer 19 = .ok (.imul, 1) := by decide +kernel
theorem dX0_fillBuffer_20 : decode cX0_fillBuffer 20 = .ok (.iadd, 1) := by decide +kernel
theorem dX0_fillBuffer_21 : decode cX0_fillBuffer 21 = .ok (.iastore, 1) := by decide +kernel
theorem dX0_fillBuffer_22 : decode cX0_fillBuffer 22 = .ok (.iinc 3 1, 3) := by decide +kernel
theorem dX0_fillBuffer_25 : decode cX0_fillBuffer 25 = .ok (.goto (-23), 3) := by decide +kernel
theorem dX0_fillBuffer_28 : decode cX0_fillBuffer 28 = .ok (.return_, 1) := by decide +kernel
theorem dX0_wordAt_0 : decode cX0_wordAt 0 = .ok (.aload_n 0, 1) := by decide +kernel
theorem dX0_wordAt_1 : decode cX0_wordAt 1 = .ok (.getfield 10, 3) := by decide +kernel
theorem dX0_wordAt_4 : decode cX0_wordAt 4 = .ok (.iload_n 1, 1) := by decide +kernel
theorem dX0_wordAt_5 : decode cX0_wordAt 5 = .ok (.ldc 138, 2) := by decide +kernel
theorem dX0_wordAt_7 : decode cX0_wordAt 7 = .ok (.iand, 1) := by decide +kernel
theorem dX0_wordAt_8 : decode cX0_wordAt 8 = .ok (.iaload, 1) := by decide +kernel
theorem dX0_wordAt_9 : decode cX0_wordAt 9 = .ok (.ireturn, 1) := by decide +kernel
theorem dX0_addWord_0 : decode cX0_addWord 0 = .ok (.aload_n 0, 1) := by decide +kernel
theorem dX0_addWord_1 : decode cX0_addWord 1 = .ok (.getfield 10, 3) := by decide +kernel
theorem dX0_addWord_4 : decode cX0_addWord 4 = .ok (.aload_n 0, 1) := by decide +kernel
theorem dX0_addWord_5 : decode cX0_addWord 5 = .ok (.getfield 24, 3) := by decide +kernel
theorem dX0_addWord_8 : decode cX0_addWord 8 = .ok (.ldc 138, 2) := by decide +kernel
theorem dX0_addWord_10 : decode cX0_addWord 10 = .ok (.iand, 1) := by decide +kernel
theorem dX0_addWord_11 : decode cX0_addWord 11 = .ok (.iload_n 1, 1) := by decide +kernel
theorem dX0_addWord_12 : decode cX0_addWord 12 = .ok (.iastore, 1) := by decide +kernel
theorem dX0_addWord_13 : decode cX0_addWord 13 = .ok (.aload_n 0, 1) := by decide +kernel
theorem dX0_addWord_14 : decode cX0_addWord 14 = .ok (.dup, 1) := by decide +kernel
theorem dX0_addWord_15 : decode cX0_addWord 15 = .ok (.getfield 24, 3) := by decide +kernel
theorem dX0_addWord_18 : decode cX0_addWord 18 = .ok (.iconst 1, 1) := by decide +kernel
theorem dX0_addWord_19 : decode cX0_addWord 19 = .ok (.iadd, 1) := by decide +kernel
theorem dX0_addWord_20 : decode cX0_addWord 20 = .ok (.putfield 24, 3) := by decide +kernel
theorem dX0_addWord_23 : decode cX0_addWord 23 = .ok (.return_, 1) := by decide +kernel
theorem dX0_addContent_0 : decode cX0_addContent 0 = .ok (.iconst 0, 1) := by decide +kernel
theorem dX0_addContent_1 : decode cX0_addContent 1 = .ok (.istore_n 2, 1) := by decide +kernel
theorem dX0_addContent_2 : decode cX0_addContent 2 = .ok (.iload_n 2, 1) := by decide +kernel
theorem dX0_addContent_3 : decode cX0_addContent 3 = .ok (.iload_n 1, 1) := by decide +kernel
theorem dX0_addContent_4 : decode cX0_addContent 4 = .ok (.if_icmp .ge 28, 3) := by decide +kernel
theorem dX0_addContent_7 : decode cX0_addContent 7 = .ok (.iload_n 2, 1) := by decide +kernel
theorem dX0_addContent_8 : decode cX0_addContent 8 = .ok (.aload_n 0, 1) := by decide +kernel
theorem dX0_addContent_9 : decode cX0_addContent 9 = .ok (.getfield 14, 3) := by decide +kernel
theorem dX0_addContent_12 : decode cX0_addContent 12 = .ok (.arraylength, 1) := by decide +kernel
theorem dX0_addContent_13 : decode cX0_addContent 13 = .ok (.if_icmp .ge 19, 3) := by decide +kernel
theorem dX0_addContent_16 : decode cX0_addContent 16 = .ok (.aload_n 0, 1) := by decide +kernel
theorem dX0_addContent_17 : decode cX0_addContent 17 = .ok (.aload_n 0, 1) := by decide +kernel
theorem dX0_addContent_18 : decode cX0_addContent 18 = .ok (.getfield 14, 3) := by decide +kernel
theorem dX0_addContent_21 : decode cX0_addContent 21 = .ok (.iload_n 2, 1) := by decide +kernel
theorem dX0_addContent_22 : decode cX0_addContent 22 = .ok (.iaload, 1) := by decide +kernel
theorem dX0_addContent_23 : decode cX0_addContent 23 = .ok (.invokevirtual 65, 3) := by decide +kernel
theorem dX0_addContent_26 : decode cX0_addContent 26 = .ok (.iinc 2 1, 3) := by decide +kernel
theorem dX0_addContent_29 : decode cX0_addContent 29 = .ok (.goto (-27), 3) := by decide +kernel
theorem dX0_addContent_32 : decode cX0_addContent 32 = .ok (.return_, 1) := by decide +kernel
theorem dX0_kindAt_0 : decode cX0_kindAt 0 = .ok (.aload_n 0, 1) := by decide +kernel
theorem dX0_kindAt_1 : decode cX0_kindAt 1 = .ok (.iload_n 1, 1) := by decide +kernel
theorem dX0_kindAt_2 : decode cX0_kindAt 2 = .ok (.iconst 1, 1) := by decide +kernel
theorem dX0_kindAt_3 : decode cX0_kindAt 3 = .ok (.iadd, 1) := by decide +kernel
theorem dX0_kindAt_4 : decode cX0_kindAt 4 = .ok (.invokevirtual 97, 3) := by decide +kernel
theorem dX0_kindAt_7 : decode cX0_kindAt 7 = .ok (.bipush 16, 2) := by decide +kernel
theorem dX0_kindAt_9 : decode cX0_kindAt 9 = .ok (.irem, 1) := by decide +kernel
theorem dX0_kindAt_10 : decode cX0_kindAt 10 = .ok (.ireturn, 1) := by decide +kernel
theorem dX0_ownerAt_0 : decode cX0_ownerAt 0 = .ok (.aload_n 0, 1) := by decide +kernel
theorem dX0_ownerAt_1 : decode cX0_ownerAt 1 = .ok (.iload_n 1, 1) := by decide +kernel
theorem dX0_ownerAt_2 : decode cX0_ownerAt 2 = .ok (.iconst 1, 1) := by decide +kernel
theorem dX0_ownerAt_3 : decode cX0_ownerAt 3 = .ok (.iadd, 1) := by decide +kernel
theorem dX0_ownerAt_4 : decode cX0_ownerAt 4 = .ok (.invokevirtual 97, 3) := by decide +kernel
theorem dX0_ownerAt_7 : decode cX0_ownerAt 7 = .ok (.bipush 16, 2) := by decide +kernel
theorem dX0_ownerAt_9 : decode cX0_ownerAt 9 = .ok (.idiv, 1) := by decide +kernel
theorem dX0_ownerAt_10 : decode cX0_ownerAt 10 = .ok (.ireturn, 1) := by decide +kernel
theorem dX0_contentWords_0 : decode cX0_contentWords 0 = .ok (.aload_n 0, 1) := by decide +kernel
theorem dX0_contentWords_1 : decode cX0_contentWords 1 = .ok (.iload_n 1, 1) := by decide +kernel
theorem dX0_contentWords_2 : decode cX0_contentWords 2 = .ok (.invokevirtual 97, 3) := by decide +kernel
theorem dX0_contentWords_5 : decode cX0_contentWords 5 = .ok (.iconst 5, 1) := by decide +kernel
theorem dX0_contentWords_6 : decode cX0_contentWords 6 = .ok (.isub, 1) := by decide +kernel
theorem dX0_contentWords_7 : decode cX0_contentWords 7 = .ok (.ireturn, 1) := by decide +kernel
theorem dX0_behind_0 : decode cX0_behind 0 = .ok (.iload_n 1, 1) := by decide +kernel
theorem dX0_behind_1 : decode cX0_behind 1 = .ok (.aload_n 0, 1) := by decide +kernel
theorem dX0_behind_2 : decode cX0_behind 2 = .ok (.iload_n 1, 1) := by decide +kernel
theorem dX0_behind_3 : decode cX0_behind 3 = .ok (.invokevirtual 97, 3) := by decide +kernel
theorem dX0_behind_6 : decode cX0_behind 6 = .ok (.iadd, 1) := by decide +kernel
theorem dX0_behind_7 : decode cX0_behind 7 = .ok (.ireturn, 1) := by decide +kernel
theorem dX0_isVoid_0 : decode cX0_isVoid 0 = .ok (.aload_n 0, 1) := by decide +kernel
theorem dX0_isVoid_1 : decode cX0_isVoid 1 = .ok (.aload_n 0, 1) := by decide +kernel
theorem dX0_isVoid_2 : decode cX0_isVoid 2 = .ok (.iload_n 1, 1) := by decide +kernel
theorem dX0_isVoid_3 : decode cX0_isVoid 3 = .ok (.invokevirtual 74, 3) := by decide +kernel
theorem dX0_isVoid_6 : decode cX0_isVoid 6 = .ok (.iconst 1, 1) := by decide +kernel
theorem dX0_isVoid_7 : decode cX0_isVoid 7 = .ok (.isub, 1) := by decide +kernel
theorem dX0_isVoid_8 : decode cX0_isVoid 8 = .ok (.invokevirtual 97, 3) := by decide +kernel
theorem dX0_isVoid_11 : decode cX0_isVoid 11 = .ok (.ifCond .ge 7, 3) := by decide +kernel
theorem dX0_isVoid_14 : decode cX0_isVoid 14 = .ok (.iconst 1, 1) := by decide +kernel
theorem dX0_isVoid_15 : decode cX0_isVoid 15 = .ok (.goto 4, 3) := by decide +kernel
theorem dX0_isVoid_18 : decode cX0_isVoid 18 = .ok (.iconst 0, 1) := by decide +kernel
theorem dX0_isVoid_19 : decode cX0_isVoid 19 = .ok (.ireturn, 1) := by decide +kernel
theorem dX0_isRecord_0 : decode cX0_isRecord 0 = .ok (.aload_n 0, 1) := by decide +kernel
theorem dX0_isRecord_1 : decode cX0_isRecord 1 = .ok (.getfield 17, 3) := by decide +kernel
theorem dX0_isRecord_4 : decode cX0_isRecord 4 = .ok (.istore_n 2, 1) := by decide +kernel
theorem dX0_isRecord_5 : decode cX0_isRecord 5 = .ok (.iconst 0, 1) := by decide +kernel
theorem dX0_isRecord_6 : decode cX0_isRecord 6 = .ok (.istore_n 3, 1) := by decide +kernel
theorem dX0_isRecord_7 : decode cX0_isRecord 7 = .ok (.iload_n 3, 1) := by decide +kernel
theorem dX0_isRecord_8 : decode cX0_isRecord 8 = .ok (.sipush 13107, 3) := by decide +kernel
theorem dX0_isRecord_11 : decode cX0_isRecord 11 = .ok (.if_icmp .ge 28, 3) := by decide +kernel
theorem dX0_isRecord_14 : decode cX0_isRecord 14 = .ok (.iload_n 2, 1) := by decide +kernel
theorem dX0_isRecord_15 : decode cX0_isRecord 15 = .ok (.iload_n 1, 1) := by decide +kernel
theorem dX0_isRecord_16 : decode cX0_isRecord 16 = .ok (.if_icmp .ge 23, 3) := by decide +kernel
theorem dX0_isRecord_19 : decode cX0_isRecord 19 = .ok (.iload_n 2, 1) := by decide +kernel
theorem dX0_isRecord_20 : decode cX0_isRecord 20 = .ok (.aload_n 0, 1) := by decide +kernel
theorem dX0_isRecord_21 : decode cX0_isRecord 21 = .ok (.getfield 24, 3) := by decide +kernel
theorem dX0_isRecord_24 : decode cX0_isRecord 24 = .ok (.if_icmp .ge 15, 3) := by decide +kernel
theorem dX0_isRecord_27 : decode cX0_isRecord 27 = .ok (.aload_n 0, 1) := by decide +kernel
theorem dX0_isRecord_28 : decode cX0_isRecord 28 = .ok (.iload_n 2, 1) := by decide +kernel
theorem dX0_isRecord_29 : decode cX0_isRecord 29 = .ok (.invokevirtual 74, 3) := by decide +kernel
theorem dX0_isRecord_32 : decode cX0_isRecord 32 = .ok (.istore_n 2, 1) := by decide +kernel
theorem dX0_isRecord_33 : decode cX0_isRecord 33 = .ok (.iinc 3 1, 3) := by decide +kernel
theorem dX0_isRecord_36 : decode cX0_isRecord 36 = .ok (.goto (-29), 3) := by decide +kernel
theorem dX0_isRecord_39 : decode cX0_isRecord 39 = .ok (.iload_n 2, 1) := by decide +kernel
theorem dX0_isRecord_40 : decode cX0_isRecord 40 = .ok (.iload_n 1, 1) := by decide +kernel
theorem dX0_isRecord_41 : decode cX0_isRecord 41 = .ok (.if_icmp .ne 23, 3) := by decide +kernel
theorem dX0_isRecord_44 : decode cX0_isRecord 44 = .ok (.iload_n 2, 1) := by decide +kernel
theorem dX0_isRecord_45 : decode cX0_isRecord 45 = .ok (.aload_n 0, 1) := by decide +kernel
theorem dX0_isRecord_46 : decode cX0_isRecord 46 = .ok (.getfield 24, 3) := by decide +kernel
theorem dX0_isRecord_49 : decode cX0_isRecord 49 = .ok (.if_icmp .ge 15, 3) := by decide +kernel
theorem dX0_isRecord_52 : decode cX0_isRecord 52 = .ok (.aload_n 0, 1) := by decide +kernel
theorem dX0_isRecord_53 : decode cX0_isRecord 53 = .ok (.iload_n 2, 1) := by decide +kernel
theorem dX0_isRecord_54 : decode cX0_isRecord 54 = .ok (.invokevirtual 139, 3) := by decide +kernel
theorem dX0_isRecord_57 : decode cX0_isRecord 57 = .ok (.ifCond .ne 7, 3) := by decide +kernel
theorem dX0_isRecord_60 : decode cX0_isRecord 60 = .ok (.iconst 1, 1) := by decide +kernel
theorem dX0_isRecord_61 : decode cX0_isRecord 61 = .ok (.goto 4, 3) := by decide +kernel
theorem dX0_isRecord_64 : decode cX0_isRecord 64 = .ok (.iconst 0, 1) := by decide +kernel
theorem dX0_isRecord_65 : decode cX0_isRecord 65 = .ok (.ireturn, 1) := by decide +kernel
theorem dX0_firstRecordFrom_0 : decode cX0_firstRecordFrom 0 = .ok (.iload_n 1, 1) := by decide +kernel
theorem dX0_firstRecordFrom_1 : decode cX0_firstRecordFrom 1 = .ok (.istore_n 2, 1) := by decide +kernel
theorem dX0_firstRecordFrom_2 : decode cX0_firstRecordFrom 2 = .ok (.iconst 0, 1) := by decide +kernel
theorem dX0_firstRecordFrom_3 : decode cX0_firstRecordFrom 3 = .ok (.istore_n 3, 1) := by decide +kernel
theorem dX0_firstRecordFrom_4 : decode cX0_firstRecordFrom 4 = .ok (.iload_n 3, 1) := by decide +kernel
theorem dX0_firstRecordFrom_5 : decode cX0_firstRecordFrom 5 = .ok (.sipush 13107, 3) := by decide +kernel
theorem dX0_firstRecordFrom_8 : decode cX0_firstRecordFrom 8 = .ok (.if_icmp .ge 33, 3) := by decide +kernel
theorem dX0_firstRecordFrom_11 : decode cX0_firstRecordFrom 11 = .ok (.iload_n 2, 1) := by decide +kernel
theorem dX0_firstRecordFrom_12 : decode cX0_firstRecordFrom 12 = .ok (.aload_n 0, 1) := by decide +kernel
theorem dX0_firstRecordFrom_13 : decode cX0_firstRecordFrom 13 = .ok (.getfield 24, 3) := by decide +kernel
theorem dX0_firstRecordFrom_16 : decode cX0_firstRecordFrom 16 = .ok (.if_icmp .ge 25, 3) := by decide +kernel
theorem dX0_firstRecordFrom_19 : decode cX0_firstRecordFrom 19 = .ok (.aload_n 0, 1) := by decide +kernel
theorem dX0_firstRecordFrom_20 : decode cX0_firstRecordFrom 20 = .ok (.iload_n 2, 1) := by decide +kernel
theorem dX0_firstRecordFrom_21 : decode cX0_firstRecordFrom 21 = .ok (.invokevirtual 139, 3) := by decide +kernel
theorem dX0_firstRecordFrom_24 : decode cX0_firstRecordFrom 24 = .ok (.ifCond .ne 5, 3) := by decide +kernel
theorem dX0_firstRecordFrom_27 : decode cX0_firstRecordFrom 27 = .ok (.iload_n 2, 1) := by decide +kernel
theorem dX0_firstRecordFrom_28 : decode cX0_firstRecordFrom 28 = .ok (.ireturn, 1) := by decide +kernel
theorem dX0_firstRecordFrom_29 : decode cX0_firstRecordFrom 29 = .ok (.aload_n 0, 1) := by decide +kernel
theorem dX0_firstRecordFrom_30 : decode cX0_firstRecordFrom 30 = .ok (.iload_n 2, 1) := by decide +kernel
theorem dX0_firstRecordFrom_31 : decode cX0_firstRecordFrom 31 = .ok (.invokevirtual 74, 3) := by decide +kernel
theorem dX0_firstRecordFrom_34 : decode cX0_firstRecordFrom 34 = .ok (.istore_n 2, 1) := by decide +kernel
theorem dX0_firstRecordFrom_35 : decode cX0_firstRecordFrom 35 = .ok (.iinc 3 1, 3) := by decide +kernel
theorem dX0_firstRecordFrom_38 : decode cX0_firstRecordFrom 38 = .ok (.goto (-34), 3) := by decide +kernel
theorem dX0_firstRecordFrom_41 : decode cX0_firstRecordFrom 41 = .ok (.iconst (-1), 1) := by decide +kernel
theorem dX0_firstRecordFrom_42 : decode cX0_firstRecordFrom 42 = .ok (.ireturn, 1) := by decide +kernel
theorem dX0_lastRecordBefore_0 : decode cX0_lastRecordBefore 0 = .ok (.iload_n 1, 1) := by decide +kernel
theorem dX0_lastRecordBefore_1 : decode cX0_lastRecordBefore 1 = .ok (.istore_n 2, 1) := by decide +kernel
theorem dX0_lastRecordBefore_2 : decode cX0_lastRecordBefore 2 = .ok (.iconst 0, 1) := by decide +kernel
theorem dX0_lastRecordBefore_3 : decode cX0_lastRecordBefore 3 = .ok (.istore_n 3, 1) := by decide +kernel
theorem dX0_lastRecordBefore_4 : decode cX0_lastRecordBefore 4 = .ok (.iload_n 3, 1) := by decide +kernel
theorem dX0_lastRecordBefore_5 : decode cX0_lastRecordBefore 5 = .ok (.sipush 13107, 3) := by decide +kernel
theorem dX0_lastRecordBefore_8 : decode cX0_lastRecordBefore 8 = .ok (.if_icmp .ge 41, 3) := by decide +kernel
theorem dX0_lastRecordBefore_11 : decode cX0_lastRecordBefore 11 = .ok (.iload_n 2, 1) := by decide +kernel
theorem dX0_lastRecordBefore_12 : decode cX0_lastRecordBefore 12 = .ok (.aload_n 0, 1) := by decide +kernel
theorem dX0_lastRecordBefore_13 : decode cX0_lastRecordBefore 13 = .ok (.getfield 17, 3) := by decide +kernel
theorem dX0_lastRecordBefore_16 : decode cX0_lastRecordBefore 16 = .ok (.if_icmp .le 33, 3) := by decide +kernel
theorem dX0_lastRecordBefore_19 : decode cX0_lastRecordBefore 19 = .ok (.aload_n 0, 1) := by decide +kernel
theorem dX0_lastRecordBefore_20 : decode cX0_lastRecordBefore 20 = .ok (.iload_n 2, 1) := by decide +kernel
theorem dX0_lastRecordBefore_21 : decode cX0_lastRecordBefore 21 = .ok (.iconst 1, 1) := by decide +kernel
theorem dX0_lastRecordBefore_22 : decode cX0_lastRecordBefore 22 = .ok (.isub, 1) := by decide +kernel
theorem dX0_lastRecordBefore_23 : decode cX0_lastRecordBefore 23 = .ok (.invokevirtual 97, 3) := by decide +kernel
theorem dX0_lastRecordBefore_26 : decode cX0_lastRecordBefore 26 = .ok (.istore 4, 2) := by decide +kernel
theorem dX0_lastRecordBefore_28 : decode cX0_lastRecordBefore 28 = .ok (.iload_n 2, 1) := by decide +kernel
theorem dX0_lastRecordBefore_29 : decode cX0_lastRecordBefore 29 = .ok (.iload 4, 2) := by decide +kernel
theorem dX0_lastRecordBefore_31 : decode cX0_lastRecordBefore 31 = .ok (.invokestatic 142, 3) := by decide +kernel
theorem dX0_lastRecordBefore_34 : decode cX0_lastRecordBefore 34 = .ok (.isub, 1) := by decide +kernel
theorem dX0_lastRecordBefore_35 : decode cX0_lastRecordBefore 35 = .ok (.istore_n 2, 1) := by decide +kernel
theorem dX0_lastRecordBefore_36 : decode cX0_lastRecordBefore 36 = .ok (.iload 4, 2) := by decide +kernel
theorem dX0_lastRecordBefore_38 : decode cX0_lastRecordBefore 38 = .ok (.ifCond .le 5, 3) := by decide +kernel
theorem dX0_lastRecordBefore_41 : decode cX0_lastRecordBefore 41 = .ok (.iload_n 2, 1) := by decide +kernel
theorem dX0_lastRecordBefore_42 : decode cX0_lastRecordBefore 42 = .ok (.ireturn, 1) := by decide +kernel
theorem dX0_lastRecordBefore_43 : decode cX0_lastRecordBefore 43 = .ok (.iinc 3 1, 3) := by decide +kernel
theorem dX0_lastRecordBefore_46 : decode cX0_lastRecordBefore 46 = .ok (.goto (-42), 3) := by decide +kernel
theorem dX0_lastRecordBefore_49 : decode cX0_lastRecordBefore 49 = .ok (.iconst (-1), 1) := by decide +kernel
theorem dX0_lastRecordBefore_50 : decode cX0_lastRecordBefore 50 = .ok (.ireturn, 1) := by decide +kernel
theorem dX0_lastRecordOf_0 : decode cX0_lastRecordOf 0 = .ok (.aload_n 0, 1) := by decide +kernel
theorem dX0_lastRecordOf_1 : decode cX0_lastRecordOf 1 = .ok (.aload_n 0, 1) := by decide +kernel
theorem dX0_lastRecordOf_2 : decode cX0_lastRecordOf 2 = .ok (.getfield 24, 3) := by decide +kernel
theorem dX0_lastRecordOf_5 : decode cX0_lastRecordOf 5 = .ok (.invokevirtual 88, 3) := by decide +kernel
theorem dX0_lastRecordOf_8 : decode cX0_lastRecordOf 8 = .ok (.istore_n 2, 1) := by decide +kernel
theorem dX0_lastRecordOf_9 : decode cX0_lastRecordOf 9 = .ok (.iconst 0, 1) := by decide +kernel
theorem dX0_lastRecordOf_10 : decode cX0_lastRecordOf 10 = .ok (.istore_n 3, 1) := by decide +kernel
theorem dX0_lastRecordOf_11 : decode cX0_lastRecordOf 11 = .ok (.iload_n 3, 1) := by decide +kernel
theorem dX0_lastRecordOf_12 : decode cX0_lastRecordOf 12 = .ok (.sipush 13107, 3) := by decide +kernel
theorem dX0_lastRecordOf_15 : decode cX0_lastRecordOf 15 = .ok (.if_icmp .ge 31, 3) := by decide +kernel
theorem dX0_lastRecordOf_18 : decode cX0_lastRecordOf 18 = .ok (.iload_n 2, 1) := by decide +kernel
theorem dX0_lastRecordOf_19 : decode cX0_lastRecordOf 19 = .ok (.iconst (-1), 1) := by decide +kernel
theorem dX0_lastRecordOf_20 : decode cX0_lastRecordOf 20 = .ok (.if_icmp .eq 26, 3) := by decide +kernel
theorem dX0_lastRecordOf_23 : decode cX0_lastRecordOf 23 = .ok (.aload_n 0, 1) := by decide +kernel
theorem dX0_lastRecordOf_24 : decode cX0_lastRecordOf 24 = .ok (.iload_n 2, 1) := by decide +kernel
theorem dX0_lastRecordOf_25 : decode cX0_lastRecordOf 25 = .ok (.invokevirtual 94, 3) := by decide +kernel
theorem dX0_lastRecordOf_28 : decode cX0_lastRecordOf 28 = .ok (.iload_n 1, 1) := by decide +kernel
theorem dX0_lastRecordOf_29 : decode cX0_lastRecordOf 29 = .ok (.if_icmp .ne 5, 3) := by decide +kernel
theorem dX0_lastRecordOf_32 : decode cX0_lastRecordOf 32 = .ok (.iload_n 2, 1) := by decide +kernel
theorem dX0_lastRecordOf_33 : decode cX0_lastRecordOf 33 = .ok (.ireturn, 1) := by decide +kernel
theorem dX0_lastRecordOf_34 : decode cX0_lastRecordOf 34 = .ok (.aload_n 0, 1) := by decide +kernel
theorem dX0_lastRecordOf_35 : decode cX0_lastRecordOf 35 = .ok (.iload_n 2, 1) := by decide +kernel
theorem dX0_lastRecordOf_36 : decode cX0_lastRecordOf 36 = .ok (.invokevirtual 88, 3) := by decide +kernel
theorem dX0_lastRecordOf_39 : decode cX0_lastRecordOf 39 = .ok (.istore_n 2, 1) := by decide +kernel
theorem dX0_lastRecordOf_40 : decode cX0_lastRecordOf 40 = .ok (.iinc 3 1, 3) := by decide +kernel
theorem dX0_lastRecordOf_43 : decode cX0_lastRecordOf 43 = .ok (.goto (-32), 3) := by decide +kernel
theorem dX0_lastRecordOf_46 : decode cX0_lastRecordOf 46 = .ok (.iconst (-1), 1) := by decide +kernel
theorem dX0_lastRecordOf_47 : decode cX0_lastRecordOf 47 = .ok (.ireturn, 1) := by decide +kernel
theorem dX0_kthOnTheWay_0 : decode cX0_kthOnTheWay 0 = .ok (.aload_n 0, 1) := by decide +kernel
theorem dX0_kthOnTheWay_1 : decode cX0_kthOnTheWay 1 = .ok (.iload_n 1, 1) := by decide +kernel
theorem dX0_kthOnTheWay_2 : decode cX0_kthOnTheWay 2 = .ok (.invokevirtual 61, 3) := by decide +kernel
theorem dX0_kthOnTheWay_5 : decode cX0_kthOnTheWay 5 = .ok (.istore 4, 2) := by decide +kernel
theorem dX0_kthOnTheWay_7 : decode cX0_kthOnTheWay 7 = .ok (.iload 4, 2) := by decide +kernel
theorem dX0_kthOnTheWay_9 : decode cX0_kthOnTheWay 9 = .ok (.istore 5, 2) := by decide +kernel
theorem dX0_kthOnTheWay_11 : decode cX0_kthOnTheWay 11 = .ok (.iload_n 3, 1) := by decide +kernel
theorem dX0_kthOnTheWay_12 : decode cX0_kthOnTheWay 12 = .ok (.istore 6, 2) := by decide +kernel
theorem dX0_kthOnTheWay_14 : decode cX0_kthOnTheWay 14 = .ok (.iconst 0, 1) := by decide +kernel
theorem dX0_kthOnTheWay_15 : decode cX0_kthOnTheWay 15 = .ok (.istore 7, 2) := by decide +kernel
theorem dX0_kthOnTheWay_17 : decode cX0_kthOnTheWay 17 = .ok (.iload 7, 2) := by decide +kernel
theorem dX0_kthOnTheWay_19 : decode cX0_kthOnTheWay 19 = .ok (.sipush 13107, 3) := by decide +kernel
theorem dX0_kthOnTheWay_22 : decode cX0_kthOnTheWay 22 = .ok (.if_icmp .ge 77, 3) := by decide +kernel
theorem dX0_kthOnTheWay_25 : decode cX0_kthOnTheWay 25 = .ok (.iload 5, 2) := by decide +kernel
theorem dX0_kthOnTheWay_27 : decode cX0_kthOnTheWay 27 = .ok (.iconst (-1), 1) := by decide +kernel
theorem dX0_kthOnTheWay_28 : decode cX0_kthOnTheWay 28 = .ok (.if_icmp .eq 71, 3) := by decide +kernel
theorem dX0_kthOnTheWay_31 : decode cX0_kthOnTheWay 31 = .ok (.iload 5, 2) := by decide +kernel
theorem dX0_kthOnTheWay_33 : decode cX0_kthOnTheWay 33 = .ok (.iload 4, 2) := by decide +kernel
theorem dX0_kthOnTheWay_35 : decode cX0_kthOnTheWay 35 = .ok (.if_icmp .lt 64, 3) := by decide +kernel
theorem dX0_kthOnTheWay_38 : decode cX0_kthOnTheWay 38 = .ok (.iload 5, 2) := by decide +kernel
theorem dX0_kthOnTheWay_40 : decode cX0_kthOnTheWay 40 = .ok (.iload 4, 2) := by decide +kernel
theorem dX0_kthOnTheWay_42 : decode cX0_kthOnTheWay 42 = .ok (.if_icmp .ne 33, 3) := by decide +kernel
theorem dX0_kthOnTheWay_45 : decode cX0_kthOnTheWay 45 = .ok (.aload_n 0, 1) := by decide +kernel
theorem dX0_kthOnTheWay_46 : decode cX0_kthOnTheWay 46 = .ok (.iload 5, 2) := by decide +kernel
theorem dX0_kthOnTheWay_48 : decode cX0_kthOnTheWay 48 = .ok (.iload_n 1, 1) := by decide +kernel
theorem dX0_kthOnTheWay_49 : decode cX0_kthOnTheWay 49 = .ok (.iload_n 2, 1) := by decide +kernel
theorem dX0_kthOnTheWay_50 : decode cX0_kthOnTheWay 50 = .ok (.invokevirtual 147, 3) := by decide +kernel
theorem dX0_kthOnTheWay_53 : decode cX0_kthOnTheWay 53 = .ok (.ifCond .eq 14, 3) := by decide +kernel
theorem dX0_kthOnTheWay_56 : decode cX0_kthOnTheWay 56 = .ok (.iload 6, 2) := by decide +kernel
theorem dX0_kthOnTheWay_58 : decode cX0_kthOnTheWay 58 = .ok (.ifCond .ne 6, 3) := by decide +kernel
theorem dX0_kthOnTheWay_61 : decode cX0_kthOnTheWay 61 = .ok (.iload 5, 2) := by decide +kernel
theorem dX0_kthOnTheWay_63 : decode cX0_kthOnTheWay 63 = .ok (.ireturn, 1) := by decide +kernel
theorem dX0_kthOnTheWay_64 : decode cX0_kthOnTheWay 64 = .ok (.iinc 6 (-1), 3) := by decide +kernel
theorem dX0_kthOnTheWay_67 : decode cX0_kthOnTheWay 67 = .ok (.aload_n 0, 1) := by decide +kernel
theorem dX0_kthOnTheWay_68 : decode cX0_kthOnTheWay 68 = .ok (.iload 5, 2) := by decide +kernel
theorem dX0_kthOnTheWay_70 : decode cX0_kthOnTheWay 70 = .ok (.invokevirtual 151, 3) := by decide +kernel
theorem dX0_kthOnTheWay_73 : decode cX0_kthOnTheWay 73 = .ok (.istore 4, 2) := by decide +kernel
theorem dX0_kthOnTheWay_75 : decode cX0_kthOnTheWay 75 = .ok (.iload 4, 2) := by decide +kernel
theorem dX0_kthOnTheWay_77 : decode cX0_kthOnTheWay 77 = .ok (.iconst (-1), 1) := by decide +kernel
theorem dX0_kthOnTheWay_78 : decode cX0_kthOnTheWay 78 = .ok (.if_icmp .ne 7, 3) := by decide +kernel
theorem dX0_kthOnTheWay_81 : decode cX0_kthOnTheWay 81 = .ok (.iconst (-1), 1) := by decide +kernel
theorem dX0_kthOnTheWay_82 : decode cX0_kthOnTheWay 82 = .ok (.goto 9, 3) := by decide +kernel
theorem dX0_kthOnTheWay_85 : decode cX0_kthOnTheWay 85 = .ok (.aload_n 0, 1) := by decide +kernel
theorem dX0_kthOnTheWay_86 : decode cX0_kthOnTheWay 86 = .ok (.iload 5, 2) := by decide +kernel
theorem dX0_kthOnTheWay_88 : decode cX0_kthOnTheWay 88 = .ok (.invokevirtual 88, 3) := by decide +kernel
theorem dX0_kthOnTheWay_91 : decode cX0_kthOnTheWay 91 = .ok (.istore 5, 2) := by decide +kernel
theorem dX0_kthOnTheWay_93 : decode cX0_kthOnTheWay 93 = .ok (.iinc 7 1, 3) := by decide +kernel
theorem dX0_kthOnTheWay_96 : decode cX0_kthOnTheWay 96 = .ok (.goto (-79), 3) := by decide +kernel
theorem dX0_kthOnTheWay_99 : decode cX0_kthOnTheWay 99 = .ok (.iconst (-1), 1) := by decide +kernel
theorem dX0_kthOnTheWay_100 : decode cX0_kthOnTheWay 100 = .ok (.ireturn, 1) := by decide +kernel
theorem dX0_isAskedFor_0 : decode cX0_isAskedFor 0 = .ok (.aload_n 0, 1) := by decide +kernel
theorem dX0_isAskedFor_1 : decode cX0_isAskedFor 1 = .ok (.iload_n 1, 1) := by decide +kernel
theorem dX0_isAskedFor_2 : decode cX0_isAskedFor 2 = .ok (.invokevirtual 94, 3) := by decide +kernel
theorem dX0_isAskedFor_5 : decode cX0_isAskedFor 5 = .ok (.iload_n 2, 1) := by decide +kernel
theorem dX0_isAskedFor_6 : decode cX0_isAskedFor 6 = .ok (.if_icmp .ne 20, 3) := by decide +kernel
theorem dX0_isAskedFor_9 : decode cX0_isAskedFor 9 = .ok (.iload_n 3, 1) := by decide +kernel
theorem dX0_isAskedFor_10 : decode cX0_isAskedFor 10 = .ok (.aload_n 0, 1) := by decide +kernel
theorem dX0_isAskedFor_11 : decode cX0_isAskedFor 11 = .ok (.iload_n 1, 1) := by decide +kernel
theorem dX0_isAskedFor_12 : decode cX0_isAskedFor 12 = .ok (.invokevirtual 91, 3) := by decide +kernel
theorem dX0_isAskedFor_15 : decode cX0_isAskedFor 15 = .ok (.iushr, 1) := by decide +kernel
theorem dX0_isAskedFor_16 : decode cX0_isAskedFor 16 = .ok (.iconst 1, 1) := by decide +kernel
theorem dX0_isAskedFor_17 : decode cX0_isAskedFor 17 = .ok (.iand, 1) := by decide +kernel
theorem dX0_isAskedFor_18 : decode cX0_isAskedFor 18 = .ok (.iconst 1, 1) := by decide +kernel
theorem dX0_isAskedFor_19 : decode cX0_isAskedFor 19 = .ok (.if_icmp .ne 7, 3) := by decide +kernel
theorem dX0_isAskedFor_22 : decode cX0_isAskedFor 22 = .ok (.iconst 1, 1) := by decide +kernel
theorem dX0_isAskedFor_23 : decode cX0_isAskedFor 23 = .ok (.goto 4, 3) := by decide +kernel
theorem dX0_isAskedFor_26 : decode cX0_isAskedFor 26 = .ok (.iconst 0, 1) := by decide +kernel
theorem dX0_isAskedFor_27 : decode cX0_isAskedFor 27 = .ok (.ireturn, 1) := by decide +kernel
theorem dX0_stopBehind_0 : decode cX0_stopBehind 0 = .ok (.aload_n 0, 1) := by decide +kernel
theorem dX0_stopBehind_1 : decode cX0_stopBehind 1 = .ok (.iload_n 1, 1) := by decide +kernel
theorem dX0_stopBehind_2 : decode cX0_stopBehind 2 = .ok (.iconst 3, 1) := by decide +kernel
theorem dX0_stopBehind_3 : decode cX0_stopBehind 3 = .ok (.iadd, 1) := by decide +kernel
theorem dX0_stopBehind_4 : decode cX0_stopBehind 4 = .ok (.invokevirtual 97, 3) := by decide +kernel
theorem dX0_stopBehind_7 : decode cX0_stopBehind 7 = .ok (.istore_n 2, 1) := by decide +kernel
theorem dX0_stopBehind_8 : decode cX0_stopBehind 8 = .ok (.iload_n 2, 1) := by decide +kernel
theorem dX0_stopBehind_9 : decode cX0_stopBehind 9 = .ok (.iconst (-1), 1) := by decide +kernel
theorem dX0_stopBehind_10 : decode cX0_stopBehind 10 = .ok (.if_icmp .eq 7, 3) := by decide +kernel
theorem dX0_stopBehind_13 : decode cX0_stopBehind 13 = .ok (.iload_n 2, 1) := by decide +kernel
theorem dX0_stopBehind_14 : decode cX0_stopBehind 14 = .ok (.goto 10, 3) := by decide +kernel
theorem dX0_stopBehind_17 : decode cX0_stopBehind 17 = .ok (.aload_n 0, 1) := by decide +kernel
theorem dX0_stopBehind_18 : decode cX0_stopBehind 18 = .ok (.iload_n 1, 1) := by decide +kernel
theorem dX0_stopBehind_19 : decode cX0_stopBehind 19 = .ok (.iconst 2, 1) := by decide +kernel
theorem dX0_stopBehind_20 : decode cX0_stopBehind 20 = .ok (.iadd, 1) := by decide +kernel
theorem dX0_stopBehind_21 : decode cX0_stopBehind 21 = .ok (.invokevirtual 97, 3) := by decide +kernel
theorem dX0_stopBehind_24 : decode cX0_stopBehind 24 = .ok (.ireturn, 1) := by decide +kernel
theorem dX0_writeUpTo_0 : decode cX0_writeUpTo 0 = .ok (.iload_n 1, 1) := by decide +kernel
theorem dX0_writeUpTo_1 : decode cX0_writeUpTo 1 = .ok (.aload_n 0, 1) := by decide +kernel
theorem dX0_writeUpTo_2 : decode cX0_writeUpTo 2 = .ok (.getfield 21, 3) := by decide +kernel
theorem dX0_writeUpTo_5 : decode cX0_writeUpTo 5 = .ok (.isub, 1) := by decide +kernel
theorem dX0_writeUpTo_6 : decode cX0_writeUpTo 6 = .ok (.iconst 0, 1) := by decide +kernel
theorem dX0_writeUpTo_7 : decode cX0_writeUpTo 7 = .ok (.invokestatic 154, 3) := by decide +kernel
theorem dX0_writeUpTo_10 : decode cX0_writeUpTo 10 = .ok (.istore_n 2, 1) := by decide +kernel
theorem dX0_writeUpTo_11 : decode cX0_writeUpTo 11 = .ok (.aload_n 0, 1) := by decide +kernel
theorem dX0_writeUpTo_12 : decode cX0_writeUpTo 12 = .ok (.getfield 27, 3) := by decide +kernel
theorem dX0_writeUpTo_15 : decode cX0_writeUpTo 15 = .ok (.iconst (-1), 1) := by decide +kernel
theorem dX0_writeUpTo_16 : decode cX0_writeUpTo 16 = .ok (.if_icmp .ne 7, 3) := by decide +kernel
theorem dX0_writeUpTo_19 : decode cX0_writeUpTo 19 = .ok (.iload_n 2, 1) := by decide +kernel
theorem dX0_writeUpTo_20 : decode cX0_writeUpTo 20 = .ok (.goto 11, 3) := by decide +kernel
theorem dX0_writeUpTo_23 : decode cX0_writeUpTo 23 = .ok (.iload_n 2, 1) := by decide +kernel
theorem dX0_writeUpTo_24 : decode cX0_writeUpTo 24 = .ok (.aload_n 0, 1) := by decide +kernel
theorem dX0_writeUpTo_25 : decode cX0_writeUpTo 25 = .ok (.getfield 27, 3) := by decide +kernel
theorem dX0_writeUpTo_28 : decode cX0_writeUpTo 28 = .ok (.invokestatic 158, 3) := by decide +kernel
theorem dX0_writeUpTo_31 : decode cX0_writeUpTo 31 = .ok (.istore_n 3, 1) := by decide +kernel
theorem dX0_writeUpTo_32 : decode cX0_writeUpTo 32 = .ok (.aload_n 0, 1) := by decide +kernel
theorem dX0_writeUpTo_33 : decode cX0_writeUpTo 33 = .ok (.dup, 1) := by decide +kernel
theorem dX0_writeUpTo_34 : decode cX0_writeUpTo 34 = .ok (.getfield 21, 3) := by decide +kernel
theorem dX0_writeUpTo_37 : decode cX0_writeUpTo 37 = .ok (.iload_n 3, 1) := by decide +kernel
theorem dX0_writeUpTo_38 : decode cX0_writeUpTo 38 = .ok (.iadd, 1) := by decide +kernel
theorem dX0_writeUpTo_39 : decode cX0_writeUpTo 39 = .ok (.putfield 21, 3) := by decide +kernel
theorem dX0_writeUpTo_42 : decode cX0_writeUpTo 42 = .ok (.iload_n 3, 1) := by decide +kernel
theorem dX0_writeUpTo_43 : decode cX0_writeUpTo 43 = .ok (.iload_n 2, 1) := by decide +kernel
theorem dX0_writeUpTo_44 : decode cX0_writeUpTo 44 = .ok (.if_icmp .ge 9, 3) := by decide +kernel
theorem dX0_writeUpTo_47 : decode cX0_writeUpTo 47 = .ok (.aload_n 0, 1) := by decide +kernel
theorem dX0_writeUpTo_48 : decode cX0_writeUpTo 48 = .ok (.invokevirtual 117, 3) := by decide +kernel
theorem dX0_writeUpTo_51 : decode cX0_writeUpTo 51 = .ok (.iconst (-1), 1) := by decide +kernel
theorem dX0_writeUpTo_52 : decode cX0_writeUpTo 52 = .ok (.ireturn, 1) := by decide +kernel
theorem dX0_writeUpTo_53 : decode cX0_writeUpTo 53 = .ok (.aload_n 0, 1) := by decide +kernel
theorem dX0_writeUpTo_54 : decode cX0_writeUpTo 54 = .ok (.getfield 27, 3) := by decide +kernel
theorem dX0_writeUpTo_57 : decode cX0_writeUpTo 57 = .ok (.iconst (-1), 1) := by decide +kernel
theorem dX0_writeUpTo_58 : decode cX0_writeUpTo 58 = .ok (.if_icmp .eq 13, 3) := by decide +kernel
theorem dX0_writeUpTo_61 : decode cX0_writeUpTo 61 = .ok (.aload_n 0, 1) := by decide +kernel
theorem dX0_writeUpTo_62 : decode cX0_writeUpTo 62 = .ok (.dup, 1) := by decide +kernel
theorem dX0_writeUpTo_63 : decode cX0_writeUpTo 63 = .ok (.getfield 27, 3) := by decide +kernel
theorem dX0_writeUpTo_66 : decode cX0_writeUpTo 66 = .ok (.iload_n 3, 1) := by decide +kernel
theorem dX0_writeUpTo_67 : decode cX0_writeUpTo 67 = .ok (.isub, 1) := by decide +kernel
theorem dX0_writeUpTo_68 : decode cX0_writeUpTo 68 = .ok (.putfield 27, 3) := by decide +kernel
theorem dX0_writeUpTo_71 : decode cX0_writeUpTo 71 = .ok (.iload_n 3, 1) := by decide +kernel
theorem dX0_writeUpTo_72 : decode cX0_writeUpTo 72 = .ok (.ireturn, 1) := by decide +kernel
theorem dX0_losePower_0 : decode cX0_losePower 0 = .ok (.aload_n 0, 1) := by decide +kernel
theorem dX0_losePower_1 : decode cX0_losePower 1 = .ok (.aload_n 0, 1) := by decide +kernel
theorem dX0_losePower_2 : decode cX0_losePower 2 = .ok (.getfield 21, 3) := by decide +kernel
theorem dX0_losePower_5 : decode cX0_losePower 5 = .ok (.putfield 24, 3) := by decide +kernel
theorem dX0_losePower_8 : decode cX0_losePower 8 = .ok (.aload_n 0, 1) := by decide +kernel
theorem dX0_losePower_9 : decode cX0_losePower 9 = .ok (.iconst (-1), 1) := by decide +kernel
theorem dX0_losePower_10 : decode cX0_losePower 10 = .ok (.putfield 27, 3) := by decide +kernel
theorem dX0_losePower_13 : decode cX0_losePower 13 = .ok (.aload_n 0, 1) := by decide +kernel
theorem dX0_losePower_14 : decode cX0_losePower 14 = .ok (.iconst 0, 1) := by decide +kernel
theorem dX0_losePower_15 : decode cX0_losePower 15 = .ok (.putfield 30, 3) := by decide +kernel
theorem dX0_losePower_18 : decode cX0_losePower 18 = .ok (.aload_n 0, 1) := by decide +kernel
theorem dX0_losePower_19 : decode cX0_losePower 19 = .ok (.iconst 0, 1) := by decide +kernel
theorem dX0_losePower_20 : decode cX0_losePower 20 = .ok (.iconst 0, 1) := by decide +kernel
theorem dX0_losePower_21 : decode cX0_losePower 21 = .ok (.invokevirtual 44, 3) := by decide +kernel
theorem dX0_losePower_24 : decode cX0_losePower 24 = .ok (.return_, 1) := by decide +kernel
theorem dX0_addVoidRest_0 : decode cX0_addVoidRest 0 = .ok (.aload_n 0, 1) := by decide +kernel
theorem dX0_addVoidRest_1 : decode cX0_addVoidRest 1 = .ok (.getfield 17, 3) := by decide +kernel
theorem dX0_addVoidRest_4 : decode cX0_addVoidRest 4 = .ok (.istore_n 1, 1) := by decide +kernel
theorem dX0_addVoidRest_5 : decode cX0_addVoidRest 5 = .ok (.iconst 0, 1) := by decide +kernel
theorem dX0_addVoidRest_6 : decode cX0_addVoidRest 6 = .ok (.istore_n 2, 1) := by decide +kernel
theorem dX0_addVoidRest_7 : decode cX0_addVoidRest 7 = .ok (.iload_n 2, 1) := by decide +kernel
theorem dX0_addVoidRest_8 : decode cX0_addVoidRest 8 = .ok (.sipush 13107, 3) := by decide +kernel
theorem dX0_addVoidRest_11 : decode cX0_addVoidRest 11 = .ok (.if_icmp .ge 35, 3) := by decide +kernel
theorem dX0_addVoidRest_14 : decode cX0_addVoidRest 14 = .ok (.iload_n 1, 1) := by decide +kernel
theorem dX0_addVoidRest_15 : decode cX0_addVoidRest 15 = .ok (.aload_n 0, 1) := by decide +kernel
theorem dX0_addVoidRest_16 : decode cX0_addVoidRest 16 = .ok (.getfield 24, 3) := by decide +kernel
theorem dX0_addVoidRest_19 : decode cX0_addVoidRest 19 = .ok (.if_icmp .ge 27, 3) := by decide +kernel
theorem dX0_addVoidRest_22 : decode cX0_addVoidRest 22 = .ok (.aload_n 0, 1) := by decide +kernel
theorem dX0_addVoidRest_23 : decode cX0_addVoidRest 23 = .ok (.iload_n 1, 1) := by decide +kernel
theorem dX0_addVoidRest_24 : decode cX0_addVoidRest 24 = .ok (.invokevirtual 74, 3) := by decide +kernel
theorem dX0_addVoidRest_27 : decode cX0_addVoidRest 27 = .ok (.aload_n 0, 1) := by decide +kernel
theorem dX0_addVoidRest_28 : decode cX0_addVoidRest 28 = .ok (.getfield 24, 3) := by decide +kernel
theorem dX0_addVoidRest_31 : decode cX0_addVoidRest 31 = .ok (.if_icmp .gt 15, 3) := by decide +kernel
theorem dX0_addVoidRest_34 : decode cX0_addVoidRest 34 = .ok (.aload_n 0, 1) := by decide +kernel
theorem dX0_addVoidRest_35 : decode cX0_addVoidRest 35 = .ok (.iload_n 1, 1) := by decide +kernel
theorem dX0_addVoidRest_36 : decode cX0_addVoidRest 36 = .ok (.invokevirtual 74, 3) := by decide +kernel
theorem dX0_addVoidRest_39 : decode cX0_addVoidRest 39 = .ok (.istore_n 1, 1) := by decide +kernel
theorem dX0_addVoidRest_40 : decode cX0_addVoidRest 40 = .ok (.iinc 2 1, 3) := by decide +kernel
theorem dX0_addVoidRest_43 : decode cX0_addVoidRest 43 = .ok (.goto (-36), 3) := by decide +kernel
theorem dX0_addVoidRest_46 : decode cX0_addVoidRest 46 = .ok (.iload_n 1, 1) := by decide +kernel
theorem dX0_addVoidRest_47 : decode cX0_addVoidRest 47 = .ok (.aload_n 0, 1) := by decide +kernel
theorem dX0_addVoidRest_48 : decode cX0_addVoidRest 48 = .ok (.getfield 24, 3) := by decide +kernel
theorem dX0_addVoidRest_51 : decode cX0_addVoidRest 51 = .ok (.if_icmp .lt 4, 3) := by decide +kernel
theorem dX0_addVoidRest_54 : decode cX0_addVoidRest 54 = .ok (.return_, 1) := by decide +kernel
theorem dX0_addVoidRest_55 : decode cX0_addVoidRest 55 = .ok (.aload_n 0, 1) := by decide +kernel
theorem dX0_addVoidRest_56 : decode cX0_addVoidRest 56 = .ok (.iload_n 1, 1) := by decide +kernel
theorem dX0_addVoidRest_57 : decode cX0_addVoidRest 57 = .ok (.invokevirtual 97, 3) := by decide +kernel
theorem dX0_addVoidRest_60 : decode cX0_addVoidRest 60 = .ok (.istore_n 2, 1) := by decide +kernel
theorem dX0_addVoidRest_61 : decode cX0_addVoidRest 61 = .ok (.aload_n 0, 1) := by decide +kernel
theorem dX0_addVoidRest_62 : decode cX0_addVoidRest 62 = .ok (.iload_n 1, 1) := by decide +kernel
theorem dX0_addVoidRest_63 : decode cX0_addVoidRest 63 = .ok (.invokevirtual 74, 3) := by decide +kernel
theorem dX0_addVoidRest_66 : decode cX0_addVoidRest 66 = .ok (.aload_n 0, 1) := by decide +kernel
theorem dX0_addVoidRest_67 : decode cX0_addVoidRest 67 = .ok (.getfield 24, 3) := by decide +kernel
theorem dX0_addVoidRest_70 : decode cX0_addVoidRest 70 = .ok (.isub, 1) := by decide +kernel
theorem dX0_addVoidRest_71 : decode cX0_addVoidRest 71 = .ok (.istore_n 3, 1) := by decide +kernel
theorem dX0_addVoidRest_72 : decode cX0_addVoidRest 72 = .ok (.iconst 1, 1) := by decide +kernel
theorem dX0_addVoidRest_73 : decode cX0_addVoidRest 73 = .ok (.istore 4, 2) := by decide +kernel
theorem dX0_addVoidRest_75 : decode cX0_addVoidRest 75 = .ok (.iload 4, 2) := by decide +kernel
theorem dX0_addVoidRest_77 : decode cX0_addVoidRest 77 = .ok (.iload_n 3, 1) := by decide +kernel
theorem dX0_addVoidRest_78 : decode cX0_addVoidRest 78 = .ok (.if_icmp .ge 22, 3) := by decide +kernel
theorem dX0_addVoidRest_81 : decode cX0_addVoidRest 81 = .ok (.iload 4, 2) := by decide +kernel
theorem dX0_addVoidRest_83 : decode cX0_addVoidRest 83 = .ok (.sipush 205, 3) := by decide +kernel
theorem dX0_addVoidRest_86 : decode cX0_addVoidRest 86 = .ok (.if_icmp .ge 14, 3) := by decide +kernel
theorem dX0_addVoidRest_89 : decode cX0_addVoidRest 89 = .ok (.aload_n 0, 1) := by decide +kernel
theorem dX0_addVoidRest_90 : decode cX0_addVoidRest 90 = .ok (.iconst 0, 1) := by decide +kernel
theorem dX0_addVoidRest_91 : decode cX0_addVoidRest 91 = .ok (.invokevirtual 65, 3) := by decide +kernel
theorem dX0_addVoidRest_94 : decode cX0_addVoidRest 94 = .ok (.iinc 4 1, 3) := by decide +kernel
theorem dX0_addVoidRest_97 : decode cX0_addVoidRest 97 = .ok (.goto (-22), 3) := by decide +kernel
theorem dX0_addVoidRest_100 : decode cX0_addVoidRest 100 = .ok (.aload_n 0, 1) := by decide +kernel
theorem dX0_addVoidRest_101 : decode cX0_addVoidRest 101 = .ok (.iload_n 2, 1) := by decide +kernel
theorem dX0_addVoidRest_102 : decode cX0_addVoidRest 102 = .ok (.ineg, 1) := by decide +kernel
theorem dX0_addVoidRest_103 : decode cX0_addVoidRest 103 = .ok (.invokevirtual 65, 3) := by decide +kernel
theorem dX0_addVoidRest_106 : decode cX0_addVoidRest 106 = .ok (.return_, 1) := by decide +kernel
