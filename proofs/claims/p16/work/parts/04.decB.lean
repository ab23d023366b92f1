theorem dX1_init_0 : decode cX1_init 0 = .ok (.aload_n 0, 1) := by decide +kernel
theorem dX1_init_1 : decode cX1_init 1 = .ok (.invokespecial 1, 3) := by decide +kernel
theorem dX1_init_4 : decode cX1_init 4 = .ok (.aload_n 0, 1) := by decide +kernel
theorem dX1_init_5 : decode cX1_init 5 = .ok (.sipush 200, 3) := by decide +kernel
theorem dX1_init_8 : decode cX1_init 8 = .ok (.newarray .int, 2) := by decide +kernel
theorem dX1_init_10 : decode cX1_init 10 = .ok (.putfield 7, 3) := by decide +kernel
theorem dX1_init_13 : decode cX1_init 13 = .ok (.aload_n 0, 1) := by decide +kernel
theorem dX1_init_14 : decode cX1_init 14 = .ok (.ldc 13, 2) := by decide +kernel
theorem dX1_init_16 : decode cX1_init 16 = .ok (.newarray .int, 2) := by decide +kernel
theorem dX1_init_18 : decode cX1_init 18 = .ok (.putfield 14, 3) := by decide +kernel
theorem dX1_init_21 : decode cX1_init 21 = .ok (.aload_n 0, 1) := by decide +kernel
theorem dX1_init_22 : decode cX1_init 22 = .ok (.sipush 4400, 3) := by decide +kernel
theorem dX1_init_25 : decode cX1_init 25 = .ok (.newarray .int, 2) := by decide +kernel
theorem dX1_init_27 : decode cX1_init 27 = .ok (.putfield 17, 3) := by decide +kernel
theorem dX1_init_30 : decode cX1_init 30 = .ok (.aload_n 0, 1) := by decide +kernel
theorem dX1_init_31 : decode cX1_init 31 = .ok (.sipush 4400, 3) := by decide +kernel
theorem dX1_init_34 : decode cX1_init 34 = .ok (.newarray .int, 2) := by decide +kernel
theorem dX1_init_36 : decode cX1_init 36 = .ok (.putfield 20, 3) := by decide +kernel
theorem dX1_init_39 : decode cX1_init 39 = .ok (.aload_n 0, 1) := by decide +kernel
theorem dX1_init_40 : decode cX1_init 40 = .ok (.sipush 4400, 3) := by decide +kernel
theorem dX1_init_43 : decode cX1_init 43 = .ok (.newarray .int, 2) := by decide +kernel
theorem dX1_init_45 : decode cX1_init 45 = .ok (.putfield 23, 3) := by decide +kernel
theorem dX1_init_48 : decode cX1_init 48 = .ok (.aload_n 0, 1) := by decide +kernel
theorem dX1_init_49 : decode cX1_init 49 = .ok (.sipush 4400, 3) := by decide +kernel
theorem dX1_init_52 : decode cX1_init 52 = .ok (.newarray .int, 2) := by decide +kernel
theorem dX1_init_54 : decode cX1_init 54 = .ok (.putfield 26, 3) := by decide +kernel
theorem dX1_init_57 : decode cX1_init 57 = .ok (.aload_n 0, 1) := by decide +kernel
theorem dX1_init_58 : decode cX1_init 58 = .ok (.sipush 4400, 3) := by decide +kernel
theorem dX1_init_61 : decode cX1_init 61 = .ok (.newarray .int, 2) := by decide +kernel
theorem dX1_init_63 : decode cX1_init 63 = .ok (.putfield 29, 3) := by decide +kernel
theorem dX1_init_66 : decode cX1_init 66 = .ok (.aload_n 0, 1) := by decide +kernel
theorem dX1_init_67 : decode cX1_init 67 = .ok (.sipush 4400, 3) := by decide +kernel
theorem dX1_init_70 : decode cX1_init 70 = .ok (.newarray .int, 2) := by decide +kernel
theorem dX1_init_72 : decode cX1_init 72 = .ok (.putfield 32, 3) := by decide +kernel
theorem dX1_init_75 : decode cX1_init 75 = .ok (.aload_n 0, 1) := by decide +kernel
theorem dX1_init_76 : decode cX1_init 76 = .ok (.sipush 4400, 3) := by decide +kernel
theorem dX1_init_79 : decode cX1_init 79 = .ok (.newarray .boolean, 2) := by decide +kernel
theorem dX1_init_81 : decode cX1_init 81 = .ok (.putfield 35, 3) := by decide +kernel
theorem dX1_init_84 : decode cX1_init 84 = .ok (.aload_n 0, 1) := by decide +kernel
theorem dX1_init_85 : decode cX1_init 85 = .ok (.iconst (-1), 1) := by decide +kernel
theorem dX1_init_86 : decode cX1_init 86 = .ok (.putfield 39, 3) := by decide +kernel
theorem dX1_init_89 : decode cX1_init 89 = .ok (.aload_n 0, 1) := by decide +kernel
theorem dX1_init_90 : decode cX1_init 90 = .ok (.iconst (-1), 1) := by decide +kernel
theorem dX1_init_91 : decode cX1_init 91 = .ok (.putfield 43, 3) := by decide +kernel
theorem dX1_init_94 : decode cX1_init 94 = .ok (.aload_n 0, 1) := by decide +kernel
theorem dX1_init_95 : decode cX1_init 95 = .ok (.iconst 0, 1) := by decide +kernel
theorem dX1_init_96 : decode cX1_init 96 = .ok (.putfield 46, 3) := by decide +kernel
theorem dX1_init_99 : decode cX1_init 99 = .ok (.return_, 1) := by decide +kernel
theorem dX1_thrown_0 : decode cX1_thrown 0 = .ok (.aload_n 0, 1) := by decide +kernel
theorem dX1_thrown_1 : decode cX1_thrown 1 = .ok (.getfield 49, 3) := by decide +kernel
theorem dX1_thrown_4 : decode cX1_thrown 4 = .ok (.ireturn, 1) := by decide +kernel
theorem dX1_refused_0 : decode cX1_refused 0 = .ok (.aload_n 0, 1) := by decide +kernel
theorem dX1_refused_1 : decode cX1_refused 1 = .ok (.iload_n 1, 1) := by decide +kernel
theorem dX1_refused_2 : decode cX1_refused 2 = .ok (.ifCond .eq 7, 3) := by decide +kernel
theorem dX1_refused_5 : decode cX1_refused 5 = .ok (.iconst 1, 1) := by decide +kernel
theorem dX1_refused_6 : decode cX1_refused 6 = .ok (.goto 20, 3) := by decide +kernel
theorem dX1_refused_9 : decode cX1_refused 9 = .ok (.iload_n 2, 1) := by decide +kernel
theorem dX1_refused_10 : decode cX1_refused 10 = .ok (.ifCond .eq 7, 3) := by decide +kernel
theorem dX1_refused_13 : decode cX1_refused 13 = .ok (.iconst 2, 1) := by decide +kernel
theorem dX1_refused_14 : decode cX1_refused 14 = .ok (.goto 12, 3) := by decide +kernel
theorem dX1_refused_17 : decode cX1_refused 17 = .ok (.iload_n 3, 1) := by decide +kernel
theorem dX1_refused_18 : decode cX1_refused 18 = .ok (.ifCond .eq 7, 3) := by decide +kernel
theorem dX1_refused_21 : decode cX1_refused 21 = .ok (.iconst 3, 1) := by decide +kernel
theorem dX1_refused_22 : decode cX1_refused 22 = .ok (.goto 4, 3) := by decide +kernel
theorem dX1_refused_25 : decode cX1_refused 25 = .ok (.iconst 0, 1) := by decide +kernel
theorem dX1_refused_26 : decode cX1_refused 26 = .ok (.putfield 49, 3) := by decide +kernel
theorem dX1_refused_29 : decode cX1_refused 29 = .ok (.aload_n 0, 1) := by decide +kernel
theorem dX1_refused_30 : decode cX1_refused 30 = .ok (.getfield 49, 3) := by decide +kernel
theorem dX1_refused_33 : decode cX1_refused 33 = .ok (.ifCond .le 7, 3) := by decide +kernel
theorem dX1_refused_36 : decode cX1_refused 36 = .ok (.iconst 1, 1) := by decide +kernel
theorem dX1_refused_37 : decode cX1_refused 37 = .ok (.goto 4, 3) := by decide +kernel
theorem dX1_refused_40 : decode cX1_refused 40 = .ok (.iconst 0, 1) := by decide +kernel
theorem dX1_refused_41 : decode cX1_refused 41 = .ok (.ireturn, 1) := by decide +kernel
theorem dX1_in_0 : decode cX1_in 0 = .ok (.iload_n 0, 1) := by decide +kernel
theorem dX1_in_1 : decode cX1_in 1 = .ok (.iload_n 1, 1) := by decide +kernel
theorem dX1_in_2 : decode cX1_in 2 = .ok (.if_icmp .lt 12, 3) := by decide +kernel
theorem dX1_in_5 : decode cX1_in 5 = .ok (.iload_n 0, 1) := by decide +kernel
theorem dX1_in_6 : decode cX1_in 6 = .ok (.iload_n 2, 1) := by decide +kernel
theorem dX1_in_7 : decode cX1_in 7 = .ok (.if_icmp .gt 7, 3) := by decide +kernel
theorem dX1_in_10 : decode cX1_in 10 = .ok (.iconst 1, 1) := by decide +kernel
theorem dX1_in_11 : decode cX1_in 11 = .ok (.goto 4, 3) := by decide +kernel
theorem dX1_in_14 : decode cX1_in 14 = .ok (.iconst 0, 1) := by decide +kernel
theorem dX1_in_15 : decode cX1_in 15 = .ok (.ireturn, 1) := by decide +kernel
theorem dX1_rowOf_0 : decode cX1_rowOf 0 = .ok (.iconst (-1), 1) := by decide +kernel
theorem dX1_rowOf_1 : decode cX1_rowOf 1 = .ok (.istore_n 2, 1) := by decide +kernel
theorem dX1_rowOf_2 : decode cX1_rowOf 2 = .ok (.aload_n 0, 1) := by decide +kernel
theorem dX1_rowOf_3 : decode cX1_rowOf 3 = .ok (.getfield 52, 3) := by decide +kernel
theorem dX1_rowOf_6 : decode cX1_rowOf 6 = .ok (.istore_n 3, 1) := by decide +kernel
theorem dX1_rowOf_7 : decode cX1_rowOf 7 = .ok (.iload_n 3, 1) := by decide +kernel
theorem dX1_rowOf_8 : decode cX1_rowOf 8 = .ok (.aload_n 0, 1) := by decide +kernel
theorem dX1_rowOf_9 : decode cX1_rowOf 9 = .ok (.getfield 46, 3) := by decide +kernel
theorem dX1_rowOf_12 : decode cX1_rowOf 12 = .ok (.if_icmp .ge 34, 3) := by decide +kernel
theorem dX1_rowOf_15 : decode cX1_rowOf 15 = .ok (.aload_n 0, 1) := by decide +kernel
theorem dX1_rowOf_16 : decode cX1_rowOf 16 = .ok (.getfield 17, 3) := by decide +kernel
theorem dX1_rowOf_19 : decode cX1_rowOf 19 = .ok (.iload_n 3, 1) := by decide +kernel
theorem dX1_rowOf_20 : decode cX1_rowOf 20 = .ok (.iaload, 1) := by decide +kernel
theorem dX1_rowOf_21 : decode cX1_rowOf 21 = .ok (.iload_n 1, 1) := by decide +kernel
theorem dX1_rowOf_22 : decode cX1_rowOf 22 = .ok (.if_icmp .ne 16, 3) := by decide +kernel
theorem dX1_rowOf_25 : decode cX1_rowOf 25 = .ok (.aload_n 0, 1) := by decide +kernel
theorem dX1_rowOf_26 : decode cX1_rowOf 26 = .ok (.getfield 35, 3) := by decide +kernel
theorem dX1_rowOf_29 : decode cX1_rowOf 29 = .ok (.iload_n 3, 1) := by decide +kernel
theorem dX1_rowOf_30 : decode cX1_rowOf 30 = .ok (.baload, 1) := by decide +kernel
theorem dX1_rowOf_31 : decode cX1_rowOf 31 = .ok (.ifCond .ne 7, 3) := by decide +kernel
theorem dX1_rowOf_34 : decode cX1_rowOf 34 = .ok (.iload_n 3, 1) := by decide +kernel
theorem dX1_rowOf_35 : decode cX1_rowOf 35 = .ok (.goto 4, 3) := by decide +kernel
theorem dX1_rowOf_38 : decode cX1_rowOf 38 = .ok (.iload_n 2, 1) := by decide +kernel
theorem dX1_rowOf_39 : decode cX1_rowOf 39 = .ok (.istore_n 2, 1) := by decide +kernel
theorem dX1_rowOf_40 : decode cX1_rowOf 40 = .ok (.iinc 3 1, 3) := by decide +kernel
theorem dX1_rowOf_43 : decode cX1_rowOf 43 = .ok (.goto (-36), 3) := by decide +kernel
theorem dX1_rowOf_46 : decode cX1_rowOf 46 = .ok (.iload_n 2, 1) := by decide +kernel
theorem dX1_rowOf_47 : decode cX1_rowOf 47 = .ok (.ireturn, 1) := by decide +kernel
theorem dX1_addRow_0 : decode cX1_addRow 0 = .ok (.aload_n 0, 1) := by decide +kernel
theorem dX1_addRow_1 : decode cX1_addRow 1 = .ok (.getfield 17, 3) := by decide +kernel
theorem dX1_addRow_4 : decode cX1_addRow 4 = .ok (.aload_n 0, 1) := by decide +kernel
theorem dX1_addRow_5 : decode cX1_addRow 5 = .ok (.getfield 46, 3) := by decide +kernel
theorem dX1_addRow_8 : decode cX1_addRow 8 = .ok (.iload_n 1, 1) := by decide +kernel
theorem dX1_addRow_9 : decode cX1_addRow 9 = .ok (.iastore, 1) := by decide +kernel
theorem dX1_addRow_10 : decode cX1_addRow 10 = .ok (.aload_n 0, 1) := by decide +kernel
theorem dX1_addRow_11 : decode cX1_addRow 11 = .ok (.getfield 20, 3) := by decide +kernel
theorem dX1_addRow_14 : decode cX1_addRow 14 = .ok (.aload_n 0, 1) := by decide +kernel
theorem dX1_addRow_15 : decode cX1_addRow 15 = .ok (.getfield 46, 3) := by decide +kernel
theorem dX1_addRow_18 : decode cX1_addRow 18 = .ok (.iload_n 2, 1) := by decide +kernel
theorem dX1_addRow_19 : decode cX1_addRow 19 = .ok (.iastore, 1) := by decide +kernel
theorem dX1_addRow_20 : decode cX1_addRow 20 = .ok (.aload_n 0, 1) := by decide +kernel
theorem dX1_addRow_21 : decode cX1_addRow 21 = .ok (.getfield 35, 3) := by decide +kernel
theorem dX1_addRow_24 : decode cX1_addRow 24 = .ok (.aload_n 0, 1) := by decide +kernel
theorem dX1_addRow_25 : decode cX1_addRow 25 = .ok (.getfield 46, 3) := by decide +kernel
theorem dX1_addRow_28 : decode cX1_addRow 28 = .ok (.iload_n 3, 1) := by decide +kernel
theorem dX1_addRow_29 : decode cX1_addRow 29 = .ok (.bastore, 1) := by decide +kernel
theorem dX1_addRow_30 : decode cX1_addRow 30 = .ok (.aload_n 0, 1) := by decide +kernel
theorem dX1_addRow_31 : decode cX1_addRow 31 = .ok (.dup, 1) := by decide +kernel
theorem dX1_addRow_32 : decode cX1_addRow 32 = .ok (.getfield 46, 3) := by decide +kernel
theorem dX1_addRow_35 : decode cX1_addRow 35 = .ok (.iconst 1, 1) := by decide +kernel
theorem dX1_addRow_36 : decode cX1_addRow 36 = .ok (.iadd, 1) := by decide +kernel
theorem dX1_addRow_37 : decode cX1_addRow 37 = .ok (.putfield 46, 3) := by decide +kernel
theorem dX1_addRow_40 : decode cX1_addRow 40 = .ok (.return_, 1) := by decide +kernel
theorem dX1_latestOf_0 : decode cX1_latestOf 0 = .ok (.iconst (-1), 1) := by decide +kernel
theorem dX1_latestOf_1 : decode cX1_latestOf 1 = .ok (.istore_n 2, 1) := by decide +kernel
theorem dX1_latestOf_2 : decode cX1_latestOf 2 = .ok (.aload_n 0, 1) := by decide +kernel
theorem dX1_latestOf_3 : decode cX1_latestOf 3 = .ok (.getfield 52, 3) := by decide +kernel
theorem dX1_latestOf_6 : decode cX1_latestOf 6 = .ok (.istore_n 3, 1) := by decide +kernel
theorem dX1_latestOf_7 : decode cX1_latestOf 7 = .ok (.iload_n 3, 1) := by decide +kernel
theorem dX1_latestOf_8 : decode cX1_latestOf 8 = .ok (.aload_n 0, 1) := by decide +kernel
theorem dX1_latestOf_9 : decode cX1_latestOf 9 = .ok (.getfield 46, 3) := by decide +kernel
theorem dX1_latestOf_12 : decode cX1_latestOf 12 = .ok (.if_icmp .ge 39, 3) := by decide +kernel
theorem dX1_latestOf_15 : decode cX1_latestOf 15 = .ok (.aload_n 0, 1) := by decide +kernel
theorem dX1_latestOf_16 : decode cX1_latestOf 16 = .ok (.getfield 35, 3) := by decide +kernel
theorem dX1_latestOf_19 : decode cX1_latestOf 19 = .ok (.iload_n 3, 1) := by decide +kernel
theorem dX1_latestOf_20 : decode cX1_latestOf 20 = .ok (.baload, 1) := by decide +kernel
theorem dX1_latestOf_21 : decode cX1_latestOf 21 = .ok (.ifCond .ne 22, 3) := by decide +kernel
theorem dX1_latestOf_24 : decode cX1_latestOf 24 = .ok (.aload_n 0, 1) := by decide +kernel
theorem dX1_latestOf_25 : decode cX1_latestOf 25 = .ok (.getfield 26, 3) := by decide +kernel
theorem dX1_latestOf_28 : decode cX1_latestOf 28 = .ok (.iload_n 3, 1) := by decide +kernel
theorem dX1_latestOf_29 : decode cX1_latestOf 29 = .ok (.iaload, 1) := by decide +kernel
theorem dX1_latestOf_30 : decode cX1_latestOf 30 = .ok (.iload_n 1, 1) := by decide +kernel
theorem dX1_latestOf_31 : decode cX1_latestOf 31 = .ok (.if_icmp .ne 12, 3) := by decide +kernel
theorem dX1_latestOf_34 : decode cX1_latestOf 34 = .ok (.aload_n 0, 1) := by decide +kernel
theorem dX1_latestOf_35 : decode cX1_latestOf 35 = .ok (.getfield 17, 3) := by decide +kernel
theorem dX1_latestOf_38 : decode cX1_latestOf 38 = .ok (.iload_n 3, 1) := by decide +kernel
theorem dX1_latestOf_39 : decode cX1_latestOf 39 = .ok (.iaload, 1) := by decide +kernel
theorem dX1_latestOf_40 : decode cX1_latestOf 40 = .ok (.goto 4, 3) := by decide +kernel
theorem dX1_latestOf_43 : decode cX1_latestOf 43 = .ok (.iload_n 2, 1) := by decide +kernel
theorem dX1_latestOf_44 : decode cX1_latestOf 44 = .ok (.istore_n 2, 1) := by decide +kernel
theorem dX1_latestOf_45 : decode cX1_latestOf 45 = .ok (.iinc 3 1, 3) := by decide +kernel
theorem dX1_latestOf_48 : decode cX1_latestOf 48 = .ok (.goto (-41), 3) := by decide +kernel
theorem dX1_latestOf_51 : decode cX1_latestOf 51 = .ok (.iload_n 2, 1) := by decide +kernel
theorem dX1_latestOf_52 : decode cX1_latestOf 52 = .ok (.ireturn, 1) := by decide +kernel
theorem dX1_append_0 : decode cX1_append 0 = .ok (.iload_n 1, 1) := by decide +kernel
theorem dX1_append_1 : decode cX1_append 1 = .ok (.iconst 0, 1) := by decide +kernel
theorem dX1_append_2 : decode cX1_append 2 = .ok (.bipush 15, 2) := by decide +kernel
theorem dX1_append_4 : decode cX1_append 4 = .ok (.invokestatic 83, 3) := by decide +kernel
theorem dX1_append_7 : decode cX1_append 7 = .ok (.ifCond .eq 42, 3) := by decide +kernel
theorem dX1_append_10 : decode cX1_append 10 = .ok (.iload_n 2, 1) := by decide +kernel
theorem dX1_append_11 : decode cX1_append 11 = .ok (.iconst 0, 1) := by decide +kernel
theorem dX1_append_12 : decode cX1_append 12 = .ok (.bipush 7, 2) := by decide +kernel
theorem dX1_append_14 : decode cX1_append 14 = .ok (.invokestatic 83, 3) := by decide +kernel
theorem dX1_append_17 : decode cX1_append 17 = .ok (.ifCond .eq 32, 3) := by decide +kernel
theorem dX1_append_20 : decode cX1_append 20 = .ok (.iload 4, 2) := by decide +kernel
theorem dX1_append_22 : decode cX1_append 22 = .ok (.iconst 0, 1) := by decide +kernel
theorem dX1_append_23 : decode cX1_append 23 = .ok (.sipush 200, 3) := by decide +kernel
theorem dX1_append_26 : decode cX1_append 26 = .ok (.invokestatic 83, 3) := by decide +kernel
theorem dX1_append_29 : decode cX1_append 29 = .ok (.ifCond .eq 20, 3) := by decide +kernel
theorem dX1_append_32 : decode cX1_append 32 = .ok (.iload_n 3, 1) := by decide +kernel
theorem dX1_append_33 : decode cX1_append 33 = .ok (.iconst (-1), 1) := by decide +kernel
theorem dX1_append_34 : decode cX1_append 34 = .ok (.if_icmp .lt 15, 3) := by decide +kernel
theorem dX1_append_37 : decode cX1_append 37 = .ok (.iload_n 3, 1) := by decide +kernel
theorem dX1_append_38 : decode cX1_append 38 = .ok (.aload_n 0, 1) := by decide +kernel
theorem dX1_append_39 : decode cX1_append 39 = .ok (.getfield 62, 3) := by decide +kernel
theorem dX1_append_42 : decode cX1_append 42 = .ok (.if_icmp .ge 7, 3) := by decide +kernel
theorem dX1_append_45 : decode cX1_append 45 = .ok (.iconst 1, 1) := by decide +kernel
theorem dX1_append_46 : decode cX1_append 46 = .ok (.goto 4, 3) := by decide +kernel
theorem dX1_append_49 : decode cX1_append 49 = .ok (.iconst 0, 1) := by decide +kernel
theorem dX1_append_50 : decode cX1_append 50 = .ok (.istore 5, 2) := by decide +kernel
theorem dX1_append_52 : decode cX1_append 52 = .ok (.aload_n 0, 1) := by decide +kernel
theorem dX1_append_53 : decode cX1_append 53 = .ok (.aload_n 0, 1) := by decide +kernel
theorem dX1_append_54 : decode cX1_append 54 = .ok (.getfield 55, 3) := by decide +kernel
theorem dX1_append_57 : decode cX1_append 57 = .ok (.iload 5, 2) := by decide +kernel
theorem dX1_append_59 : decode cX1_append 59 = .ok (.ifCond .ne 7, 3) := by decide +kernel
theorem dX1_append_62 : decode cX1_append 62 = .ok (.iconst 1, 1) := by decide +kernel
theorem dX1_append_63 : decode cX1_append 63 = .ok (.goto 4, 3) := by decide +kernel
theorem dX1_append_66 : decode cX1_append 66 = .ok (.iconst 0, 1) := by decide +kernel
theorem dX1_append_67 : decode cX1_append 67 = .ok (.iconst 0, 1) := by decide +kernel
theorem dX1_append_68 : decode cX1_append 68 = .ok (.invokevirtual 75, 3) := by decide +kernel
theorem dX1_append_71 : decode cX1_append 71 = .ok (.ifCond .eq 5, 3) := by decide +kernel
theorem dX1_append_74 : decode cX1_append 74 = .ok (.iconst 0, 1) := by decide +kernel
theorem dX1_append_75 : decode cX1_append 75 = .ok (.ireturn, 1) := by decide +kernel
theorem dX1_append_76 : decode cX1_append 76 = .ok (.aload_n 0, 1) := by decide +kernel
theorem dX1_append_77 : decode cX1_append 77 = .ok (.getfield 62, 3) := by decide +kernel
theorem dX1_append_80 : decode cX1_append 80 = .ok (.aload_n 0, 1) := by decide +kernel
theorem dX1_append_81 : decode cX1_append 81 = .ok (.getfield 87, 3) := by decide +kernel
theorem dX1_append_84 : decode cX1_append 84 = .ok (.isub, 1) := by decide +kernel
theorem dX1_append_85 : decode cX1_append 85 = .ok (.iload 4, 2) := by decide +kernel
theorem dX1_append_87 : decode cX1_append 87 = .ok (.iadd, 1) := by decide +kernel
theorem dX1_append_88 : decode cX1_append 88 = .ok (.iconst 5, 1) := by decide +kernel
theorem dX1_append_89 : decode cX1_append 89 = .ok (.iadd, 1) := by decide +kernel
theorem dX1_append_90 : decode cX1_append 90 = .ok (.ldc 13, 2) := by decide +kernel
theorem dX1_append_92 : decode cX1_append 92 = .ok (.if_icmp .le 5, 3) := by decide +kernel
theorem dX1_append_95 : decode cX1_append 95 = .ok (.iconst (-1), 1) := by decide +kernel
theorem dX1_append_96 : decode cX1_append 96 = .ok (.ireturn, 1) := by decide +kernel
theorem dX1_append_97 : decode cX1_append 97 = .ok (.aload_n 0, 1) := by decide +kernel
theorem dX1_append_98 : decode cX1_append 98 = .ok (.getfield 23, 3) := by decide +kernel
theorem dX1_append_101 : decode cX1_append 101 = .ok (.aload_n 0, 1) := by decide +kernel
theorem dX1_append_102 : decode cX1_append 102 = .ok (.getfield 46, 3) := by decide +kernel
theorem dX1_append_105 : decode cX1_append 105 = .ok (.iload_n 1, 1) := by decide +kernel
theorem dX1_append_106 : decode cX1_append 106 = .ok (.iastore, 1) := by decide +kernel
theorem dX1_append_107 : decode cX1_append 107 = .ok (.aload_n 0, 1) := by decide +kernel
theorem dX1_append_108 : decode cX1_append 108 = .ok (.getfield 26, 3) := by decide +kernel
theorem dX1_append_111 : decode cX1_append 111 = .ok (.aload_n 0, 1) := by decide +kernel
theorem dX1_append_112 : decode cX1_append 112 = .ok (.getfield 46, 3) := by decide +kernel
theorem dX1_append_115 : decode cX1_append 115 = .ok (.iload_n 2, 1) := by decide +kernel
theorem dX1_append_116 : decode cX1_append 116 = .ok (.iastore, 1) := by decide +kernel
theorem dX1_append_117 : decode cX1_append 117 = .ok (.aload_n 0, 1) := by decide +kernel
theorem dX1_append_118 : decode cX1_append 118 = .ok (.getfield 29, 3) := by decide +kernel
theorem dX1_append_121 : decode cX1_append 121 = .ok (.aload_n 0, 1) := by decide +kernel
theorem dX1_append_122 : decode cX1_append 122 = .ok (.getfield 46, 3) := by decide +kernel
theorem dX1_append_125 : decode cX1_append 125 = .ok (.aload_n 0, 1) := by decide +kernel
theorem dX1_append_126 : decode cX1_append 126 = .ok (.iload_n 2, 1) := by decide +kernel
theorem dX1_append_127 : decode cX1_append 127 = .ok (.invokevirtual 90, 3) := by decide +kernel
theorem dX1_append_130 : decode cX1_append 130 = .ok (.iastore, 1) := by decide +kernel
theorem dX1_append_131 : decode cX1_append 131 = .ok (.aload_n 0, 1) := by decide +kernel
theorem dX1_append_132 : decode cX1_append 132 = .ok (.getfield 32, 3) := by decide +kernel
theorem dX1_append_135 : decode cX1_append 135 = .ok (.aload_n 0, 1) := by decide +kernel
theorem dX1_append_136 : decode cX1_append 136 = .ok (.getfield 46, 3) := by decide +kernel
theorem dX1_append_139 : decode cX1_append 139 = .ok (.iload_n 3, 1) := by decide +kernel
theorem dX1_append_140 : decode cX1_append 140 = .ok (.iastore, 1) := by decide +kernel
theorem dX1_append_141 : decode cX1_append 141 = .ok (.iconst 0, 1) := by decide +kernel
theorem dX1_append_142 : decode cX1_append 142 = .ok (.istore 6, 2) := by decide +kernel
theorem dX1_append_144 : decode cX1_append 144 = .ok (.iload 6, 2) := by decide +kernel
theorem dX1_append_146 : decode cX1_append 146 = .ok (.iload 4, 2) := by decide +kernel
theorem dX1_append_148 : decode cX1_append 148 = .ok (.if_icmp .ge 33, 3) := by decide +kernel
theorem dX1_append_151 : decode cX1_append 151 = .ok (.aload_n 0, 1) := by decide +kernel
theorem dX1_append_152 : decode cX1_append 152 = .ok (.getfield 14, 3) := by decide +kernel
theorem dX1_append_155 : decode cX1_append 155 = .ok (.aload_n 0, 1) := by decide +kernel
theorem dX1_append_156 : decode cX1_append 156 = .ok (.getfield 62, 3) := by decide +kernel
theorem dX1_append_159 : decode cX1_append 159 = .ok (.iconst 4, 1) := by decide +kernel
theorem dX1_append_160 : decode cX1_append 160 = .ok (.iadd, 1) := by decide +kernel
theorem dX1_append_161 : decode cX1_append 161 = .ok (.iload 6, 2) := by decide +kernel
theorem dX1_append_163 : decode cX1_append 163 = .ok (.iadd, 1) := by decide +kernel
theorem dX1_append_164 : decode cX1_append 164 = .ok (.ldc 13, 2) := by decide +kernel
theorem dX1_append_166 : decode cX1_append 166 = .ok (.irem, 1) := by decide +kernel
theorem dX1_append_167 : decode cX1_append 167 = .ok (.aload_n 0, 1) := by decide +kernel
theorem dX1_append_168 : decode cX1_append 168 = .ok (.getfield 7, 3) := by decide +kernel
theorem dX1_append_171 : decode cX1_append 171 = .ok (.iload 6, 2) := by decide +kernel
theorem dX1_append_173 : decode cX1_append 173 = .ok (.iaload, 1) := by decide +kernel
theorem dX1_append_174 : decode cX1_append 174 = .ok (.iastore, 1) := by decide +kernel
theorem dX1_append_175 : decode cX1_append 175 = .ok (.iinc 6 1, 3) := by decide +kernel
theorem dX1_append_178 : decode cX1_append 178 = .ok (.goto (-34), 3) := by decide +kernel
theorem dX1_append_181 : decode cX1_append 181 = .ok (.aload_n 0, 1) := by decide +kernel
theorem dX1_append_182 : decode cX1_append 182 = .ok (.aload_n 0, 1) := by decide +kernel
theorem dX1_append_183 : decode cX1_append 183 = .ok (.getfield 62, 3) := by decide +kernel
theorem dX1_append_186 : decode cX1_append 186 = .ok (.iload 4, 2) := by decide +kernel
theorem dX1_append_188 : decode cX1_append 188 = .ok (.iconst 5, 1) := by decide +kernel
theorem dX1_append_189 : decode cX1_append 189 = .ok (.iadd, 1) := by decide +kernel
theorem dX1_append_190 : decode cX1_append 190 = .ok (.iconst 0, 1) := by decide +kernel
theorem dX1_append_191 : decode cX1_append 191 = .ok (.invokevirtual 79, 3) := by decide +kernel
theorem dX1_append_194 : decode cX1_append 194 = .ok (.aload_n 0, 1) := by decide +kernel
theorem dX1_append_195 : decode cX1_append 195 = .ok (.aload_n 0, 1) := by decide +kernel
theorem dX1_append_196 : decode cX1_append 196 = .ok (.getfield 62, 3) := by decide +kernel
theorem dX1_append_199 : decode cX1_append 199 = .ok (.iload 4, 2) := by decide +kernel
theorem dX1_append_201 : decode cX1_append 201 = .ok (.iadd, 1) := by decide +kernel
theorem dX1_append_202 : decode cX1_append 202 = .ok (.iconst 5, 1) := by decide +kernel
theorem dX1_append_203 : decode cX1_append 203 = .ok (.iadd, 1) := by decide +kernel
theorem dX1_append_204 : decode cX1_append 204 = .ok (.putfield 62, 3) := by decide +kernel
theorem dX1_append_207 : decode cX1_append 207 = .ok (.aload_n 0, 1) := by decide +kernel
theorem dX1_append_208 : decode cX1_append 208 = .ok (.getfield 62, 3) := by decide +kernel
theorem dX1_append_211 : decode cX1_append 211 = .ok (.iload 4, 2) := by decide +kernel
theorem dX1_append_213 : decode cX1_append 213 = .ok (.isub, 1) := by decide +kernel
theorem dX1_append_214 : decode cX1_append 214 = .ok (.iconst 5, 1) := by decide +kernel
theorem dX1_append_215 : decode cX1_append 215 = .ok (.isub, 1) := by decide +kernel
theorem dX1_append_216 : decode cX1_append 216 = .ok (.ireturn, 1) := by decide +kernel
theorem dX1_back_0 : decode cX1_back 0 = .ok (.aload_n 0, 1) := by decide +kernel
theorem dX1_back_1 : decode cX1_back 1 = .ok (.aload_n 0, 1) := by decide +kernel
theorem dX1_back_2 : decode cX1_back 2 = .ok (.getfield 55, 3) := by decide +kernel
theorem dX1_back_5 : decode cX1_back 5 = .ok (.iload_n 1, 1) := by decide +kernel
theorem dX1_back_6 : decode cX1_back 6 = .ok (.iconst 0, 1) := by decide +kernel
theorem dX1_back_7 : decode cX1_back 7 = .ok (.bipush 7, 2) := by decide +kernel
theorem dX1_back_9 : decode cX1_back 9 = .ok (.invokestatic 83, 3) := by decide +kernel
theorem dX1_back_12 : decode cX1_back 12 = .ok (.ifCond .eq 7, 3) := by decide +kernel
theorem dX1_back_15 : decode cX1_back 15 = .ok (.iload_n 3, 1) := by decide +kernel
theorem dX1_back_16 : decode cX1_back 16 = .ok (.ifCond .ge 7, 3) := by decide +kernel
theorem dX1_back_19 : decode cX1_back 19 = .ok (.iconst 1, 1) := by decide +kernel
theorem dX1_back_20 : decode cX1_back 20 = .ok (.goto 4, 3) := by decide +kernel
theorem dX1_back_23 : decode cX1_back 23 = .ok (.iconst 0, 1) := by decide +kernel
theorem dX1_back_24 : decode cX1_back 24 = .ok (.iconst 0, 1) := by decide +kernel
theorem dX1_back_25 : decode cX1_back 25 = .ok (.invokevirtual 75, 3) := by decide +kernel
theorem dX1_back_28 : decode cX1_back 28 = .ok (.ifCond .eq 5, 3) := by decide +kernel
theorem dX1_back_31 : decode cX1_back 31 = .ok (.iconst 0, 1) := by decide +kernel
theorem dX1_back_32 : decode cX1_back 32 = .ok (.ireturn, 1) := by decide +kernel
theorem dX1_back_33 : decode cX1_back 33 = .ok (.aload_n 0, 1) := by decide +kernel
theorem dX1_back_34 : decode cX1_back 34 = .ok (.iload_n 1, 1) := by decide +kernel
theorem dX1_back_35 : decode cX1_back 35 = .ok (.invokevirtual 90, 3) := by decide +kernel
theorem dX1_back_38 : decode cX1_back 38 = .ok (.istore 4, 2) := by decide +kernel
theorem dX1_back_40 : decode cX1_back 40 = .ok (.iload_n 3, 1) := by decide +kernel
theorem dX1_back_41 : decode cX1_back 41 = .ok (.istore 5, 2) := by decide +kernel
theorem dX1_back_43 : decode cX1_back 43 = .ok (.iload 4, 2) := by decide +kernel
theorem dX1_back_45 : decode cX1_back 45 = .ok (.ifCond .lt 78, 3) := by decide +kernel
theorem dX1_back_48 : decode cX1_back 48 = .ok (.aload_n 0, 1) := by decide +kernel
theorem dX1_back_49 : decode cX1_back 49 = .ok (.iload 4, 2) := by decide +kernel
theorem dX1_back_51 : decode cX1_back 51 = .ok (.invokevirtual 97, 3) := by decide +kernel
theorem dX1_back_54 : decode cX1_back 54 = .ok (.ifCond .lt 69, 3) := by decide +kernel
theorem dX1_back_57 : decode cX1_back 57 = .ok (.aload_n 0, 1) := by decide +kernel
theorem dX1_back_58 : decode cX1_back 58 = .ok (.iload 4, 2) := by decide +kernel
theorem dX1_back_60 : decode cX1_back 60 = .ok (.invokevirtual 97, 3) := by decide +kernel
theorem dX1_back_63 : decode cX1_back 63 = .ok (.istore 6, 2) := by decide +kernel
theorem dX1_back_65 : decode cX1_back 65 = .ok (.iload_n 2, 1) := by decide +kernel
theorem dX1_back_66 : decode cX1_back 66 = .ok (.aload_n 0, 1) := by decide +kernel
theorem dX1_back_67 : decode cX1_back 67 = .ok (.getfield 23, 3) := by decide +kernel
theorem dX1_back_70 : decode cX1_back 70 = .ok (.iload 6, 2) := by decide +kernel
theorem dX1_back_72 : decode cX1_back 72 = .ok (.iaload, 1) := by decide +kernel
theorem dX1_back_73 : decode cX1_back 73 = .ok (.ishr, 1) := by decide +kernel
theorem dX1_back_74 : decode cX1_back 74 = .ok (.iconst 1, 1) := by decide +kernel
theorem dX1_back_75 : decode cX1_back 75 = .ok (.iand, 1) := by decide +kernel
theorem dX1_back_76 : decode cX1_back 76 = .ok (.iconst 1, 1) := by decide +kernel
theorem dX1_back_77 : decode cX1_back 77 = .ok (.if_icmp .ne 14, 3) := by decide +kernel
theorem dX1_back_80 : decode cX1_back 80 = .ok (.iload 5, 2) := by decide +kernel
theorem dX1_back_82 : decode cX1_back 82 = .ok (.ifCond .ne 6, 3) := by decide +kernel
theorem dX1_back_85 : decode cX1_back 85 = .ok (.iload 4, 2) := by decide +kernel
theorem dX1_back_87 : decode cX1_back 87 = .ok (.ireturn, 1) := by decide +kernel
theorem dX1_back_88 : decode cX1_back 88 = .ok (.iinc 5 (-1), 3) := by decide +kernel
theorem dX1_back_91 : decode cX1_back 91 = .ok (.aload_n 0, 1) := by decide +kernel
theorem dX1_back_92 : decode cX1_back 92 = .ok (.getfield 32, 3) := by decide +kernel
theorem dX1_back_95 : decode cX1_back 95 = .ok (.iload 6, 2) := by decide +kernel
theorem dX1_back_97 : decode cX1_back 97 = .ok (.iaload, 1) := by decide +kernel
theorem dX1_back_98 : decode cX1_back 98 = .ok (.ifCond .lt 13, 3) := by decide +kernel
theorem dX1_back_101 : decode cX1_back 101 = .ok (.aload_n 0, 1) := by decide +kernel
theorem dX1_back_102 : decode cX1_back 102 = .ok (.getfield 32, 3) := by decide +kernel
theorem dX1_back_105 : decode cX1_back 105 = .ok (.iload 6, 2) := by decide +kernel
theorem dX1_back_107 : decode cX1_back 107 = .ok (.iaload, 1) := by decide +kernel
theorem dX1_back_108 : decode cX1_back 108 = .ok (.goto 10, 3) := by decide +kernel
theorem dX1_back_111 : decode cX1_back 111 = .ok (.aload_n 0, 1) := by decide +kernel
theorem dX1_back_112 : decode cX1_back 112 = .ok (.getfield 29, 3) := by decide +kernel
theorem dX1_back_115 : decode cX1_back 115 = .ok (.iload 6, 2) := by decide +kernel
theorem dX1_back_117 : decode cX1_back 117 = .ok (.iaload, 1) := by decide +kernel
theorem dX1_back_118 : decode cX1_back 118 = .ok (.istore 4, 2) := by decide +kernel
theorem dX1_back_120 : decode cX1_back 120 = .ok (.goto (-77), 3) := by decide +kernel
theorem dX1_back_123 : decode cX1_back 123 = .ok (.iconst (-1), 1) := by decide +kernel
theorem dX1_back_124 : decode cX1_back 124 = .ok (.ireturn, 1) := by decide +kernel
