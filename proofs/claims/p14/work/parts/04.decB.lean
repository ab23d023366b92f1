theorem dX1_init_0 : decode cX1_init 0 = .ok (.aload_n 0, 1) := by decide +kernel
theorem dX1_init_1 : decode cX1_init 1 = .ok (.invokespecial 1, 3) := by decide +kernel
theorem dX1_init_4 : decode cX1_init 4 = .ok (.aload_n 0, 1) := by decide +kernel
theorem dX1_init_5 : decode cX1_init 5 = .ok (.sipush 200, 3) := by decide +kernel
theorem dX1_init_8 : decode cX1_init 8 = .ok (.newarray .int, 2) := by decide +kernel
theorem dX1_init_10 : decode cX1_init 10 = .ok (.putfield 7, 3) := by decide +kernel
theorem dX1_init_13 : decode cX1_init 13 = .ok (.aload_n 0, 1) := by decide +kernel
theorem dX1_init_14 : decode cX1_init 14 = .ok (.ldc 13, 2) := by decide +kernel
theorem dX1_init_16 : decode cX1_init 16 = .ok (.newarray .int, 2) := by decide +kernel
theorem dX1_init_18 : decode cX1_init 18 = .ok (.putfield 14, 3) := by decide +kernel
theorem dX1_init_21 : decode cX1_init 21 = .ok (.aload_n 0, 1) := by decide +kernel
theorem dX1_init_22 : decode cX1_init 22 = .ok (.sipush 4400, 3) := by decide +kernel
theorem dX1_init_25 : decode cX1_init 25 = .ok (.newarray .int, 2) := by decide +kernel
theorem dX1_init_27 : decode cX1_init 27 = .ok (.putfield 17, 3) := by decide +kernel
theorem dX1_init_30 : decode cX1_init 30 = .ok (.aload_n 0, 1) := by decide +kernel
theorem dX1_init_31 : decode cX1_init 31 = .ok (.sipush 4400, 3) := by decide +kernel
theorem dX1_init_34 : decode cX1_init 34 = .ok (.newarray .int, 2) := by decide +kernel
theorem dX1_init_36 : decode cX1_init 36 = .ok (.putfield 20, 3) := by decide +kernel
theorem dX1_init_39 : decode cX1_init 39 = .ok (.aload_n 0, 1) := by decide +kernel
theorem dX1_init_40 : decode cX1_init 40 = .ok (.sipush 4400, 3) := by decide +kernel
theorem dX1_init_43 : decode cX1_init 43 = .ok (.newarray .int, 2) := by decide +kernel
theorem dX1_init_45 : decode cX1_init 45 = .ok (.putfield 23, 3) := by decide +kernel
theorem dX1_init_48 : decode cX1_init 48 = .ok (.aload_n 0, 1) := by decide +kernel
theorem dX1_init_49 : decode cX1_init 49 = .ok (.sipush 4400, 3) := by decide +kernel
theorem dX1_init_52 : decode cX1_init 52 = .ok (.newarray .int, 2) := by decide +kernel
theorem dX1_init_54 : decode cX1_init 54 = .ok (.putfield 26, 3) := by decide +kernel
theorem dX1_init_57 : decode cX1_init 57 = .ok (.aload_n 0, 1) := by decide +kernel
theorem dX1_init_58 : decode cX1_init 58 = .ok (.sipush 4400, 3) := by decide +kernel
theorem dX1_init_61 : decode cX1_init 61 = .ok (.newarray .int, 2) := by decide +kernel
theorem dX1_init_63 : decode cX1_init 63 = .ok (.putfield 29, 3) := by decide +kernel
theorem dX1_init_66 : decode cX1_init 66 = .ok (.aload_n 0, 1) := by decide +kernel
theorem dX1_init_67 : decode cX1_init 67 = .ok (.sipush 4400, 3) := by decide +kernel
theorem dX1_init_70 : decode cX1_init 70 = .ok (.newarray .int, 2) := by decide +kernel
theorem dX1_init_72 : decode cX1_init 72 = .ok (.putfield 32, 3) := by decide +kernel
theorem dX1_init_75 : decode cX1_init 75 = .ok (.aload_n 0, 1) := by decide +kernel
theorem dX1_init_76 : decode cX1_init 76 = .ok (.sipush 4400, 3) := by decide +kernel
theorem dX1_init_79 : decode cX1_init 79 = .ok (.newarray .boolean, 2) := by decide +kernel
theorem dX1_init_81 : decode cX1_init 81 = .ok (.putfield 35, 3) := by decide +kernel
theorem dX1_init_84 : decode cX1_init 84 = .ok (.aload_n 0, 1) := by decide +kernel
theorem dX1_init_85 : decode cX1_init 85 = .ok (.iconst (-1), 1) := by decide +kernel
theorem dX1_init_86 : decode cX1_init 86 = .ok (.putfield 39, 3) := by decide +kernel
theorem dX1_init_89 : decode cX1_init 89 = .ok (.aload_n 0, 1) := by decide +kernel
theorem dX1_init_90 : decode cX1_init 90 = .ok (.iconst (-1), 1) := by decide +kernel
theorem dX1_init_91 : decode cX1_init 91 = .ok (.putfield 43, 3) := by decide +kernel
theorem dX1_init_94 : decode cX1_init 94 = .ok (.aload_n 0, 1) := by decide +kernel
theorem dX1_init_95 : decode cX1_init 95 = .ok (.iconst 0, 1) := by decide +kernel
theorem dX1_init_96 : decode cX1_init 96 = .ok (.putfield 46, 3) := by decide +kernel
theorem dX1_init_99 : decode cX1_init 99 = .ok (.return_, 1) := by decide +kernel
theorem dX1_thrown_0 : decode cX1_thrown 0 = .ok (.aload_n 0, 1) := by decide +kernel
theorem dX1_thrown_1 : decode cX1_thrown 1 = .ok (.getfield 49, 3) := by decide +kernel
theorem dX1_thrown_4 : decode cX1_thrown 4 = .ok (.ireturn, 1) := by decide +kernel
theorem dX1_refused_0 : decode cX1_refused 0 = .ok (.aload_n 0, 1) := by decide +kernel
theorem dX1_refused_1 : decode cX1_refused 1 = .ok (.iload_n 1, 1) := by decide +kernel
theorem dX1_refused_2 : decode cX1_refused 2 = .ok (.ifCond .eq 7, 3) := by decide +kernel
theorem dX1_refused_5 : decode cX1_refused 5 = .ok (.iconst 1, 1) := by decide +kernel
theorem dX1_refused_6 : decode cX1_refused 6 = .ok (.goto 20, 3) := by decide +kernel
theorem dX1_refused_9 : decode cX1_refused 9 = .ok (.iload_n 2, 1) := by decide +kernel
theorem dX1_refused_10 : decode cX1_refused 10 = .ok (.ifCond .eq 7, 3) := by decide +kernel
theorem dX1_refused_13 : decode cX1_refused 13 = .ok (.iconst 2, 1) := by decide +kernel
theorem dX1_refused_14 : decode cX1_refused 14 = .ok (.goto 12, 3) := by decide +kernel
theorem dX1_refused_17 : decode cX1_refused 17 = .ok (.iload_n 3, 1) := by decide +kernel
theorem dX1_refused_18 : decode cX1_refused 18 = .ok (.ifCond .eq 7, 3) := by decide +kernel
theorem dX1_refused_21 : decode cX1_refused 21 = .ok (.iconst 3, 1) := by decide +kernel
theorem dX1_refused_22 : decode cX1_refused 22 = .ok (.goto 4, 3) := by decide +kernel
theorem dX1_refused_25 : decode cX1_refused 25 = .ok (.iconst 0, 1) := by decide +kernel
theorem dX1_refused_26 : decode cX1_refused 26 = .ok (.putfield 49, 3) := by decide +kernel
theorem dX1_refused_29 : decode cX1_refused 29 = .ok (.aload_n 0, 1) := by decide +kernel
theorem dX1_refused_30 : decode cX1_refused 30 = .ok (.getfield 49, 3) := by decide +kernel
theorem dX1_refused_33 : decode cX1_refused 33 = .ok (.ifCond .le 7, 3) := by decide +kernel
theorem dX1_refused_36 : decode cX1_refused 36 = .ok (.iconst 1, 1) := by decide +kernel
theorem dX1_refused_37 : decode cX1_refused 37 = .ok (.goto 4, 3) := by decide +kernel
theorem dX1_refused_40 : decode cX1_refused 40 = .ok (.iconst 0, 1) := by decide +kernel
theorem dX1_refused_41 : decode cX1_refused 41 = .ok (.ireturn, 1) := by decide +kernel
theorem dX1_in_0 : decode cX1_in 0 = .ok (.iload_n 0, 1) := by decide +kernel
theorem dX1_in_1 : decode cX1_in 1 = .ok (.iload_n 1, 1) := by decide +kernel
theorem dX1_in_2 : decode cX1_in 2 = .ok (.if_icmp .lt 12, 3) := by decide +kernel
theorem dX1_in_5 : decode cX1_in 5 = .ok (.iload_n 0, 1) := by decide +kernel
theorem dX1_in_6 : decode cX1_in 6 = .ok (.iload_n 2, 1) := by decide +kernel
theorem dX1_in_7 : decode cX1_in 7 = .ok (.if_icmp .gt 7, 3) := by decide +kernel
theorem dX1_in_10 : decode cX1_in 10 = .ok (.iconst 1, 1) := by decide +kernel
theorem dX1_in_11 : decode cX1_in 11 = .ok (.goto 4, 3) := by decide +kernel
theorem dX1_in_14 : decode cX1_in 14 = .ok (.iconst 0, 1) := by decide +kernel
theorem dX1_in_15 : decode cX1_in 15 = .ok (.ireturn, 1) := by decide +kernel
theorem dX1_rowOf_0 : decode cX1_rowOf 0 = .ok (.iconst (-1), 1) := by decide +kernel
theorem dX1_rowOf_1 : decode cX1_rowOf 1 = .ok (.istore_n 2, 1) := by decide +kernel
theorem dX1_rowOf_2 : decode cX1_rowOf 2 = .ok (.aload_n 0, 1) := by decide +kernel
theorem dX1_rowOf_3 : decode cX1_rowOf 3 = .ok (.getfield 52, 3) := by decide +kernel
theorem dX1_rowOf_6 : decode cX1_rowOf 6 = .ok (.istore_n 3, 1) := by decide +kernel
theorem dX1_rowOf_7 : decode cX1_rowOf 7 = .ok (.iload_n 3, 1) := by decide +kernel
theorem dX1_rowOf_8 : decode cX1_rowOf 8 = .ok (.aload_n 0, 1) := by decide +kernel
theorem dX1_rowOf_9 : decode cX1_rowOf 9 = .ok (.getfield 46, 3) := by decide +kernel
theorem dX1_rowOf_12 : decode cX1_rowOf 12 = .ok (.if_icmp .ge 34, 3) := by decide +kernel
theorem dX1_rowOf_15 : decode cX1_rowOf 15 = .ok (.aload_n 0, 1) := by decide +kernel
theorem dX1_rowOf_16 : decode cX1_rowOf 16 = .ok (.getfield 17, 3) := by decide +kernel
theorem dX1_rowOf_19 : decode cX1_rowOf 19 = .ok (.iload_n 3, 1) := by decide +kernel
theorem dX1_rowOf_20 : decode cX1_rowOf 20 = .ok (.iaload, 1) := by decide +kernel
theorem dX1_rowOf_21 : decode cX1_rowOf 21 = .ok (.iload_n 1, 1) := by decide +kernel
theorem dX1_rowOf_22 : decode cX1_rowOf 22 = .ok (.if_icmp .ne 16, 3) := by decide +kernel
theorem dX1_rowOf_25 : decode cX1_rowOf 25 = .ok (.aload_n 0, 1) := by decide +kernel
theorem dX1_rowOf_26 : decode cX1_rowOf 26 = .ok (.getfield 35, 3) := by decide +kernel
theorem dX1_rowOf_29 : decode cX1_rowOf 29 = .ok (.iload_n 3, 1) := by decide +kernel
theorem dX1_rowOf_30 : decode cX1_rowOf 30 = .ok (.baload, 1) := by decide +kernel
theorem dX1_rowOf_31 : decode cX1_rowOf 31 = .ok (.ifCond .ne 7, 3) := by decide +kernel
theorem dX1_rowOf_34 : decode cX1_rowOf 34 = .ok (.iload_n 3, 1) := by decide +kernel
theorem dX1_rowOf_35 : decode cX1_rowOf 35 = .ok (.goto 4, 3) := by decide +kernel
theorem dX1_rowOf_38 : decode cX1_rowOf 38 = .ok (.iload_n 2, 1) := by decide +kernel
theorem dX1_rowOf_39 : decode cX1_rowOf 39 = .ok (.istore_n 2, 1) := by decide +kernel
theorem dX1_rowOf_40 : decode cX1_rowOf 40 = .ok (.iinc 3 1, 3) := by decide +kernel
theorem dX1_rowOf_43 : decode cX1_rowOf 43 = .ok (.goto (-36), 3) := by decide +kernel
theorem dX1_rowOf_46 : decode cX1_rowOf 46 = .ok (.iload_n 2, 1) := by decide +kernel
theorem dX1_rowOf_47 : decode cX1_rowOf 47 = .ok (.ireturn, 1) := by decide +kernel
theorem dX1_endOf_0 : decode cX1_endOf 0 = .ok (.aload_n 0, 1) := by decide +kernel
theorem dX1_endOf_1 : decode cX1_endOf 1 = .ok (.getfield 17, 3) := by decide +kernel
theorem dX1_endOf_4 : decode cX1_endOf 4 = .ok (.iload_n 1, 1) := by decide +kernel
theorem dX1_endOf_5 : decode cX1_endOf 5 = .ok (.iaload, 1) := by decide +kernel
theorem dX1_endOf_6 : decode cX1_endOf 6 = .ok (.aload_n 0, 1) := by decide +kernel
theorem dX1_endOf_7 : decode cX1_endOf 7 = .ok (.getfield 20, 3) := by decide +kernel
theorem dX1_endOf_10 : decode cX1_endOf 10 = .ok (.iload_n 1, 1) := by decide +kernel
theorem dX1_endOf_11 : decode cX1_endOf 11 = .ok (.iaload, 1) := by decide +kernel
theorem dX1_endOf_12 : decode cX1_endOf 12 = .ok (.iadd, 1) := by decide +kernel
theorem dX1_endOf_13 : decode cX1_endOf 13 = .ok (.ireturn, 1) := by decide +kernel
theorem dX1_fail_0 : decode cX1_fail 0 = .ok (.aload_n 0, 1) := by decide +kernel
theorem dX1_fail_1 : decode cX1_fail 1 = .ok (.iconst 1, 1) := by decide +kernel
theorem dX1_fail_2 : decode cX1_fail 2 = .ok (.putfield 55, 3) := by decide +kernel
theorem dX1_fail_5 : decode cX1_fail 5 = .ok (.aload_n 0, 1) := by decide +kernel
theorem dX1_fail_6 : decode cX1_fail 6 = .ok (.iconst (-1), 1) := by decide +kernel
theorem dX1_fail_7 : decode cX1_fail 7 = .ok (.putfield 39, 3) := by decide +kernel
theorem dX1_fail_10 : decode cX1_fail 10 = .ok (.aload_n 0, 1) := by decide +kernel
theorem dX1_fail_11 : decode cX1_fail 11 = .ok (.aload_n 0, 1) := by decide +kernel
theorem dX1_fail_12 : decode cX1_fail 12 = .ok (.getfield 59, 3) := by decide +kernel
theorem dX1_fail_15 : decode cX1_fail 15 = .ok (.putfield 62, 3) := by decide +kernel
theorem dX1_fail_18 : decode cX1_fail 18 = .ok (.iconst 0, 1) := by decide +kernel
theorem dX1_fail_19 : decode cX1_fail 19 = .ok (.istore_n 1, 1) := by decide +kernel
theorem dX1_fail_20 : decode cX1_fail 20 = .ok (.iload_n 1, 1) := by decide +kernel
theorem dX1_fail_21 : decode cX1_fail 21 = .ok (.sipush 200, 3) := by decide +kernel
theorem dX1_fail_24 : decode cX1_fail 24 = .ok (.if_icmp .ge 16, 3) := by decide +kernel
theorem dX1_fail_27 : decode cX1_fail 27 = .ok (.aload_n 0, 1) := by decide +kernel
theorem dX1_fail_28 : decode cX1_fail 28 = .ok (.getfield 7, 3) := by decide +kernel
theorem dX1_fail_31 : decode cX1_fail 31 = .ok (.iload_n 1, 1) := by decide +kernel
theorem dX1_fail_32 : decode cX1_fail 32 = .ok (.iconst 0, 1) := by decide +kernel
theorem dX1_fail_33 : decode cX1_fail 33 = .ok (.iastore, 1) := by decide +kernel
theorem dX1_fail_34 : decode cX1_fail 34 = .ok (.iinc 1 1, 3) := by decide +kernel
theorem dX1_fail_37 : decode cX1_fail 37 = .ok (.goto (-17), 3) := by decide +kernel
theorem dX1_fail_40 : decode cX1_fail 40 = .ok (.aload_n 0, 1) := by decide +kernel
theorem dX1_fail_41 : decode cX1_fail 41 = .ok (.getfield 46, 3) := by decide +kernel
theorem dX1_fail_44 : decode cX1_fail 44 = .ok (.aload_n 0, 1) := by decide +kernel
theorem dX1_fail_45 : decode cX1_fail 45 = .ok (.getfield 52, 3) := by decide +kernel
theorem dX1_fail_48 : decode cX1_fail 48 = .ok (.if_icmp .le 75, 3) := by decide +kernel
theorem dX1_fail_51 : decode cX1_fail 51 = .ok (.aload_n 0, 1) := by decide +kernel
theorem dX1_fail_52 : decode cX1_fail 52 = .ok (.aload_n 0, 1) := by decide +kernel
theorem dX1_fail_53 : decode cX1_fail 53 = .ok (.getfield 46, 3) := by decide +kernel
theorem dX1_fail_56 : decode cX1_fail 56 = .ok (.iconst 1, 1) := by decide +kernel
theorem dX1_fail_57 : decode cX1_fail 57 = .ok (.isub, 1) := by decide +kernel
theorem dX1_fail_58 : decode cX1_fail 58 = .ok (.invokevirtual 65, 3) := by decide +kernel
theorem dX1_fail_61 : decode cX1_fail 61 = .ok (.aload_n 0, 1) := by decide +kernel
theorem dX1_fail_62 : decode cX1_fail 62 = .ok (.getfield 59, 3) := by decide +kernel
theorem dX1_fail_65 : decode cX1_fail 65 = .ok (.if_icmp .le 58, 3) := by decide +kernel
theorem dX1_fail_68 : decode cX1_fail 68 = .ok (.aload_n 0, 1) := by decide +kernel
theorem dX1_fail_69 : decode cX1_fail 69 = .ok (.dup, 1) := by decide +kernel
theorem dX1_fail_70 : decode cX1_fail 70 = .ok (.getfield 46, 3) := by decide +kernel
theorem dX1_fail_73 : decode cX1_fail 73 = .ok (.iconst 1, 1) := by decide +kernel
theorem dX1_fail_74 : decode cX1_fail 74 = .ok (.isub, 1) := by decide +kernel
theorem dX1_fail_75 : decode cX1_fail 75 = .ok (.putfield 46, 3) := by decide +kernel
theorem dX1_fail_78 : decode cX1_fail 78 = .ok (.aload_n 0, 1) := by decide +kernel
theorem dX1_fail_79 : decode cX1_fail 79 = .ok (.getfield 17, 3) := by decide +kernel
theorem dX1_fail_82 : decode cX1_fail 82 = .ok (.aload_n 0, 1) := by decide +kernel
theorem dX1_fail_83 : decode cX1_fail 83 = .ok (.getfield 46, 3) := by decide +kernel
theorem dX1_fail_86 : decode cX1_fail 86 = .ok (.iaload, 1) := by decide +kernel
theorem dX1_fail_87 : decode cX1_fail 87 = .ok (.aload_n 0, 1) := by decide +kernel
theorem dX1_fail_88 : decode cX1_fail 88 = .ok (.getfield 59, 3) := by decide +kernel
theorem dX1_fail_91 : decode cX1_fail 91 = .ok (.if_icmp .ge (-51), 3) := by decide +kernel
theorem dX1_fail_94 : decode cX1_fail 94 = .ok (.aload_n 0, 1) := by decide +kernel
theorem dX1_fail_95 : decode cX1_fail 95 = .ok (.aload_n 0, 1) := by decide +kernel
theorem dX1_fail_96 : decode cX1_fail 96 = .ok (.getfield 17, 3) := by decide +kernel
theorem dX1_fail_99 : decode cX1_fail 99 = .ok (.aload_n 0, 1) := by decide +kernel
theorem dX1_fail_100 : decode cX1_fail 100 = .ok (.getfield 46, 3) := by decide +kernel
theorem dX1_fail_103 : decode cX1_fail 103 = .ok (.iaload, 1) := by decide +kernel
theorem dX1_fail_104 : decode cX1_fail 104 = .ok (.putfield 43, 3) := by decide +kernel
theorem dX1_fail_107 : decode cX1_fail 107 = .ok (.aload_n 0, 1) := by decide +kernel
theorem dX1_fail_108 : decode cX1_fail 108 = .ok (.aload_n 0, 1) := by decide +kernel
theorem dX1_fail_109 : decode cX1_fail 109 = .ok (.getfield 20, 3) := by decide +kernel
theorem dX1_fail_112 : decode cX1_fail 112 = .ok (.aload_n 0, 1) := by decide +kernel
theorem dX1_fail_113 : decode cX1_fail 113 = .ok (.getfield 46, 3) := by decide +kernel
theorem dX1_fail_116 : decode cX1_fail 116 = .ok (.iaload, 1) := by decide +kernel
theorem dX1_fail_117 : decode cX1_fail 117 = .ok (.putfield 69, 3) := by decide +kernel
theorem dX1_fail_120 : decode cX1_fail 120 = .ok (.goto (-80), 3) := by decide +kernel
theorem dX1_fail_123 : decode cX1_fail 123 = .ok (.return_, 1) := by decide +kernel
theorem dX1_canWrite_0 : decode cX1_canWrite 0 = .ok (.aload_n 0, 1) := by decide +kernel
theorem dX1_canWrite_1 : decode cX1_canWrite 1 = .ok (.getfield 39, 3) := by decide +kernel
theorem dX1_canWrite_4 : decode cX1_canWrite 4 = .ok (.ifCond .ne 9, 3) := by decide +kernel
theorem dX1_canWrite_7 : decode cX1_canWrite 7 = .ok (.aload_n 0, 1) := by decide +kernel
theorem dX1_canWrite_8 : decode cX1_canWrite 8 = .ok (.invokevirtual 72, 3) := by decide +kernel
theorem dX1_canWrite_11 : decode cX1_canWrite 11 = .ok (.iconst 0, 1) := by decide +kernel
theorem dX1_canWrite_12 : decode cX1_canWrite 12 = .ok (.ireturn, 1) := by decide +kernel
theorem dX1_canWrite_13 : decode cX1_canWrite 13 = .ok (.aload_n 0, 1) := by decide +kernel
theorem dX1_canWrite_14 : decode cX1_canWrite 14 = .ok (.aload_n 0, 1) := by decide +kernel
theorem dX1_canWrite_15 : decode cX1_canWrite 15 = .ok (.getfield 39, 3) := by decide +kernel
theorem dX1_canWrite_18 : decode cX1_canWrite 18 = .ok (.ifCond .le 12, 3) := by decide +kernel
theorem dX1_canWrite_21 : decode cX1_canWrite 21 = .ok (.aload_n 0, 1) := by decide +kernel
theorem dX1_canWrite_22 : decode cX1_canWrite 22 = .ok (.getfield 39, 3) := by decide +kernel
theorem dX1_canWrite_25 : decode cX1_canWrite 25 = .ok (.iconst 1, 1) := by decide +kernel
theorem dX1_canWrite_26 : decode cX1_canWrite 26 = .ok (.isub, 1) := by decide +kernel
theorem dX1_canWrite_27 : decode cX1_canWrite 27 = .ok (.goto 7, 3) := by decide +kernel
theorem dX1_canWrite_30 : decode cX1_canWrite 30 = .ok (.aload_n 0, 1) := by decide +kernel
theorem dX1_canWrite_31 : decode cX1_canWrite 31 = .ok (.getfield 39, 3) := by decide +kernel
theorem dX1_canWrite_34 : decode cX1_canWrite 34 = .ok (.putfield 39, 3) := by decide +kernel
theorem dX1_canWrite_37 : decode cX1_canWrite 37 = .ok (.iconst 1, 1) := by decide +kernel
theorem dX1_canWrite_38 : decode cX1_canWrite 38 = .ok (.ireturn, 1) := by decide +kernel
theorem dX1_cutAfter_0 : decode cX1_cutAfter 0 = .ok (.aload_n 0, 1) := by decide +kernel
theorem dX1_cutAfter_1 : decode cX1_cutAfter 1 = .ok (.iload_n 1, 1) := by decide +kernel
theorem dX1_cutAfter_2 : decode cX1_cutAfter 2 = .ok (.iconst (-1), 1) := by decide +kernel
theorem dX1_cutAfter_3 : decode cX1_cutAfter 3 = .ok (.if_icmp .ge 7, 3) := by decide +kernel
theorem dX1_cutAfter_6 : decode cX1_cutAfter 6 = .ok (.iconst 1, 1) := by decide +kernel
theorem dX1_cutAfter_7 : decode cX1_cutAfter 7 = .ok (.goto 4, 3) := by decide +kernel
theorem dX1_cutAfter_10 : decode cX1_cutAfter 10 = .ok (.iconst 0, 1) := by decide +kernel
theorem dX1_cutAfter_11 : decode cX1_cutAfter 11 = .ok (.iconst 0, 1) := by decide +kernel
theorem dX1_cutAfter_12 : decode cX1_cutAfter 12 = .ok (.iconst 0, 1) := by decide +kernel
theorem dX1_cutAfter_13 : decode cX1_cutAfter 13 = .ok (.invokevirtual 75, 3) := by decide +kernel
theorem dX1_cutAfter_16 : decode cX1_cutAfter 16 = .ok (.ifCond .ne 8, 3) := by decide +kernel
theorem dX1_cutAfter_19 : decode cX1_cutAfter 19 = .ok (.aload_n 0, 1) := by decide +kernel
theorem dX1_cutAfter_20 : decode cX1_cutAfter 20 = .ok (.iload_n 1, 1) := by decide +kernel
theorem dX1_cutAfter_21 : decode cX1_cutAfter 21 = .ok (.putfield 39, 3) := by decide +kernel
theorem dX1_cutAfter_24 : decode cX1_cutAfter 24 = .ok (.return_, 1) := by decide +kernel
theorem dX1_cut_0 : decode cX1_cut 0 = .ok (.aload_n 0, 1) := by decide +kernel
theorem dX1_cut_1 : decode cX1_cut 1 = .ok (.iconst 0, 1) := by decide +kernel
theorem dX1_cut_2 : decode cX1_cut 2 = .ok (.putfield 49, 3) := by decide +kernel
theorem dX1_cut_5 : decode cX1_cut 5 = .ok (.aload_n 0, 1) := by decide +kernel
theorem dX1_cut_6 : decode cX1_cut 6 = .ok (.getfield 55, 3) := by decide +kernel
theorem dX1_cut_9 : decode cX1_cut 9 = .ok (.ifCond .eq 5, 3) := by decide +kernel
theorem dX1_cut_12 : decode cX1_cut 12 = .ok (.iconst 0, 1) := by decide +kernel
theorem dX1_cut_13 : decode cX1_cut 13 = .ok (.ireturn, 1) := by decide +kernel
theorem dX1_cut_14 : decode cX1_cut 14 = .ok (.aload_n 0, 1) := by decide +kernel
theorem dX1_cut_15 : decode cX1_cut 15 = .ok (.invokevirtual 72, 3) := by decide +kernel
theorem dX1_cut_18 : decode cX1_cut 18 = .ok (.iconst 1, 1) := by decide +kernel
theorem dX1_cut_19 : decode cX1_cut 19 = .ok (.ireturn, 1) := by decide +kernel
theorem dX1_isOpen_0 : decode cX1_isOpen 0 = .ok (.aload_n 0, 1) := by decide +kernel
theorem dX1_isOpen_1 : decode cX1_isOpen 1 = .ok (.iconst 0, 1) := by decide +kernel
theorem dX1_isOpen_2 : decode cX1_isOpen 2 = .ok (.putfield 49, 3) := by decide +kernel
theorem dX1_isOpen_5 : decode cX1_isOpen 5 = .ok (.aload_n 0, 1) := by decide +kernel
theorem dX1_isOpen_6 : decode cX1_isOpen 6 = .ok (.getfield 55, 3) := by decide +kernel
theorem dX1_isOpen_9 : decode cX1_isOpen 9 = .ok (.ifCond .ne 7, 3) := by decide +kernel
theorem dX1_isOpen_12 : decode cX1_isOpen 12 = .ok (.iconst 1, 1) := by decide +kernel
theorem dX1_isOpen_13 : decode cX1_isOpen 13 = .ok (.goto 4, 3) := by decide +kernel
theorem dX1_isOpen_16 : decode cX1_isOpen 16 = .ok (.iconst 0, 1) := by decide +kernel
theorem dX1_isOpen_17 : decode cX1_isOpen 17 = .ok (.ireturn, 1) := by decide +kernel
theorem dX1_addRow_0 : decode cX1_addRow 0 = .ok (.aload_n 0, 1) := by decide +kernel
theorem dX1_addRow_1 : decode cX1_addRow 1 = .ok (.getfield 17, 3) := by decide +kernel
theorem dX1_addRow_4 : decode cX1_addRow 4 = .ok (.aload_n 0, 1) := by decide +kernel
theorem dX1_addRow_5 : decode cX1_addRow 5 = .ok (.getfield 46, 3) := by decide +kernel
theorem dX1_addRow_8 : decode cX1_addRow 8 = .ok (.iload_n 1, 1) := by decide +kernel
theorem dX1_addRow_9 : decode cX1_addRow 9 = .ok (.iastore, 1) := by decide +kernel
theorem dX1_addRow_10 : decode cX1_addRow 10 = .ok (.aload_n 0, 1) := by decide +kernel
theorem dX1_addRow_11 : decode cX1_addRow 11 = .ok (.getfield 20, 3) := by decide +kernel
theorem dX1_addRow_14 : decode cX1_addRow 14 = .ok (.aload_n 0, 1) := by decide +kernel
theorem dX1_addRow_15 : decode cX1_addRow 15 = .ok (.getfield 46, 3) := by decide +kernel
theorem dX1_addRow_18 : decode cX1_addRow 18 = .ok (.iload_n 2, 1) := by decide +kernel
theorem dX1_addRow_19 : decode cX1_addRow 19 = .ok (.iastore, 1) := by decide +kernel
theorem dX1_addRow_20 : decode cX1_addRow 20 = .ok (.aload_n 0, 1) := by decide +kernel
theorem dX1_addRow_21 : decode cX1_addRow 21 = .ok (.getfield 35, 3) := by decide +kernel
theorem dX1_addRow_24 : decode cX1_addRow 24 = .ok (.aload_n 0, 1) := by decide +kernel
theorem dX1_addRow_25 : decode cX1_addRow 25 = .ok (.getfield 46, 3) := by decide +kernel
theorem dX1_addRow_28 : decode cX1_addRow 28 = .ok (.iload_n 3, 1) := by decide +kernel
theorem dX1_addRow_29 : decode cX1_addRow 29 = .ok (.bastore, 1) := by decide +kernel
theorem dX1_addRow_30 : decode cX1_addRow 30 = .ok (.aload_n 0, 1) := by decide +kernel
theorem dX1_addRow_31 : decode cX1_addRow 31 = .ok (.dup, 1) := by decide +kernel
theorem dX1_addRow_32 : decode cX1_addRow 32 = .ok (.getfield 46, 3) := by decide +kernel
theorem dX1_addRow_35 : decode cX1_addRow 35 = .ok (.iconst 1, 1) := by decide +kernel
theorem dX1_addRow_36 : decode cX1_addRow 36 = .ok (.iadd, 1) := by decide +kernel
theorem dX1_addRow_37 : decode cX1_addRow 37 = .ok (.putfield 46, 3) := by decide +kernel
theorem dX1_addRow_40 : decode cX1_addRow 40 = .ok (.return_, 1) := by decide +kernel
theorem dX1_open_0 : decode cX1_open 0 = .ok (.aload_n 0, 1) := by decide +kernel
theorem dX1_open_1 : decode cX1_open 1 = .ok (.aload_n 0, 1) := by decide +kernel
theorem dX1_open_2 : decode cX1_open 2 = .ok (.getfield 55, 3) := by decide +kernel
theorem dX1_open_5 : decode cX1_open 5 = .ok (.ifCond .ne 7, 3) := by decide +kernel
theorem dX1_open_8 : decode cX1_open 8 = .ok (.iconst 1, 1) := by decide +kernel
theorem dX1_open_9 : decode cX1_open 9 = .ok (.goto 4, 3) := by decide +kernel
theorem dX1_open_12 : decode cX1_open 12 = .ok (.iconst 0, 1) := by decide +kernel
theorem dX1_open_13 : decode cX1_open 13 = .ok (.iconst 0, 1) := by decide +kernel
theorem dX1_open_14 : decode cX1_open 14 = .ok (.iconst 0, 1) := by decide +kernel
theorem dX1_open_15 : decode cX1_open 15 = .ok (.invokevirtual 75, 3) := by decide +kernel
theorem dX1_open_18 : decode cX1_open 18 = .ok (.ifCond .eq 5, 3) := by decide +kernel
theorem dX1_open_21 : decode cX1_open 21 = .ok (.iconst 0, 1) := by decide +kernel
theorem dX1_open_22 : decode cX1_open 22 = .ok (.ireturn, 1) := by decide +kernel
theorem dX1_open_23 : decode cX1_open 23 = .ok (.iconst 0, 1) := by decide +kernel
theorem dX1_open_24 : decode cX1_open 24 = .ok (.istore_n 1, 1) := by decide +kernel
theorem dX1_open_25 : decode cX1_open 25 = .ok (.aload_n 0, 1) := by decide +kernel
theorem dX1_open_26 : decode cX1_open 26 = .ok (.getfield 43, 3) := by decide +kernel
theorem dX1_open_29 : decode cX1_open 29 = .ok (.ifCond .lt 81, 3) := by decide +kernel
theorem dX1_open_32 : decode cX1_open 32 = .ok (.aload_n 0, 1) := by decide +kernel
theorem dX1_open_33 : decode cX1_open 33 = .ok (.getfield 59, 3) := by decide +kernel
theorem dX1_open_36 : decode cX1_open 36 = .ok (.aload_n 0, 1) := by decide +kernel
theorem dX1_open_37 : decode cX1_open 37 = .ok (.getfield 43, 3) := by decide +kernel
theorem dX1_open_40 : decode cX1_open 40 = .ok (.aload_n 0, 1) := by decide +kernel
theorem dX1_open_41 : decode cX1_open 41 = .ok (.getfield 69, 3) := by decide +kernel
theorem dX1_open_44 : decode cX1_open 44 = .ok (.iadd, 1) := by decide +kernel
theorem dX1_open_45 : decode cX1_open 45 = .ok (.if_icmp .ge 65, 3) := by decide +kernel
theorem dX1_open_48 : decode cX1_open 48 = .ok (.aload_n 0, 1) := by decide +kernel
theorem dX1_open_49 : decode cX1_open 49 = .ok (.getfield 39, 3) := by decide +kernel
theorem dX1_open_52 : decode cX1_open 52 = .ok (.ifCond .ne 18, 3) := by decide +kernel
theorem dX1_open_55 : decode cX1_open 55 = .ok (.aload_n 0, 1) := by decide +kernel
theorem dX1_open_56 : decode cX1_open 56 = .ok (.iconst (-1), 1) := by decide +kernel
theorem dX1_open_57 : decode cX1_open 57 = .ok (.putfield 39, 3) := by decide +kernel
theorem dX1_open_60 : decode cX1_open 60 = .ok (.aload_n 0, 1) := by decide +kernel
theorem dX1_open_61 : decode cX1_open 61 = .ok (.aload_n 0, 1) := by decide +kernel
theorem dX1_open_62 : decode cX1_open 62 = .ok (.getfield 59, 3) := by decide +kernel
theorem dX1_open_65 : decode cX1_open 65 = .ok (.putfield 62, 3) := by decide +kernel
theorem dX1_open_68 : decode cX1_open 68 = .ok (.iconst (-1), 1) := by decide +kernel
theorem dX1_open_69 : decode cX1_open 69 = .ok (.ireturn, 1) := by decide +kernel
theorem dX1_open_70 : decode cX1_open 70 = .ok (.aload_n 0, 1) := by decide +kernel
theorem dX1_open_71 : decode cX1_open 71 = .ok (.aload_n 0, 1) := by decide +kernel
theorem dX1_open_72 : decode cX1_open 72 = .ok (.getfield 39, 3) := by decide +kernel
theorem dX1_open_75 : decode cX1_open 75 = .ok (.ifCond .le 12, 3) := by decide +kernel
theorem dX1_open_78 : decode cX1_open 78 = .ok (.aload_n 0, 1) := by decide +kernel
theorem dX1_open_79 : decode cX1_open 79 = .ok (.getfield 39, 3) := by decide +kernel
theorem dX1_open_82 : decode cX1_open 82 = .ok (.iconst 1, 1) := by decide +kernel
theorem dX1_open_83 : decode cX1_open 83 = .ok (.isub, 1) := by decide +kernel
theorem dX1_open_84 : decode cX1_open 84 = .ok (.goto 7, 3) := by decide +kernel
theorem dX1_open_87 : decode cX1_open 87 = .ok (.aload_n 0, 1) := by decide +kernel
theorem dX1_open_88 : decode cX1_open 88 = .ok (.getfield 39, 3) := by decide +kernel
theorem dX1_open_91 : decode cX1_open 91 = .ok (.putfield 39, 3) := by decide +kernel
theorem dX1_open_94 : decode cX1_open 94 = .ok (.aload_n 0, 1) := by decide +kernel
theorem dX1_open_95 : decode cX1_open 95 = .ok (.dup, 1) := by decide +kernel
theorem dX1_open_96 : decode cX1_open 96 = .ok (.getfield 59, 3) := by decide +kernel
theorem dX1_open_99 : decode cX1_open 99 = .ok (.iconst 1, 1) := by decide +kernel
theorem dX1_open_100 : decode cX1_open 100 = .ok (.iadd, 1) := by decide +kernel
theorem dX1_open_101 : decode cX1_open 101 = .ok (.putfield 59, 3) := by decide +kernel
theorem dX1_open_104 : decode cX1_open 104 = .ok (.iinc 1 1, 3) := by decide +kernel
theorem dX1_open_107 : decode cX1_open 107 = .ok (.goto (-82), 3) := by decide +kernel
theorem dX1_open_110 : decode cX1_open 110 = .ok (.aload_n 0, 1) := by decide +kernel
theorem dX1_open_111 : decode cX1_open 111 = .ok (.aload_n 0, 1) := by decide +kernel
theorem dX1_open_112 : decode cX1_open 112 = .ok (.getfield 59, 3) := by decide +kernel
theorem dX1_open_115 : decode cX1_open 115 = .ok (.putfield 62, 3) := by decide +kernel
theorem dX1_open_118 : decode cX1_open 118 = .ok (.aload_n 0, 1) := by decide +kernel
theorem dX1_open_119 : decode cX1_open 119 = .ok (.getfield 43, 3) := by decide +kernel
theorem dX1_open_122 : decode cX1_open 122 = .ok (.ifCond .lt 16, 3) := by decide +kernel
theorem dX1_open_125 : decode cX1_open 125 = .ok (.aload_n 0, 1) := by decide +kernel
theorem dX1_open_126 : decode cX1_open 126 = .ok (.aload_n 0, 1) := by decide +kernel
theorem dX1_open_127 : decode cX1_open 127 = .ok (.getfield 43, 3) := by decide +kernel
theorem dX1_open_130 : decode cX1_open 130 = .ok (.aload_n 0, 1) := by decide +kernel
theorem dX1_open_131 : decode cX1_open 131 = .ok (.getfield 69, 3) := by decide +kernel
theorem dX1_open_134 : decode cX1_open 134 = .ok (.iconst 1, 1) := by decide +kernel
theorem dX1_open_135 : decode cX1_open 135 = .ok (.invokevirtual 79, 3) := by decide +kernel
theorem dX1_open_138 : decode cX1_open 138 = .ok (.aload_n 0, 1) := by decide +kernel
theorem dX1_open_139 : decode cX1_open 139 = .ok (.iconst (-1), 1) := by decide +kernel
theorem dX1_open_140 : decode cX1_open 140 = .ok (.putfield 43, 3) := by decide +kernel
theorem dX1_open_143 : decode cX1_open 143 = .ok (.aload_n 0, 1) := by decide +kernel
theorem dX1_open_144 : decode cX1_open 144 = .ok (.iconst 0, 1) := by decide +kernel
theorem dX1_open_145 : decode cX1_open 145 = .ok (.putfield 55, 3) := by decide +kernel
theorem dX1_open_148 : decode cX1_open 148 = .ok (.iload_n 1, 1) := by decide +kernel
theorem dX1_open_149 : decode cX1_open 149 = .ok (.ireturn, 1) := by decide +kernel
theorem dX1_set_0 : decode cX1_set 0 = .ok (.aload_n 0, 1) := by decide +kernel
theorem dX1_set_1 : decode cX1_set 1 = .ok (.aload_n 0, 1) := by decide +kernel
theorem dX1_set_2 : decode cX1_set 2 = .ok (.getfield 55, 3) := by decide +kernel
theorem dX1_set_5 : decode cX1_set 5 = .ok (.iload_n 1, 1) := by decide +kernel
theorem dX1_set_6 : decode cX1_set 6 = .ok (.iconst 0, 1) := by decide +kernel
theorem dX1_set_7 : decode cX1_set 7 = .ok (.sipush 199, 3) := by decide +kernel
theorem dX1_set_10 : decode cX1_set 10 = .ok (.invokestatic 83, 3) := by decide +kernel
theorem dX1_set_13 : decode cX1_set 13 = .ok (.ifCond .ne 7, 3) := by decide +kernel
theorem dX1_set_16 : decode cX1_set 16 = .ok (.iconst 1, 1) := by decide +kernel
theorem dX1_set_17 : decode cX1_set 17 = .ok (.goto 4, 3) := by decide +kernel
theorem dX1_set_20 : decode cX1_set 20 = .ok (.iconst 0, 1) := by decide +kernel
theorem dX1_set_21 : decode cX1_set 21 = .ok (.iconst 0, 1) := by decide +kernel
theorem dX1_set_22 : decode cX1_set 22 = .ok (.invokevirtual 75, 3) := by decide +kernel
theorem dX1_set_25 : decode cX1_set 25 = .ok (.ifCond .ne 10, 3) := by decide +kernel
theorem dX1_set_28 : decode cX1_set 28 = .ok (.aload_n 0, 1) := by decide +kernel
theorem dX1_set_29 : decode cX1_set 29 = .ok (.getfield 7, 3) := by decide +kernel
theorem dX1_set_32 : decode cX1_set 32 = .ok (.iload_n 1, 1) := by decide +kernel
theorem dX1_set_33 : decode cX1_set 33 = .ok (.iload_n 2, 1) := by decide +kernel
theorem dX1_set_34 : decode cX1_set 34 = .ok (.iastore, 1) := by decide +kernel
theorem dX1_set_35 : decode cX1_set 35 = .ok (.return_, 1) := by decide +kernel
theorem dX1_fill_0 : decode cX1_fill 0 = .ok (.aload_n 0, 1) := by decide +kernel
theorem dX1_fill_1 : decode cX1_fill 1 = .ok (.aload_n 0, 1) := by decide +kernel
theorem dX1_fill_2 : decode cX1_fill 2 = .ok (.getfield 55, 3) := by decide +kernel
theorem dX1_fill_5 : decode cX1_fill 5 = .ok (.iconst 0, 1) := by decide +kernel
theorem dX1_fill_6 : decode cX1_fill 6 = .ok (.iconst 0, 1) := by decide +kernel
theorem dX1_fill_7 : decode cX1_fill 7 = .ok (.invokevirtual 75, 3) := by decide +kernel
theorem dX1_fill_10 : decode cX1_fill 10 = .ok (.ifCond .ne 29, 3) := by decide +kernel
theorem dX1_fill_13 : decode cX1_fill 13 = .ok (.iconst 0, 1) := by decide +kernel
theorem dX1_fill_14 : decode cX1_fill 14 = .ok (.istore_n 3, 1) := by decide +kernel
theorem dX1_fill_15 : decode cX1_fill 15 = .ok (.iload_n 3, 1) := by decide +kernel
theorem dX1_fill_16 : decode cX1_fill 16 = .ok (.sipush 200, 3) := by decide +kernel
theorem dX1_fill_19 : decode cX1_fill 19 = .ok (.if_icmp .ge 20, 3) := by decide +kernel
theorem dX1_fill_22 : decode cX1_fill 22 = .ok (.aload_n 0, 1) := by decide +kernel
theorem dX1_fill_23 : decode cX1_fill 23 = .ok (.getfield 7, 3) := by decide +kernel
theorem dX1_fill_26 : decode cX1_fill 26 = .ok (.iload_n 3, 1) := by decide +kernel
theorem dX1_fill_27 : decode cX1_fill 27 = .ok (.iload_n 1, 1) := by decide +kernel
theorem dX1_fill_28 : decode cX1_fill 28 = .ok (.iload_n 3, 1) := by decide +kernel
theorem dX1_fill_29 : decode cX1_fill 29 = .ok (.iload_n 2, 1) := by decide +kernel
theorem dX1_fill_30 : decode cX1_fill 30 = .ok (.imul, 1) := by decide +kernel
theorem dX1_fill_31 : decode cX1_fill 31 = .ok (.iadd, 1) := by decide +kernel
theorem dX1_fill_32 : decode cX1_fill 32 = .ok (.iastore, 1) := by decide +kernel
theorem dX1_fill_33 : decode cX1_fill 33 = .ok (.iinc 3 1, 3) := by decide +kernel
theorem dX1_fill_36 : decode cX1_fill 36 = .ok (.goto (-21), 3) := by decide +kernel
theorem dX1_fill_39 : decode cX1_fill 39 = .ok (.return_, 1) := by decide +kernel
theorem dX1_latestOf_0 : decode cX1_latestOf 0 = .ok (.iconst (-1), 1) := by decide +kernel
theorem dX1_latestOf_1 : decode cX1_latestOf 1 = .ok (.istore_n 2, 1) := by decide +kernel
theorem dX1_latestOf_2 : decode cX1_latestOf 2 = .ok (.aload_n 0, 1) := by decide +kernel
theorem dX1_latestOf_3 : decode cX1_latestOf 3 = .ok (.getfield 52, 3) := by decide +kernel
theorem dX1_latestOf_6 : decode cX1_latestOf 6 = .ok (.istore_n 3, 1) := by decide +kernel
theorem dX1_latestOf_7 : decode cX1_latestOf 7 = .ok (.iload_n 3, 1) := by decide +kernel
theorem dX1_latestOf_8 : decode cX1_latestOf 8 = .ok (.aload_n 0, 1) := by decide +kernel
theorem dX1_latestOf_9 : decode cX1_latestOf 9 = .ok (.getfield 46, 3) := by decide +kernel
theorem dX1_latestOf_12 : decode cX1_latestOf 12 = .ok (.if_icmp .ge 39, 3) := by decide +kernel
theorem dX1_latestOf_15 : decode cX1_latestOf 15 = .ok (.aload_n 0, 1) := by decide +kernel
theorem dX1_latestOf_16 : decode cX1_latestOf 16 = .ok (.getfield 35, 3) := by decide +kernel
theorem dX1_latestOf_19 : decode cX1_latestOf 19 = .ok (.iload_n 3, 1) := by decide +kernel
theorem dX1_latestOf_20 : decode cX1_latestOf 20 = .ok (.baload, 1) := by decide +kernel
theorem dX1_latestOf_21 : decode cX1_latestOf 21 = .ok (.ifCond .ne 22, 3) := by decide +kernel
theorem dX1_latestOf_24 : decode cX1_latestOf 24 = .ok (.aload_n 0, 1) := by decide +kernel
theorem dX1_latestOf_25 : decode cX1_latestOf 25 = .ok (.getfield 26, 3) := by decide +kernel
theorem dX1_latestOf_28 : decode cX1_latestOf 28 = .ok (.iload_n 3, 1) := by decide +kernel
theorem dX1_latestOf_29 : decode cX1_latestOf 29 = .ok (.iaload, 1) := by decide +kernel
theorem dX1_latestOf_30 : decode cX1_latestOf 30 = .ok (.iload_n 1, 1) := by decide +kernel
theorem dX1_latestOf_31 : decode cX1_latestOf 31 = .ok (.if_icmp .ne 12, 3) := by decide +kernel
theorem dX1_latestOf_34 : decode cX1_latestOf 34 = .ok (.aload_n 0, 1) := by decide +kernel
theorem dX1_latestOf_35 : decode cX1_latestOf 35 = .ok (.getfield 17, 3) := by decide +kernel
theorem dX1_latestOf_38 : decode cX1_latestOf 38 = .ok (.iload_n 3, 1) := by decide +kernel
theorem dX1_latestOf_39 : decode cX1_latestOf 39 = .ok (.iaload, 1) := by decide +kernel
theorem dX1_latestOf_40 : decode cX1_latestOf 40 = .ok (.goto 4, 3) := by decide +kernel
theorem dX1_latestOf_43 : decode cX1_latestOf 43 = .ok (.iload_n 2, 1) := by decide +kernel
theorem dX1_latestOf_44 : decode cX1_latestOf 44 = .ok (.istore_n 2, 1) := by decide +kernel
theorem dX1_latestOf_45 : decode cX1_latestOf 45 = .ok (.iinc 3 1, 3) := by decide +kernel
theorem dX1_latestOf_48 : decode cX1_latestOf 48 = .ok (.goto (-41), 3) := by decide +kernel
theorem dX1_latestOf_51 : decode cX1_latestOf 51 = .ok (.iload_n 2, 1) := by decide +kernel
theorem dX1_latestOf_52 : decode cX1_latestOf 52 = .ok (.ireturn, 1) := by decide +kernel
theorem dX1_append_0 : decode cX1_append 0 = .ok (.iload_n 1, 1) := by decide +kernel
theorem dX1_append_1 : decode cX1_append 1 = .ok (.iconst 0, 1) := by decide +kernel
theorem dX1_append_2 : decode cX1_append 2 = .ok (.bipush 15, 2) := by decide +kernel
theorem dX1_append_4 : decode cX1_append 4 = .ok (.invokestatic 83, 3) := by decide +kernel
theorem dX1_append_7 : decode cX1_append 7 = .ok (.ifCond .eq 42, 3) := by decide +kernel
theorem dX1_append_10 : decode cX1_append 10 = .ok (.iload_n 2, 1) := by decide +kernel
theorem dX1_append_11 : decode cX1_append 11 = .ok (.iconst 0, 1) := by decide +kernel
theorem dX1_append_12 : decode cX1_append 12 = .ok (.bipush 7, 2) := by decide +kernel
theorem dX1_append_14 : decode cX1_append 14 = .ok (.invokestatic 83, 3) := by decide +kernel
theorem dX1_append_17 : decode cX1_append 17 = .ok (.ifCond .eq 32, 3) := by decide +kernel
theorem dX1_append_20 : decode cX1_append 20 = .ok (.iload 4, 2) := by decide +kernel
theorem dX1_append_22 : decode cX1_append 22 = .ok (.iconst 0, 1) := by decide +kernel
theorem dX1_append_23 : decode cX1_append 23 = .ok (.sipush 200, 3) := by decide +kernel
theorem dX1_append_26 : decode cX1_append 26 = .ok (.invokestatic 83, 3) := by decide +kernel
theorem dX1_append_29 : decode cX1_append 29 = .ok (.ifCond .eq 20, 3) := by decide +kernel
theorem dX1_append_32 : decode cX1_append 32 = .ok (.iload_n 3, 1) := by decide +kernel
theorem dX1_append_33 : decode cX1_append 33 = .ok (.iconst (-1), 1) := by decide +kernel
theorem dX1_append_34 : decode cX1_append 34 = .ok (.if_icmp .lt 15, 3) := by decide +kernel
theorem dX1_append_37 : decode cX1_append 37 = .ok (.iload_n 3, 1) := by decide +kernel
theorem dX1_append_38 : decode cX1_append 38 = .ok (.aload_n 0, 1) := by decide +kernel
theorem dX1_append_39 : decode cX1_append 39 = .ok (.getfield 62, 3) := by decide +kernel
theorem dX1_append_42 : decode cX1_append 42 = .ok (.if_icmp .ge 7, 3) := by decide +kernel
theorem dX1_append_45 : decode cX1_append 45 = .ok (.iconst 1, 1) := by decide +kernel
theorem dX1_append_46 : decode cX1_append 46 = .ok (.goto 4, 3) := by decide +kernel
theorem dX1_append_49 : decode cX1_append 49 = .ok (.iconst 0, 1) := by decide +kernel
theorem dX1_append_50 : decode cX1_append 50 = .ok (.istore 5, 2) := by decide +kernel
theorem dX1_append_52 : decode cX1_append 52 = .ok (.aload_n 0, 1) := by decide +kernel
theorem dX1_append_53 : decode cX1_append 53 = .ok (.aload_n 0, 1) := by decide +kernel
theorem dX1_append_54 : decode cX1_append 54 = .ok (.getfield 55, 3) := by decide +kernel
theorem dX1_append_57 : decode cX1_append 57 = .ok (.iload 5, 2) := by decide +kernel
theorem dX1_append_59 : decode cX1_append 59 = .ok (.ifCond .ne 7, 3) := by decide +kernel
theorem dX1_append_62 : decode cX1_append 62 = .ok (.iconst 1, 1) := by decide +kernel
theorem dX1_append_63 : decode cX1_append 63 = .ok (.goto 4, 3) := by decide +kernel
theorem dX1_append_66 : decode cX1_append 66 = .ok (.iconst 0, 1) := by decide +kernel
theorem dX1_append_67 : decode cX1_append 67 = .ok (.iconst 0, 1) := by decide +kernel
theorem dX1_append_68 : decode cX1_append 68 = .ok (.invokevirtual 75, 3) := by decide +kernel
theorem dX1_append_71 : decode cX1_append 71 = .ok (.ifCond .eq 5, 3) := by decide +kernel
theorem dX1_append_74 : decode cX1_append 74 = .ok (.iconst 0, 1) := by decide +kernel
theorem dX1_append_75 : decode cX1_append 75 = .ok (.ireturn, 1) := by decide +kernel
theorem dX1_append_76 : decode cX1_append 76 = .ok (.aload_n 0, 1) := by decide +kernel
theorem dX1_append_77 : decode cX1_append 77 = .ok (.getfield 62, 3) := by decide +kernel
theorem dX1_append_80 : decode cX1_append 80 = .ok (.aload_n 0, 1) := by decide +kernel
theorem dX1_append_81 : decode cX1_append 81 = .ok (.getfield 87, 3) := by decide +kernel
theorem dX1_append_84 : decode cX1_append 84 = .ok (.isub, 1) := by decide +kernel
theorem dX1_append_85 : decode cX1_append 85 = .ok (.iload 4, 2) := by decide +kernel
theorem dX1_append_87 : decode cX1_append 87 = .ok (.iadd, 1) := by decide +kernel
theorem dX1_append_88 : decode cX1_append 88 = .ok (.iconst 5, 1) := by decide +kernel
theorem dX1_append_89 : decode cX1_append 89 = .ok (.iadd, 1) := by decide +kernel
theorem dX1_append_90 : decode cX1_append 90 = .ok (.ldc 13, 2) := by decide +kernel
theorem dX1_append_92 : decode cX1_append 92 = .ok (.if_icmp .le 5, 3) := by decide +kernel
theorem dX1_append_95 : decode cX1_append 95 = .ok (.iconst (-1), 1) := by decide +kernel
theorem dX1_append_96 : decode cX1_append 96 = .ok (.ireturn, 1) := by decide +kernel
theorem dX1_append_97 : decode cX1_append 97 = .ok (.aload_n 0, 1) := by decide +kernel
theorem dX1_append_98 : decode cX1_append 98 = .ok (.getfield 23, 3) := by decide +kernel
theorem dX1_append_101 : decode cX1_append 101 = .ok (.aload_n 0, 1) := by decide +kernel
theorem dX1_append_102 : decode cX1_append 102 = .ok (.getfield 46, 3) := by decide +kernel
theorem dX1_append_105 : decode cX1_append 105 = .ok (.iload_n 1, 1) := by decide +kernel
theorem dX1_append_106 : decode cX1_append 106 = .ok (.iastore, 1) := by decide +kernel
theorem dX1_append_107 : decode cX1_append 107 = .ok (.aload_n 0, 1) := by decide +kernel
theorem dX1_append_108 : decode cX1_append 108 = .ok (.getfield 26, 3) := by decide +kernel
theorem dX1_append_111 : decode cX1_append 111 = .ok (.aload_n 0, 1) := by decide +kernel
theorem dX1_append_112 : decode cX1_append 112 = .ok (.getfield 46, 3) := by decide +kernel
theorem dX1_append_115 : decode cX1_append 115 = .ok (.iload_n 2, 1) := by decide +kernel
theorem dX1_append_116 : decode cX1_append 116 = .ok (.iastore, 1) := by decide +kernel
theorem dX1_append_117 : decode cX1_append 117 = .ok (.aload_n 0, 1) := by decide +kernel
theorem dX1_append_118 : decode cX1_append 118 = .ok (.getfield 29, 3) := by decide +kernel
theorem dX1_append_121 : decode cX1_append 121 = .ok (.aload_n 0, 1) := by decide +kernel
theorem dX1_append_122 : decode cX1_append 122 = .ok (.getfield 46, 3) := by decide +kernel
theorem dX1_append_125 : decode cX1_append 125 = .ok (.aload_n 0, 1) := by decide +kernel
theorem dX1_append_126 : decode cX1_append 126 = .ok (.iload_n 2, 1) := by decide +kernel
theorem dX1_append_127 : decode cX1_append 127 = .ok (.invokevirtual 90, 3) := by decide +kernel
theorem dX1_append_130 : decode cX1_append 130 = .ok (.iastore, 1) := by decide +kernel
theorem dX1_append_131 : decode cX1_append 131 = .ok (.aload_n 0, 1) := by decide +kernel
theorem dX1_append_132 : decode cX1_append 132 = .ok (.getfield 32, 3) := by decide +kernel
theorem dX1_append_135 : decode cX1_append 135 = .ok (.aload_n 0, 1) := by decide +kernel
theorem dX1_append_136 : decode cX1_append 136 = .ok (.getfield 46, 3) := by decide +kernel
theorem dX1_append_139 : decode cX1_append 139 = .ok (.iload_n 3, 1) := by decide +kernel
theorem dX1_append_140 : decode cX1_append 140 = .ok (.iastore, 1) := by decide +kernel
theorem dX1_append_141 : decode cX1_append 141 = .ok (.iconst 0, 1) := by decide +kernel
theorem dX1_append_142 : decode cX1_append 142 = .ok (.istore 6, 2) := by decide +kernel
theorem dX1_append_144 : decode cX1_append 144 = .ok (.iload 6, 2) := by decide +kernel
theorem dX1_append_146 : decode cX1_append 146 = .ok (.iload 4, 2) := by decide +kernel
theorem dX1_append_148 : decode cX1_append 148 = .ok (.if_icmp .ge 33, 3) := by decide +kernel
theorem dX1_append_151 : decode cX1_append 151 = .ok (.aload_n 0, 1) := by decide +kernel
theorem dX1_append_152 : decode cX1_append 152 = .ok (.getfield 14, 3) := by decide +kernel
theorem dX1_append_155 : decode cX1_append 155 = .ok (.aload_n 0, 1) := by decide +kernel
theorem dX1_append_156 : decode cX1_append 156 = .ok (.getfield 62, 3) := by decide +kernel
theorem dX1_append_159 : decode cX1_append 159 = .ok (.iconst 4, 1) := by decide +kernel
theorem dX1_append_160 : decode cX1_append 160 = .ok (.iadd, 1) := by decide +kernel
theorem dX1_append_161 : decode cX1_append 161 = .ok (.iload 6, 2) := by decide +kernel
theorem dX1_append_163 : decode cX1_append 163 = .ok (.iadd, 1) := by decide +kernel
theorem dX1_append_164 : decode cX1_append 164 = .ok (.ldc 13, 2) := by decide +kernel
theorem dX1_append_166 : decode cX1_append 166 = .ok (.irem, 1) := by decide +kernel
theorem dX1_append_167 : decode cX1_append 167 = .ok (.aload_n 0, 1) := by decide +kernel
theorem dX1_append_168 : decode cX1_append 168 = .ok (.getfield 7, 3) := by decide +kernel
theorem dX1_append_171 : decode cX1_append 171 = .ok (.iload 6, 2) := by decide +kernel
theorem dX1_append_173 : decode cX1_append 173 = .ok (.iaload, 1) := by decide +kernel
theorem dX1_append_174 : decode cX1_append 174 = .ok (.iastore, 1) := by decide +kernel
theorem dX1_append_175 : decode cX1_append 175 = .ok (.iinc 6 1, 3) := by decide +kernel
theorem dX1_append_178 : decode cX1_append 178 = .ok (.goto (-34), 3) := by decide +kernel
theorem dX1_append_181 : decode cX1_append 181 = .ok (.aload_n 0, 1) := by decide +kernel
theorem dX1_append_182 : decode cX1_append 182 = .ok (.aload_n 0, 1) := by decide +kernel
theorem dX1_append_183 : decode cX1_append 183 = .ok (.getfield 62, 3) := by decide +kernel
theorem dX1_append_186 : decode cX1_append 186 = .ok (.iload 4, 2) := by decide +kernel
theorem dX1_append_188 : decode cX1_append 188 = .ok (.iconst 5, 1) := by decide +kernel
theorem dX1_append_189 : decode cX1_append 189 = .ok (.iadd, 1) := by decide +kernel
theorem dX1_append_190 : decode cX1_append 190 = .ok (.iconst 0, 1) := by decide +kernel
theorem dX1_append_191 : decode cX1_append 191 = .ok (.invokevirtual 79, 3) := by decide +kernel
theorem dX1_append_194 : decode cX1_append 194 = .ok (.aload_n 0, 1) := by decide +kernel
theorem dX1_append_195 : decode cX1_append 195 = .ok (.aload_n 0, 1) := by decide +kernel
theorem dX1_append_196 : decode cX1_append 196 = .ok (.getfield 62, 3) := by decide +kernel
theorem dX1_append_199 : decode cX1_append 199 = .ok (.iload 4, 2) := by decide +kernel
theorem dX1_append_201 : decode cX1_append 201 = .ok (.iadd, 1) := by decide +kernel
theorem dX1_append_202 : decode cX1_append 202 = .ok (.iconst 5, 1) := by decide +kernel
theorem dX1_append_203 : decode cX1_append 203 = .ok (.iadd, 1) := by decide +kernel
theorem dX1_append_204 : decode cX1_append 204 = .ok (.putfield 62, 3) := by decide +kernel
theorem dX1_append_207 : decode cX1_append 207 = .ok (.aload_n 0, 1) := by decide +kernel
theorem dX1_append_208 : decode cX1_append 208 = .ok (.getfield 62, 3) := by decide +kernel
theorem dX1_append_211 : decode cX1_append 211 = .ok (.iload 4, 2) := by decide +kernel
theorem dX1_append_213 : decode cX1_append 213 = .ok (.isub, 1) := by decide +kernel
theorem dX1_append_214 : decode cX1_append 214 = .ok (.iconst 5, 1) := by decide +kernel
theorem dX1_append_215 : decode cX1_append 215 = .ok (.isub, 1) := by decide +kernel
theorem dX1_append_216 : decode cX1_append 216 = .ok (.ireturn, 1) := by decide +kernel
theorem dX1_forceTo_0 : decode cX1_forceTo 0 = .ok (.iconst 0, 1) := by decide +kernel
theorem dX1_forceTo_1 : decode cX1_forceTo 1 = .ok (.istore_n 2, 1) := by decide +kernel
theorem dX1_forceTo_2 : decode cX1_forceTo 2 = .ok (.aload_n 0, 1) := by decide +kernel
theorem dX1_forceTo_3 : decode cX1_forceTo 3 = .ok (.getfield 59, 3) := by decide +kernel
theorem dX1_forceTo_6 : decode cX1_forceTo 6 = .ok (.iload_n 1, 1) := by decide +kernel
theorem dX1_forceTo_7 : decode cX1_forceTo 7 = .ok (.if_icmp .ge 28, 3) := by decide +kernel
theorem dX1_forceTo_10 : decode cX1_forceTo 10 = .ok (.aload_n 0, 1) := by decide +kernel
theorem dX1_forceTo_11 : decode cX1_forceTo 11 = .ok (.invokevirtual 93, 3) := by decide +kernel
theorem dX1_forceTo_14 : decode cX1_forceTo 14 = .ok (.ifCond .ne 5, 3) := by decide +kernel
theorem dX1_forceTo_17 : decode cX1_forceTo 17 = .ok (.iconst (-1), 1) := by decide +kernel
theorem dX1_forceTo_18 : decode cX1_forceTo 18 = .ok (.ireturn, 1) := by decide +kernel
theorem dX1_forceTo_19 : decode cX1_forceTo 19 = .ok (.aload_n 0, 1) := by decide +kernel
theorem dX1_forceTo_20 : decode cX1_forceTo 20 = .ok (.dup, 1) := by decide +kernel
theorem dX1_forceTo_21 : decode cX1_forceTo 21 = .ok (.getfield 59, 3) := by decide +kernel
theorem dX1_forceTo_24 : decode cX1_forceTo 24 = .ok (.iconst 1, 1) := by decide +kernel
theorem dX1_forceTo_25 : decode cX1_forceTo 25 = .ok (.iadd, 1) := by decide +kernel
theorem dX1_forceTo_26 : decode cX1_forceTo 26 = .ok (.putfield 59, 3) := by decide +kernel
theorem dX1_forceTo_29 : decode cX1_forceTo 29 = .ok (.iinc 2 1, 3) := by decide +kernel
theorem dX1_forceTo_32 : decode cX1_forceTo 32 = .ok (.goto (-30), 3) := by decide +kernel
theorem dX1_forceTo_35 : decode cX1_forceTo 35 = .ok (.iload_n 2, 1) := by decide +kernel
theorem dX1_forceTo_36 : decode cX1_forceTo 36 = .ok (.ireturn, 1) := by decide +kernel
theorem dX1_force_0 : decode cX1_force 0 = .ok (.aload_n 0, 1) := by decide +kernel
theorem dX1_force_1 : decode cX1_force 1 = .ok (.getfield 55, 3) := by decide +kernel
theorem dX1_force_4 : decode cX1_force 4 = .ok (.ifCond .eq 7, 3) := by decide +kernel
theorem dX1_force_7 : decode cX1_force 7 = .ok (.iconst (-1), 1) := by decide +kernel
theorem dX1_force_8 : decode cX1_force 8 = .ok (.goto 8, 3) := by decide +kernel
theorem dX1_force_11 : decode cX1_force 11 = .ok (.aload_n 0, 1) := by decide +kernel
theorem dX1_force_12 : decode cX1_force 12 = .ok (.iload_n 1, 1) := by decide +kernel
theorem dX1_force_13 : decode cX1_force 13 = .ok (.invokevirtual 97, 3) := by decide +kernel
theorem dX1_force_16 : decode cX1_force 16 = .ok (.istore_n 2, 1) := by decide +kernel
theorem dX1_force_17 : decode cX1_force 17 = .ok (.aload_n 0, 1) := by decide +kernel
theorem dX1_force_18 : decode cX1_force 18 = .ok (.aload_n 0, 1) := by decide +kernel
theorem dX1_force_19 : decode cX1_force 19 = .ok (.getfield 55, 3) := by decide +kernel
theorem dX1_force_22 : decode cX1_force 22 = .ok (.iload_n 2, 1) := by decide +kernel
theorem dX1_force_23 : decode cX1_force 23 = .ok (.ifCond .ge 7, 3) := by decide +kernel
theorem dX1_force_26 : decode cX1_force 26 = .ok (.iconst 1, 1) := by decide +kernel
theorem dX1_force_27 : decode cX1_force 27 = .ok (.goto 4, 3) := by decide +kernel
theorem dX1_force_30 : decode cX1_force 30 = .ok (.iconst 0, 1) := by decide +kernel
theorem dX1_force_31 : decode cX1_force 31 = .ok (.iconst 0, 1) := by decide +kernel
theorem dX1_force_32 : decode cX1_force 32 = .ok (.invokevirtual 75, 3) := by decide +kernel
theorem dX1_force_35 : decode cX1_force 35 = .ok (.ifCond .eq 7, 3) := by decide +kernel
theorem dX1_force_38 : decode cX1_force 38 = .ok (.iconst 0, 1) := by decide +kernel
theorem dX1_force_39 : decode cX1_force 39 = .ok (.goto 12, 3) := by decide +kernel
theorem dX1_force_42 : decode cX1_force 42 = .ok (.aload_n 0, 1) := by decide +kernel
theorem dX1_force_43 : decode cX1_force 43 = .ok (.aload_n 0, 1) := by decide +kernel
theorem dX1_force_44 : decode cX1_force 44 = .ok (.iload_n 2, 1) := by decide +kernel
theorem dX1_force_45 : decode cX1_force 45 = .ok (.invokevirtual 65, 3) := by decide +kernel
theorem dX1_force_48 : decode cX1_force 48 = .ok (.invokevirtual 100, 3) := by decide +kernel
theorem dX1_force_51 : decode cX1_force 51 = .ok (.ireturn, 1) := by decide +kernel
theorem dX1_forceAll_0 : decode cX1_forceAll 0 = .ok (.aload_n 0, 1) := by decide +kernel
theorem dX1_forceAll_1 : decode cX1_forceAll 1 = .ok (.aload_n 0, 1) := by decide +kernel
theorem dX1_forceAll_2 : decode cX1_forceAll 2 = .ok (.getfield 55, 3) := by decide +kernel
theorem dX1_forceAll_5 : decode cX1_forceAll 5 = .ok (.iconst 0, 1) := by decide +kernel
theorem dX1_forceAll_6 : decode cX1_forceAll 6 = .ok (.iconst 0, 1) := by decide +kernel
theorem dX1_forceAll_7 : decode cX1_forceAll 7 = .ok (.invokevirtual 75, 3) := by decide +kernel
theorem dX1_forceAll_10 : decode cX1_forceAll 10 = .ok (.ifCond .eq 7, 3) := by decide +kernel
theorem dX1_forceAll_13 : decode cX1_forceAll 13 = .ok (.iconst 0, 1) := by decide +kernel
theorem dX1_forceAll_14 : decode cX1_forceAll 14 = .ok (.goto 11, 3) := by decide +kernel
theorem dX1_forceAll_17 : decode cX1_forceAll 17 = .ok (.aload_n 0, 1) := by decide +kernel
theorem dX1_forceAll_18 : decode cX1_forceAll 18 = .ok (.aload_n 0, 1) := by decide +kernel
theorem dX1_forceAll_19 : decode cX1_forceAll 19 = .ok (.getfield 62, 3) := by decide +kernel
theorem dX1_forceAll_22 : decode cX1_forceAll 22 = .ok (.invokevirtual 100, 3) := by decide +kernel
theorem dX1_forceAll_25 : decode cX1_forceAll 25 = .ok (.ireturn, 1) := by decide +kernel
theorem dX1_giveBack_0 : decode cX1_giveBack 0 = .ok (.aload_n 0, 1) := by decide +kernel
theorem dX1_giveBack_1 : decode cX1_giveBack 1 = .ok (.getfield 55, 3) := by decide +kernel
theorem dX1_giveBack_4 : decode cX1_giveBack 4 = .ok (.ifCond .eq 7, 3) := by decide +kernel
theorem dX1_giveBack_7 : decode cX1_giveBack 7 = .ok (.iconst (-1), 1) := by decide +kernel
theorem dX1_giveBack_8 : decode cX1_giveBack 8 = .ok (.goto 8, 3) := by decide +kernel
theorem dX1_giveBack_11 : decode cX1_giveBack 11 = .ok (.aload_n 0, 1) := by decide +kernel
theorem dX1_giveBack_12 : decode cX1_giveBack 12 = .ok (.iload_n 1, 1) := by decide +kernel
theorem dX1_giveBack_13 : decode cX1_giveBack 13 = .ok (.invokevirtual 97, 3) := by decide +kernel
theorem dX1_giveBack_16 : decode cX1_giveBack 16 = .ok (.istore_n 2, 1) := by decide +kernel
theorem dX1_giveBack_17 : decode cX1_giveBack 17 = .ok (.aload_n 0, 1) := by decide +kernel
theorem dX1_giveBack_18 : decode cX1_giveBack 18 = .ok (.aload_n 0, 1) := by decide +kernel
theorem dX1_giveBack_19 : decode cX1_giveBack 19 = .ok (.getfield 55, 3) := by decide +kernel
theorem dX1_giveBack_22 : decode cX1_giveBack 22 = .ok (.ifCond .ne 19, 3) := by decide +kernel
theorem dX1_giveBack_25 : decode cX1_giveBack 25 = .ok (.iload_n 2, 1) := by decide +kernel
theorem dX1_giveBack_26 : decode cX1_giveBack 26 = .ok (.ifCond .lt 19, 3) := by decide +kernel
theorem dX1_giveBack_29 : decode cX1_giveBack 29 = .ok (.aload_n 0, 1) := by decide +kernel
theorem dX1_giveBack_30 : decode cX1_giveBack 30 = .ok (.iload_n 2, 1) := by decide +kernel
theorem dX1_giveBack_31 : decode cX1_giveBack 31 = .ok (.invokevirtual 65, 3) := by decide +kernel
theorem dX1_giveBack_34 : decode cX1_giveBack 34 = .ok (.aload_n 0, 1) := by decide +kernel
theorem dX1_giveBack_35 : decode cX1_giveBack 35 = .ok (.getfield 59, 3) := by decide +kernel
theorem dX1_giveBack_38 : decode cX1_giveBack 38 = .ok (.if_icmp .le 7, 3) := by decide +kernel
theorem dX1_giveBack_41 : decode cX1_giveBack 41 = .ok (.iconst 1, 1) := by decide +kernel
theorem dX1_giveBack_42 : decode cX1_giveBack 42 = .ok (.goto 4, 3) := by decide +kernel
theorem dX1_giveBack_45 : decode cX1_giveBack 45 = .ok (.iconst 0, 1) := by decide +kernel
theorem dX1_giveBack_46 : decode cX1_giveBack 46 = .ok (.iload_n 2, 1) := by decide +kernel
theorem dX1_giveBack_47 : decode cX1_giveBack 47 = .ok (.ifCond .ge 7, 3) := by decide +kernel
theorem dX1_giveBack_50 : decode cX1_giveBack 50 = .ok (.iconst 1, 1) := by decide +kernel
theorem dX1_giveBack_51 : decode cX1_giveBack 51 = .ok (.goto 4, 3) := by decide +kernel
theorem dX1_giveBack_54 : decode cX1_giveBack 54 = .ok (.iconst 0, 1) := by decide +kernel
theorem dX1_giveBack_55 : decode cX1_giveBack 55 = .ok (.iconst 0, 1) := by decide +kernel
theorem dX1_giveBack_56 : decode cX1_giveBack 56 = .ok (.invokevirtual 75, 3) := by decide +kernel
theorem dX1_giveBack_59 : decode cX1_giveBack 59 = .ok (.ifCond .eq 5, 3) := by decide +kernel
theorem dX1_giveBack_62 : decode cX1_giveBack 62 = .ok (.iconst 0, 1) := by decide +kernel
theorem dX1_giveBack_63 : decode cX1_giveBack 63 = .ok (.ireturn, 1) := by decide +kernel
theorem dX1_giveBack_64 : decode cX1_giveBack 64 = .ok (.iload_n 1, 1) := by decide +kernel
theorem dX1_giveBack_65 : decode cX1_giveBack 65 = .ok (.aload_n 0, 1) := by decide +kernel
theorem dX1_giveBack_66 : decode cX1_giveBack 66 = .ok (.getfield 87, 3) := by decide +kernel
theorem dX1_giveBack_69 : decode cX1_giveBack 69 = .ok (.isub, 1) := by decide +kernel
theorem dX1_giveBack_70 : decode cX1_giveBack 70 = .ok (.istore_n 3, 1) := by decide +kernel
theorem dX1_giveBack_71 : decode cX1_giveBack 71 = .ok (.aload_n 0, 1) := by decide +kernel
theorem dX1_giveBack_72 : decode cX1_giveBack 72 = .ok (.iload_n 1, 1) := by decide +kernel
theorem dX1_giveBack_73 : decode cX1_giveBack 73 = .ok (.putfield 87, 3) := by decide +kernel
theorem dX1_giveBack_76 : decode cX1_giveBack 76 = .ok (.aload_n 0, 1) := by decide +kernel
theorem dX1_giveBack_77 : decode cX1_giveBack 77 = .ok (.iload_n 2, 1) := by decide +kernel
theorem dX1_giveBack_78 : decode cX1_giveBack 78 = .ok (.putfield 52, 3) := by decide +kernel
theorem dX1_giveBack_81 : decode cX1_giveBack 81 = .ok (.iload_n 3, 1) := by decide +kernel
theorem dX1_giveBack_82 : decode cX1_giveBack 82 = .ok (.ireturn, 1) := by decide +kernel
theorem dX1_seek_0 : decode cX1_seek 0 = .ok (.iload_n 1, 1) := by decide +kernel
theorem dX1_seek_1 : decode cX1_seek 1 = .ok (.istore 4, 2) := by decide +kernel
theorem dX1_seek_3 : decode cX1_seek 3 = .ok (.iload 4, 2) := by decide +kernel
theorem dX1_seek_5 : decode cX1_seek 5 = .ok (.aload_n 0, 1) := by decide +kernel
theorem dX1_seek_6 : decode cX1_seek 6 = .ok (.getfield 52, 3) := by decide +kernel
theorem dX1_seek_9 : decode cX1_seek 9 = .ok (.if_icmp .lt 41, 3) := by decide +kernel
theorem dX1_seek_12 : decode cX1_seek 12 = .ok (.iload 4, 2) := by decide +kernel
theorem dX1_seek_14 : decode cX1_seek 14 = .ok (.aload_n 0, 1) := by decide +kernel
theorem dX1_seek_15 : decode cX1_seek 15 = .ok (.getfield 46, 3) := by decide +kernel
theorem dX1_seek_18 : decode cX1_seek 18 = .ok (.if_icmp .ge 32, 3) := by decide +kernel
theorem dX1_seek_21 : decode cX1_seek 21 = .ok (.aload_n 0, 1) := by decide +kernel
theorem dX1_seek_22 : decode cX1_seek 22 = .ok (.getfield 35, 3) := by decide +kernel
theorem dX1_seek_25 : decode cX1_seek 25 = .ok (.iload 4, 2) := by decide +kernel
theorem dX1_seek_27 : decode cX1_seek 27 = .ok (.baload, 1) := by decide +kernel
theorem dX1_seek_28 : decode cX1_seek 28 = .ok (.ifCond .ne 13, 3) := by decide +kernel
theorem dX1_seek_31 : decode cX1_seek 31 = .ok (.aload_n 0, 1) := by decide +kernel
theorem dX1_seek_32 : decode cX1_seek 32 = .ok (.iload 4, 2) := by decide +kernel
theorem dX1_seek_34 : decode cX1_seek 34 = .ok (.invokevirtual 65, 3) := by decide +kernel
theorem dX1_seek_37 : decode cX1_seek 37 = .ok (.iload_n 3, 1) := by decide +kernel
theorem dX1_seek_38 : decode cX1_seek 38 = .ok (.if_icmp .le 12, 3) := by decide +kernel
theorem dX1_seek_41 : decode cX1_seek 41 = .ok (.iload 4, 2) := by decide +kernel
theorem dX1_seek_43 : decode cX1_seek 43 = .ok (.iload_n 2, 1) := by decide +kernel
theorem dX1_seek_44 : decode cX1_seek 44 = .ok (.iadd, 1) := by decide +kernel
theorem dX1_seek_45 : decode cX1_seek 45 = .ok (.istore 4, 2) := by decide +kernel
theorem dX1_seek_47 : decode cX1_seek 47 = .ok (.goto (-44), 3) := by decide +kernel
theorem dX1_seek_50 : decode cX1_seek 50 = .ok (.iload 4, 2) := by decide +kernel
theorem dX1_seek_52 : decode cX1_seek 52 = .ok (.aload_n 0, 1) := by decide +kernel
theorem dX1_seek_53 : decode cX1_seek 53 = .ok (.getfield 52, 3) := by decide +kernel
theorem dX1_seek_56 : decode cX1_seek 56 = .ok (.if_icmp .lt 22, 3) := by decide +kernel
theorem dX1_seek_59 : decode cX1_seek 59 = .ok (.iload 4, 2) := by decide +kernel
theorem dX1_seek_61 : decode cX1_seek 61 = .ok (.aload_n 0, 1) := by decide +kernel
theorem dX1_seek_62 : decode cX1_seek 62 = .ok (.getfield 46, 3) := by decide +kernel
theorem dX1_seek_65 : decode cX1_seek 65 = .ok (.if_icmp .ge 13, 3) := by decide +kernel
theorem dX1_seek_68 : decode cX1_seek 68 = .ok (.aload_n 0, 1) := by decide +kernel
theorem dX1_seek_69 : decode cX1_seek 69 = .ok (.getfield 17, 3) := by decide +kernel
theorem dX1_seek_72 : decode cX1_seek 72 = .ok (.iload 4, 2) := by decide +kernel
theorem dX1_seek_74 : decode cX1_seek 74 = .ok (.iaload, 1) := by decide +kernel
theorem dX1_seek_75 : decode cX1_seek 75 = .ok (.goto 4, 3) := by decide +kernel
theorem dX1_seek_78 : decode cX1_seek 78 = .ok (.iconst (-1), 1) := by decide +kernel
theorem dX1_seek_79 : decode cX1_seek 79 = .ok (.ireturn, 1) := by decide +kernel
theorem dX1_first_0 : decode cX1_first 0 = .ok (.aload_n 0, 1) := by decide +kernel
theorem dX1_first_1 : decode cX1_first 1 = .ok (.aload_n 0, 1) := by decide +kernel
theorem dX1_first_2 : decode cX1_first 2 = .ok (.getfield 55, 3) := by decide +kernel
theorem dX1_first_5 : decode cX1_first 5 = .ok (.iconst 0, 1) := by decide +kernel
theorem dX1_first_6 : decode cX1_first 6 = .ok (.iconst 0, 1) := by decide +kernel
theorem dX1_first_7 : decode cX1_first 7 = .ok (.invokevirtual 75, 3) := by decide +kernel
theorem dX1_first_10 : decode cX1_first 10 = .ok (.ifCond .eq 7, 3) := by decide +kernel
theorem dX1_first_13 : decode cX1_first 13 = .ok (.iconst 0, 1) := by decide +kernel
theorem dX1_first_14 : decode cX1_first 14 = .ok (.goto 16, 3) := by decide +kernel
theorem dX1_first_17 : decode cX1_first 17 = .ok (.aload_n 0, 1) := by decide +kernel
theorem dX1_first_18 : decode cX1_first 18 = .ok (.aload_n 0, 1) := by decide +kernel
theorem dX1_first_19 : decode cX1_first 19 = .ok (.getfield 52, 3) := by decide +kernel
theorem dX1_first_22 : decode cX1_first 22 = .ok (.iconst 1, 1) := by decide +kernel
theorem dX1_first_23 : decode cX1_first 23 = .ok (.aload_n 0, 1) := by decide +kernel
theorem dX1_first_24 : decode cX1_first 24 = .ok (.getfield 62, 3) := by decide +kernel
theorem dX1_first_27 : decode cX1_first 27 = .ok (.invokevirtual 103, 3) := by decide +kernel
theorem dX1_first_30 : decode cX1_first 30 = .ok (.ireturn, 1) := by decide +kernel
theorem dX1_last_0 : decode cX1_last 0 = .ok (.aload_n 0, 1) := by decide +kernel
theorem dX1_last_1 : decode cX1_last 1 = .ok (.aload_n 0, 1) := by decide +kernel
theorem dX1_last_2 : decode cX1_last 2 = .ok (.getfield 55, 3) := by decide +kernel
theorem dX1_last_5 : decode cX1_last 5 = .ok (.iconst 0, 1) := by decide +kernel
theorem dX1_last_6 : decode cX1_last 6 = .ok (.iconst 0, 1) := by decide +kernel
theorem dX1_last_7 : decode cX1_last 7 = .ok (.invokevirtual 75, 3) := by decide +kernel
theorem dX1_last_10 : decode cX1_last 10 = .ok (.ifCond .eq 7, 3) := by decide +kernel
theorem dX1_last_13 : decode cX1_last 13 = .ok (.iconst 0, 1) := by decide +kernel
theorem dX1_last_14 : decode cX1_last 14 = .ok (.goto 18, 3) := by decide +kernel
theorem dX1_last_17 : decode cX1_last 17 = .ok (.aload_n 0, 1) := by decide +kernel
theorem dX1_last_18 : decode cX1_last 18 = .ok (.aload_n 0, 1) := by decide +kernel
theorem dX1_last_19 : decode cX1_last 19 = .ok (.getfield 46, 3) := by decide +kernel
theorem dX1_last_22 : decode cX1_last 22 = .ok (.iconst 1, 1) := by decide +kernel
theorem dX1_last_23 : decode cX1_last 23 = .ok (.isub, 1) := by decide +kernel
theorem dX1_last_24 : decode cX1_last 24 = .ok (.iconst (-1), 1) := by decide +kernel
theorem dX1_last_25 : decode cX1_last 25 = .ok (.aload_n 0, 1) := by decide +kernel
theorem dX1_last_26 : decode cX1_last 26 = .ok (.getfield 62, 3) := by decide +kernel
theorem dX1_last_29 : decode cX1_last 29 = .ok (.invokevirtual 103, 3) := by decide +kernel
theorem dX1_last_32 : decode cX1_last 32 = .ok (.ireturn, 1) := by decide +kernel
theorem dX1_lastForced_0 : decode cX1_lastForced 0 = .ok (.aload_n 0, 1) := by decide +kernel
theorem dX1_lastForced_1 : decode cX1_lastForced 1 = .ok (.aload_n 0, 1) := by decide +kernel
theorem dX1_lastForced_2 : decode cX1_lastForced 2 = .ok (.getfield 55, 3) := by decide +kernel
theorem dX1_lastForced_5 : decode cX1_lastForced 5 = .ok (.iconst 0, 1) := by decide +kernel
theorem dX1_lastForced_6 : decode cX1_lastForced 6 = .ok (.iconst 0, 1) := by decide +kernel
theorem dX1_lastForced_7 : decode cX1_lastForced 7 = .ok (.invokevirtual 75, 3) := by decide +kernel
theorem dX1_lastForced_10 : decode cX1_lastForced 10 = .ok (.ifCond .eq 7, 3) := by decide +kernel
theorem dX1_lastForced_13 : decode cX1_lastForced 13 = .ok (.iconst 0, 1) := by decide +kernel
theorem dX1_lastForced_14 : decode cX1_lastForced 14 = .ok (.goto 18, 3) := by decide +kernel
theorem dX1_lastForced_17 : decode cX1_lastForced 17 = .ok (.aload_n 0, 1) := by decide +kernel
theorem dX1_lastForced_18 : decode cX1_lastForced 18 = .ok (.aload_n 0, 1) := by decide +kernel
theorem dX1_lastForced_19 : decode cX1_lastForced 19 = .ok (.getfield 46, 3) := by decide +kernel
theorem dX1_lastForced_22 : decode cX1_lastForced 22 = .ok (.iconst 1, 1) := by decide +kernel
theorem dX1_lastForced_23 : decode cX1_lastForced 23 = .ok (.isub, 1) := by decide +kernel
theorem dX1_lastForced_24 : decode cX1_lastForced 24 = .ok (.iconst (-1), 1) := by decide +kernel
theorem dX1_lastForced_25 : decode cX1_lastForced 25 = .ok (.aload_n 0, 1) := by decide +kernel
theorem dX1_lastForced_26 : decode cX1_lastForced 26 = .ok (.getfield 59, 3) := by decide +kernel
theorem dX1_lastForced_29 : decode cX1_lastForced 29 = .ok (.invokevirtual 103, 3) := by decide +kernel
theorem dX1_lastForced_32 : decode cX1_lastForced 32 = .ok (.ireturn, 1) := by decide +kernel
theorem dX1_next_0 : decode cX1_next 0 = .ok (.aload_n 0, 1) := by decide +kernel
theorem dX1_next_1 : decode cX1_next 1 = .ok (.getfield 55, 3) := by decide +kernel
theorem dX1_next_4 : decode cX1_next 4 = .ok (.ifCond .eq 7, 3) := by decide +kernel
theorem dX1_next_7 : decode cX1_next 7 = .ok (.iconst (-1), 1) := by decide +kernel
theorem dX1_next_8 : decode cX1_next 8 = .ok (.goto 8, 3) := by decide +kernel
theorem dX1_next_11 : decode cX1_next 11 = .ok (.aload_n 0, 1) := by decide +kernel
theorem dX1_next_12 : decode cX1_next 12 = .ok (.iload_n 1, 1) := by decide +kernel
theorem dX1_next_13 : decode cX1_next 13 = .ok (.invokevirtual 97, 3) := by decide +kernel
theorem dX1_next_16 : decode cX1_next 16 = .ok (.istore_n 2, 1) := by decide +kernel
theorem dX1_next_17 : decode cX1_next 17 = .ok (.aload_n 0, 1) := by decide +kernel
theorem dX1_next_18 : decode cX1_next 18 = .ok (.aload_n 0, 1) := by decide +kernel
theorem dX1_next_19 : decode cX1_next 19 = .ok (.getfield 55, 3) := by decide +kernel
theorem dX1_next_22 : decode cX1_next 22 = .ok (.iload_n 2, 1) := by decide +kernel
theorem dX1_next_23 : decode cX1_next 23 = .ok (.ifCond .ge 7, 3) := by decide +kernel
theorem dX1_next_26 : decode cX1_next 26 = .ok (.iconst 1, 1) := by decide +kernel
theorem dX1_next_27 : decode cX1_next 27 = .ok (.goto 4, 3) := by decide +kernel
theorem dX1_next_30 : decode cX1_next 30 = .ok (.iconst 0, 1) := by decide +kernel
theorem dX1_next_31 : decode cX1_next 31 = .ok (.iconst 0, 1) := by decide +kernel
theorem dX1_next_32 : decode cX1_next 32 = .ok (.invokevirtual 75, 3) := by decide +kernel
theorem dX1_next_35 : decode cX1_next 35 = .ok (.ifCond .eq 7, 3) := by decide +kernel
theorem dX1_next_38 : decode cX1_next 38 = .ok (.iconst 0, 1) := by decide +kernel
theorem dX1_next_39 : decode cX1_next 39 = .ok (.goto 15, 3) := by decide +kernel
theorem dX1_next_42 : decode cX1_next 42 = .ok (.aload_n 0, 1) := by decide +kernel
theorem dX1_next_43 : decode cX1_next 43 = .ok (.iload_n 2, 1) := by decide +kernel
theorem dX1_next_44 : decode cX1_next 44 = .ok (.iconst 1, 1) := by decide +kernel
theorem dX1_next_45 : decode cX1_next 45 = .ok (.iadd, 1) := by decide +kernel
theorem dX1_next_46 : decode cX1_next 46 = .ok (.iconst 1, 1) := by decide +kernel
theorem dX1_next_47 : decode cX1_next 47 = .ok (.aload_n 0, 1) := by decide +kernel
theorem dX1_next_48 : decode cX1_next 48 = .ok (.getfield 62, 3) := by decide +kernel
theorem dX1_next_51 : decode cX1_next 51 = .ok (.invokevirtual 103, 3) := by decide +kernel
theorem dX1_next_54 : decode cX1_next 54 = .ok (.ireturn, 1) := by decide +kernel
theorem dX1_before_0 : decode cX1_before 0 = .ok (.aload_n 0, 1) := by decide +kernel
theorem dX1_before_1 : decode cX1_before 1 = .ok (.getfield 55, 3) := by decide +kernel
theorem dX1_before_4 : decode cX1_before 4 = .ok (.ifCond .eq 7, 3) := by decide +kernel
theorem dX1_before_7 : decode cX1_before 7 = .ok (.iconst (-1), 1) := by decide +kernel
theorem dX1_before_8 : decode cX1_before 8 = .ok (.goto 8, 3) := by decide +kernel
theorem dX1_before_11 : decode cX1_before 11 = .ok (.aload_n 0, 1) := by decide +kernel
theorem dX1_before_12 : decode cX1_before 12 = .ok (.iload_n 1, 1) := by decide +kernel
theorem dX1_before_13 : decode cX1_before 13 = .ok (.invokevirtual 97, 3) := by decide +kernel
theorem dX1_before_16 : decode cX1_before 16 = .ok (.istore_n 2, 1) := by decide +kernel
theorem dX1_before_17 : decode cX1_before 17 = .ok (.aload_n 0, 1) := by decide +kernel
theorem dX1_before_18 : decode cX1_before 18 = .ok (.aload_n 0, 1) := by decide +kernel
theorem dX1_before_19 : decode cX1_before 19 = .ok (.getfield 55, 3) := by decide +kernel
theorem dX1_before_22 : decode cX1_before 22 = .ok (.iload_n 2, 1) := by decide +kernel
theorem dX1_before_23 : decode cX1_before 23 = .ok (.ifCond .ge 7, 3) := by decide +kernel
theorem dX1_before_26 : decode cX1_before 26 = .ok (.iconst 1, 1) := by decide +kernel
theorem dX1_before_27 : decode cX1_before 27 = .ok (.goto 4, 3) := by decide +kernel
theorem dX1_before_30 : decode cX1_before 30 = .ok (.iconst 0, 1) := by decide +kernel
theorem dX1_before_31 : decode cX1_before 31 = .ok (.iconst 0, 1) := by decide +kernel
theorem dX1_before_32 : decode cX1_before 32 = .ok (.invokevirtual 75, 3) := by decide +kernel
theorem dX1_before_35 : decode cX1_before 35 = .ok (.ifCond .eq 7, 3) := by decide +kernel
theorem dX1_before_38 : decode cX1_before 38 = .ok (.iconst 0, 1) := by decide +kernel
theorem dX1_before_39 : decode cX1_before 39 = .ok (.goto 15, 3) := by decide +kernel
theorem dX1_before_42 : decode cX1_before 42 = .ok (.aload_n 0, 1) := by decide +kernel
theorem dX1_before_43 : decode cX1_before 43 = .ok (.iload_n 2, 1) := by decide +kernel
theorem dX1_before_44 : decode cX1_before 44 = .ok (.iconst 1, 1) := by decide +kernel
theorem dX1_before_45 : decode cX1_before 45 = .ok (.isub, 1) := by decide +kernel
theorem dX1_before_46 : decode cX1_before 46 = .ok (.iconst (-1), 1) := by decide +kernel
theorem dX1_before_47 : decode cX1_before 47 = .ok (.aload_n 0, 1) := by decide +kernel
theorem dX1_before_48 : decode cX1_before 48 = .ok (.getfield 62, 3) := by decide +kernel
theorem dX1_before_51 : decode cX1_before 51 = .ok (.invokevirtual 103, 3) := by decide +kernel
theorem dX1_before_54 : decode cX1_before 54 = .ok (.ireturn, 1) := by decide +kernel
theorem dX1_lastOf_0 : decode cX1_lastOf 0 = .ok (.aload_n 0, 1) := by decide +kernel
theorem dX1_lastOf_1 : decode cX1_lastOf 1 = .ok (.aload_n 0, 1) := by decide +kernel
theorem dX1_lastOf_2 : decode cX1_lastOf 2 = .ok (.getfield 55, 3) := by decide +kernel
theorem dX1_lastOf_5 : decode cX1_lastOf 5 = .ok (.iload_n 1, 1) := by decide +kernel
theorem dX1_lastOf_6 : decode cX1_lastOf 6 = .ok (.iconst 0, 1) := by decide +kernel
theorem dX1_lastOf_7 : decode cX1_lastOf 7 = .ok (.bipush 7, 2) := by decide +kernel
theorem dX1_lastOf_9 : decode cX1_lastOf 9 = .ok (.invokestatic 83, 3) := by decide +kernel
theorem dX1_lastOf_12 : decode cX1_lastOf 12 = .ok (.ifCond .ne 7, 3) := by decide +kernel
theorem dX1_lastOf_15 : decode cX1_lastOf 15 = .ok (.iconst 1, 1) := by decide +kernel
theorem dX1_lastOf_16 : decode cX1_lastOf 16 = .ok (.goto 4, 3) := by decide +kernel
theorem dX1_lastOf_19 : decode cX1_lastOf 19 = .ok (.iconst 0, 1) := by decide +kernel
theorem dX1_lastOf_20 : decode cX1_lastOf 20 = .ok (.iconst 0, 1) := by decide +kernel
theorem dX1_lastOf_21 : decode cX1_lastOf 21 = .ok (.invokevirtual 75, 3) := by decide +kernel
theorem dX1_lastOf_24 : decode cX1_lastOf 24 = .ok (.ifCond .eq 7, 3) := by decide +kernel
theorem dX1_lastOf_27 : decode cX1_lastOf 27 = .ok (.iconst 0, 1) := by decide +kernel
theorem dX1_lastOf_28 : decode cX1_lastOf 28 = .ok (.goto 8, 3) := by decide +kernel
theorem dX1_lastOf_31 : decode cX1_lastOf 31 = .ok (.aload_n 0, 1) := by decide +kernel
theorem dX1_lastOf_32 : decode cX1_lastOf 32 = .ok (.iload_n 1, 1) := by decide +kernel
theorem dX1_lastOf_33 : decode cX1_lastOf 33 = .ok (.invokevirtual 90, 3) := by decide +kernel
theorem dX1_lastOf_36 : decode cX1_lastOf 36 = .ok (.ireturn, 1) := by decide +kernel
theorem dX1_of_0 : decode cX1_of 0 = .ok (.aload_n 0, 1) := by decide +kernel
theorem dX1_of_1 : decode cX1_of 1 = .ok (.getfield 55, 3) := by decide +kernel
theorem dX1_of_4 : decode cX1_of 4 = .ok (.ifCond .eq 7, 3) := by decide +kernel
theorem dX1_of_7 : decode cX1_of 7 = .ok (.iconst (-1), 1) := by decide +kernel
theorem dX1_of_8 : decode cX1_of 8 = .ok (.goto 8, 3) := by decide +kernel
theorem dX1_of_11 : decode cX1_of 11 = .ok (.aload_n 0, 1) := by decide +kernel
theorem dX1_of_12 : decode cX1_of 12 = .ok (.iload_n 1, 1) := by decide +kernel
theorem dX1_of_13 : decode cX1_of 13 = .ok (.invokevirtual 97, 3) := by decide +kernel
theorem dX1_of_16 : decode cX1_of 16 = .ok (.istore_n 3, 1) := by decide +kernel
theorem dX1_of_17 : decode cX1_of 17 = .ok (.aload_n 0, 1) := by decide +kernel
theorem dX1_of_18 : decode cX1_of 18 = .ok (.aload_n 0, 1) := by decide +kernel
theorem dX1_of_19 : decode cX1_of 19 = .ok (.getfield 55, 3) := by decide +kernel
theorem dX1_of_22 : decode cX1_of 22 = .ok (.iload_n 3, 1) := by decide +kernel
theorem dX1_of_23 : decode cX1_of 23 = .ok (.ifCond .ge 7, 3) := by decide +kernel
theorem dX1_of_26 : decode cX1_of 26 = .ok (.iconst 1, 1) := by decide +kernel
theorem dX1_of_27 : decode cX1_of 27 = .ok (.goto 4, 3) := by decide +kernel
theorem dX1_of_30 : decode cX1_of 30 = .ok (.iconst 0, 1) := by decide +kernel
theorem dX1_of_31 : decode cX1_of 31 = .ok (.iload_n 2, 1) := by decide +kernel
theorem dX1_of_32 : decode cX1_of 32 = .ok (.iconst 0, 1) := by decide +kernel
theorem dX1_of_33 : decode cX1_of 33 = .ok (.iconst 4, 1) := by decide +kernel
theorem dX1_of_34 : decode cX1_of 34 = .ok (.invokestatic 83, 3) := by decide +kernel
theorem dX1_of_37 : decode cX1_of 37 = .ok (.ifCond .ne 7, 3) := by decide +kernel
theorem dX1_of_40 : decode cX1_of 40 = .ok (.iconst 1, 1) := by decide +kernel
theorem dX1_of_41 : decode cX1_of 41 = .ok (.goto 4, 3) := by decide +kernel
theorem dX1_of_44 : decode cX1_of 44 = .ok (.iconst 0, 1) := by decide +kernel
theorem dX1_of_45 : decode cX1_of 45 = .ok (.invokevirtual 75, 3) := by decide +kernel
theorem dX1_of_48 : decode cX1_of 48 = .ok (.ifCond .eq 5, 3) := by decide +kernel
theorem dX1_of_51 : decode cX1_of 51 = .ok (.iconst 0, 1) := by decide +kernel
theorem dX1_of_52 : decode cX1_of 52 = .ok (.ireturn, 1) := by decide +kernel
theorem dX1_of_53 : decode cX1_of 53 = .ok (.iload_n 2, 1) := by decide +kernel
theorem dX1_of_54 : decode cX1_of 54 = .ok (.ifCond .ne 12, 3) := by decide +kernel
theorem dX1_of_57 : decode cX1_of 57 = .ok (.aload_n 0, 1) := by decide +kernel
theorem dX1_of_58 : decode cX1_of 58 = .ok (.getfield 23, 3) := by decide +kernel
theorem dX1_of_61 : decode cX1_of 61 = .ok (.iload_n 3, 1) := by decide +kernel
theorem dX1_of_62 : decode cX1_of 62 = .ok (.iaload, 1) := by decide +kernel
theorem dX1_of_63 : decode cX1_of 63 = .ok (.goto 53, 3) := by decide +kernel
theorem dX1_of_66 : decode cX1_of 66 = .ok (.iload_n 2, 1) := by decide +kernel
theorem dX1_of_67 : decode cX1_of 67 = .ok (.iconst 1, 1) := by decide +kernel
theorem dX1_of_68 : decode cX1_of 68 = .ok (.if_icmp .ne 12, 3) := by decide +kernel
theorem dX1_of_71 : decode cX1_of 71 = .ok (.aload_n 0, 1) := by decide +kernel
theorem dX1_of_72 : decode cX1_of 72 = .ok (.getfield 26, 3) := by decide +kernel
theorem dX1_of_75 : decode cX1_of 75 = .ok (.iload_n 3, 1) := by decide +kernel
theorem dX1_of_76 : decode cX1_of 76 = .ok (.iaload, 1) := by decide +kernel
theorem dX1_of_77 : decode cX1_of 77 = .ok (.goto 39, 3) := by decide +kernel
theorem dX1_of_80 : decode cX1_of 80 = .ok (.iload_n 2, 1) := by decide +kernel
theorem dX1_of_81 : decode cX1_of 81 = .ok (.iconst 2, 1) := by decide +kernel
theorem dX1_of_82 : decode cX1_of 82 = .ok (.if_icmp .ne 12, 3) := by decide +kernel
theorem dX1_of_85 : decode cX1_of 85 = .ok (.aload_n 0, 1) := by decide +kernel
theorem dX1_of_86 : decode cX1_of 86 = .ok (.getfield 29, 3) := by decide +kernel
theorem dX1_of_89 : decode cX1_of 89 = .ok (.iload_n 3, 1) := by decide +kernel
theorem dX1_of_90 : decode cX1_of 90 = .ok (.iaload, 1) := by decide +kernel
theorem dX1_of_91 : decode cX1_of 91 = .ok (.goto 25, 3) := by decide +kernel
theorem dX1_of_94 : decode cX1_of 94 = .ok (.iload_n 2, 1) := by decide +kernel
theorem dX1_of_95 : decode cX1_of 95 = .ok (.iconst 3, 1) := by decide +kernel
theorem dX1_of_96 : decode cX1_of 96 = .ok (.if_icmp .ne 12, 3) := by decide +kernel
theorem dX1_of_99 : decode cX1_of 99 = .ok (.aload_n 0, 1) := by decide +kernel
theorem dX1_of_100 : decode cX1_of 100 = .ok (.getfield 32, 3) := by decide +kernel
theorem dX1_of_103 : decode cX1_of 103 = .ok (.iload_n 3, 1) := by decide +kernel
theorem dX1_of_104 : decode cX1_of 104 = .ok (.iaload, 1) := by decide +kernel
theorem dX1_of_105 : decode cX1_of 105 = .ok (.goto 11, 3) := by decide +kernel
theorem dX1_of_108 : decode cX1_of 108 = .ok (.aload_n 0, 1) := by decide +kernel
theorem dX1_of_109 : decode cX1_of 109 = .ok (.getfield 20, 3) := by decide +kernel
theorem dX1_of_112 : decode cX1_of 112 = .ok (.iload_n 3, 1) := by decide +kernel
theorem dX1_of_113 : decode cX1_of 113 = .ok (.iaload, 1) := by decide +kernel
theorem dX1_of_114 : decode cX1_of 114 = .ok (.iconst 5, 1) := by decide +kernel
theorem dX1_of_115 : decode cX1_of 115 = .ok (.isub, 1) := by decide +kernel
theorem dX1_of_116 : decode cX1_of 116 = .ok (.ireturn, 1) := by decide +kernel
theorem dX1_word_0 : decode cX1_word 0 = .ok (.aload_n 0, 1) := by decide +kernel
theorem dX1_word_1 : decode cX1_word 1 = .ok (.getfield 55, 3) := by decide +kernel
theorem dX1_word_4 : decode cX1_word 4 = .ok (.ifCond .eq 7, 3) := by decide +kernel
theorem dX1_word_7 : decode cX1_word 7 = .ok (.iconst (-1), 1) := by decide +kernel
theorem dX1_word_8 : decode cX1_word 8 = .ok (.goto 8, 3) := by decide +kernel
theorem dX1_word_11 : decode cX1_word 11 = .ok (.aload_n 0, 1) := by decide +kernel
theorem dX1_word_12 : decode cX1_word 12 = .ok (.iload_n 1, 1) := by decide +kernel
theorem dX1_word_13 : decode cX1_word 13 = .ok (.invokevirtual 97, 3) := by decide +kernel
theorem dX1_word_16 : decode cX1_word 16 = .ok (.istore_n 3, 1) := by decide +kernel
theorem dX1_word_17 : decode cX1_word 17 = .ok (.aload_n 0, 1) := by decide +kernel
theorem dX1_word_18 : decode cX1_word 18 = .ok (.aload_n 0, 1) := by decide +kernel
theorem dX1_word_19 : decode cX1_word 19 = .ok (.getfield 55, 3) := by decide +kernel
theorem dX1_word_22 : decode cX1_word 22 = .ok (.iload_n 3, 1) := by decide +kernel
theorem dX1_word_23 : decode cX1_word 23 = .ok (.ifCond .ge 7, 3) := by decide +kernel
theorem dX1_word_26 : decode cX1_word 26 = .ok (.iconst 1, 1) := by decide +kernel
theorem dX1_word_27 : decode cX1_word 27 = .ok (.goto 4, 3) := by decide +kernel
theorem dX1_word_30 : decode cX1_word 30 = .ok (.iconst 0, 1) := by decide +kernel
theorem dX1_word_31 : decode cX1_word 31 = .ok (.iload_n 3, 1) := by decide +kernel
theorem dX1_word_32 : decode cX1_word 32 = .ok (.ifCond .lt 24, 3) := by decide +kernel
theorem dX1_word_35 : decode cX1_word 35 = .ok (.iload_n 2, 1) := by decide +kernel
theorem dX1_word_36 : decode cX1_word 36 = .ok (.iconst 0, 1) := by decide +kernel
theorem dX1_word_37 : decode cX1_word 37 = .ok (.aload_n 0, 1) := by decide +kernel
theorem dX1_word_38 : decode cX1_word 38 = .ok (.getfield 20, 3) := by decide +kernel
theorem dX1_word_41 : decode cX1_word 41 = .ok (.iload_n 3, 1) := by decide +kernel
theorem dX1_word_42 : decode cX1_word 42 = .ok (.iaload, 1) := by decide +kernel
theorem dX1_word_43 : decode cX1_word 43 = .ok (.bipush 6, 2) := by decide +kernel
theorem dX1_word_45 : decode cX1_word 45 = .ok (.isub, 1) := by decide +kernel
theorem dX1_word_46 : decode cX1_word 46 = .ok (.invokestatic 83, 3) := by decide +kernel
theorem dX1_word_49 : decode cX1_word 49 = .ok (.ifCond .ne 7, 3) := by decide +kernel
theorem dX1_word_52 : decode cX1_word 52 = .ok (.iconst 1, 1) := by decide +kernel
theorem dX1_word_53 : decode cX1_word 53 = .ok (.goto 4, 3) := by decide +kernel
theorem dX1_word_56 : decode cX1_word 56 = .ok (.iconst 0, 1) := by decide +kernel
theorem dX1_word_57 : decode cX1_word 57 = .ok (.invokevirtual 75, 3) := by decide +kernel
theorem dX1_word_60 : decode cX1_word 60 = .ok (.ifCond .eq 5, 3) := by decide +kernel
theorem dX1_word_63 : decode cX1_word 63 = .ok (.iconst 0, 1) := by decide +kernel
theorem dX1_word_64 : decode cX1_word 64 = .ok (.ireturn, 1) := by decide +kernel
theorem dX1_word_65 : decode cX1_word 65 = .ok (.aload_n 0, 1) := by decide +kernel
theorem dX1_word_66 : decode cX1_word 66 = .ok (.getfield 14, 3) := by decide +kernel
theorem dX1_word_69 : decode cX1_word 69 = .ok (.iload_n 1, 1) := by decide +kernel
theorem dX1_word_70 : decode cX1_word 70 = .ok (.iconst 4, 1) := by decide +kernel
theorem dX1_word_71 : decode cX1_word 71 = .ok (.iadd, 1) := by decide +kernel
theorem dX1_word_72 : decode cX1_word 72 = .ok (.iload_n 2, 1) := by decide +kernel
theorem dX1_word_73 : decode cX1_word 73 = .ok (.iadd, 1) := by decide +kernel
theorem dX1_word_74 : decode cX1_word 74 = .ok (.ldc 13, 2) := by decide +kernel
theorem dX1_word_76 : decode cX1_word 76 = .ok (.irem, 1) := by decide +kernel
theorem dX1_word_77 : decode cX1_word 77 = .ok (.iaload, 1) := by decide +kernel
theorem dX1_word_78 : decode cX1_word 78 = .ok (.ireturn, 1) := by decide +kernel
theorem dX1_back_0 : decode cX1_back 0 = .ok (.aload_n 0, 1) := by decide +kernel
theorem dX1_back_1 : decode cX1_back 1 = .ok (.aload_n 0, 1) := by decide +kernel
theorem dX1_back_2 : decode cX1_back 2 = .ok (.getfield 55, 3) := by decide +kernel
theorem dX1_back_5 : decode cX1_back 5 = .ok (.iload_n 1, 1) := by decide +kernel
theorem dX1_back_6 : decode cX1_back 6 = .ok (.iconst 0, 1) := by decide +kernel
theorem dX1_back_7 : decode cX1_back 7 = .ok (.bipush 7, 2) := by decide +kernel
theorem dX1_back_9 : decode cX1_back 9 = .ok (.invokestatic 83, 3) := by decide +kernel
theorem dX1_back_12 : decode cX1_back 12 = .ok (.ifCond .eq 7, 3) := by decide +kernel
theorem dX1_back_15 : decode cX1_back 15 = .ok (.iload_n 3, 1) := by decide +kernel
theorem dX1_back_16 : decode cX1_back 16 = .ok (.ifCond .ge 7, 3) := by decide +kernel
theorem dX1_back_19 : decode cX1_back 19 = .ok (.iconst 1, 1) := by decide +kernel
theorem dX1_back_20 : decode cX1_back 20 = .ok (.goto 4, 3) := by decide +kernel
theorem dX1_back_23 : decode cX1_back 23 = .ok (.iconst 0, 1) := by decide +kernel
theorem dX1_back_24 : decode cX1_back 24 = .ok (.iconst 0, 1) := by decide +kernel
theorem dX1_back_25 : decode cX1_back 25 = .ok (.invokevirtual 75, 3) := by decide +kernel
theorem dX1_back_28 : decode cX1_back 28 = .ok (.ifCond .eq 5, 3) := by decide +kernel
theorem dX1_back_31 : decode cX1_back 31 = .ok (.iconst 0, 1) := by decide +kernel
theorem dX1_back_32 : decode cX1_back 32 = .ok (.ireturn, 1) := by decide +kernel
theorem dX1_back_33 : decode cX1_back 33 = .ok (.aload_n 0, 1) := by decide +kernel
theorem dX1_back_34 : decode cX1_back 34 = .ok (.iload_n 1, 1) := by decide +kernel
theorem dX1_back_35 : decode cX1_back 35 = .ok (.invokevirtual 90, 3) := by decide +kernel
theorem dX1_back_38 : decode cX1_back 38 = .ok (.istore 4, 2) := by decide +kernel
theorem dX1_back_40 : decode cX1_back 40 = .ok (.iload_n 3, 1) := by decide +kernel
theorem dX1_back_41 : decode cX1_back 41 = .ok (.istore 5, 2) := by decide +kernel
theorem dX1_back_43 : decode cX1_back 43 = .ok (.iload 4, 2) := by decide +kernel
theorem dX1_back_45 : decode cX1_back 45 = .ok (.ifCond .lt 78, 3) := by decide +kernel
theorem dX1_back_48 : decode cX1_back 48 = .ok (.aload_n 0, 1) := by decide +kernel
theorem dX1_back_49 : decode cX1_back 49 = .ok (.iload 4, 2) := by decide +kernel
theorem dX1_back_51 : decode cX1_back 51 = .ok (.invokevirtual 97, 3) := by decide +kernel
theorem dX1_back_54 : decode cX1_back 54 = .ok (.ifCond .lt 69, 3) := by decide +kernel
theorem dX1_back_57 : decode cX1_back 57 = .ok (.aload_n 0, 1) := by decide +kernel
theorem dX1_back_58 : decode cX1_back 58 = .ok (.iload 4, 2) := by decide +kernel
theorem dX1_back_60 : decode cX1_back 60 = .ok (.invokevirtual 97, 3) := by decide +kernel
theorem dX1_back_63 : decode cX1_back 63 = .ok (.istore 6, 2) := by decide +kernel
theorem dX1_back_65 : decode cX1_back 65 = .ok (.iload_n 2, 1) := by decide +kernel
theorem dX1_back_66 : decode cX1_back 66 = .ok (.aload_n 0, 1) := by decide +kernel
theorem dX1_back_67 : decode cX1_back 67 = .ok (.getfield 23, 3) := by decide +kernel
theorem dX1_back_70 : decode cX1_back 70 = .ok (.iload 6, 2) := by decide +kernel
theorem dX1_back_72 : decode cX1_back 72 = .ok (.iaload, 1) := by decide +kernel
theorem dX1_back_73 : decode cX1_back 73 = .ok (.ishr, 1) := by decide +kernel
theorem dX1_back_74 : decode cX1_back 74 = .ok (.iconst 1, 1) := by decide +kernel
theorem dX1_back_75 : decode cX1_back 75 = .ok (.iand, 1) := by decide +kernel
theorem dX1_back_76 : decode cX1_back 76 = .ok (.iconst 1, 1) := by decide +kernel
theorem dX1_back_77 : decode cX1_back 77 = .ok (.if_icmp .ne 14, 3) := by decide +kernel
theorem dX1_back_80 : decode cX1_back 80 = .ok (.iload 5, 2) := by decide +kernel
theorem dX1_back_82 : decode cX1_back 82 = .ok (.ifCond .ne 6, 3) := by decide +kernel
theorem dX1_back_85 : decode cX1_back 85 = .ok (.iload 4, 2) := by decide +kernel
theorem dX1_back_87 : decode cX1_back 87 = .ok (.ireturn, 1) := by decide +kernel
theorem dX1_back_88 : decode cX1_back 88 = .ok (.iinc 5 (-1), 3) := by decide +kernel
theorem dX1_back_91 : decode cX1_back 91 = .ok (.aload_n 0, 1) := by decide +kernel
theorem dX1_back_92 : decode cX1_back 92 = .ok (.getfield 32, 3) := by decide +kernel
theorem dX1_back_95 : decode cX1_back 95 = .ok (.iload 6, 2) := by decide +kernel
theorem dX1_back_97 : decode cX1_back 97 = .ok (.iaload, 1) := by decide +kernel
theorem dX1_back_98 : decode cX1_back 98 = .ok (.ifCond .lt 13, 3) := by decide +kernel
theorem dX1_back_101 : decode cX1_back 101 = .ok (.aload_n 0, 1) := by decide +kernel
theorem dX1_back_102 : decode cX1_back 102 = .ok (.getfield 32, 3) := by decide +kernel
theorem dX1_back_105 : decode cX1_back 105 = .ok (.iload 6, 2) := by decide +kernel
theorem dX1_back_107 : decode cX1_back 107 = .ok (.iaload, 1) := by decide +kernel
theorem dX1_back_108 : decode cX1_back 108 = .ok (.goto 10, 3) := by decide +kernel
theorem dX1_back_111 : decode cX1_back 111 = .ok (.aload_n 0, 1) := by decide +kernel
theorem dX1_back_112 : decode cX1_back 112 = .ok (.getfield 29, 3) := by decide +kernel
theorem dX1_back_115 : decode cX1_back 115 = .ok (.iload 6, 2) := by decide +kernel
theorem dX1_back_117 : decode cX1_back 117 = .ok (.iaload, 1) := by decide +kernel
theorem dX1_back_118 : decode cX1_back 118 = .ok (.istore 4, 2) := by decide +kernel
theorem dX1_back_120 : decode cX1_back 120 = .ok (.goto (-77), 3) := by decide +kernel
theorem dX1_back_123 : decode cX1_back 123 = .ok (.iconst (-1), 1) := by decide +kernel
theorem dX1_back_124 : decode cX1_back 124 = .ok (.ireturn, 1) := by decide +kernel
theorem dX1_count_0 : decode cX1_count 0 = .ok (.aload_n 0, 1) := by decide +kernel
theorem dX1_count_1 : decode cX1_count 1 = .ok (.aload_n 0, 1) := by decide +kernel
theorem dX1_count_2 : decode cX1_count 2 = .ok (.getfield 55, 3) := by decide +kernel
theorem dX1_count_5 : decode cX1_count 5 = .ok (.iconst 0, 1) := by decide +kernel
theorem dX1_count_6 : decode cX1_count 6 = .ok (.iconst 0, 1) := by decide +kernel
theorem dX1_count_7 : decode cX1_count 7 = .ok (.invokevirtual 75, 3) := by decide +kernel
theorem dX1_count_10 : decode cX1_count 10 = .ok (.ifCond .eq 5, 3) := by decide +kernel
theorem dX1_count_13 : decode cX1_count 13 = .ok (.iconst 0, 1) := by decide +kernel
theorem dX1_count_14 : decode cX1_count 14 = .ok (.ireturn, 1) := by decide +kernel
theorem dX1_count_15 : decode cX1_count 15 = .ok (.iconst 0, 1) := by decide +kernel
theorem dX1_count_16 : decode cX1_count 16 = .ok (.istore_n 1, 1) := by decide +kernel
theorem dX1_count_17 : decode cX1_count 17 = .ok (.aload_n 0, 1) := by decide +kernel
theorem dX1_count_18 : decode cX1_count 18 = .ok (.getfield 52, 3) := by decide +kernel
theorem dX1_count_21 : decode cX1_count 21 = .ok (.istore_n 2, 1) := by decide +kernel
theorem dX1_count_22 : decode cX1_count 22 = .ok (.iload_n 2, 1) := by decide +kernel
theorem dX1_count_23 : decode cX1_count 23 = .ok (.aload_n 0, 1) := by decide +kernel
theorem dX1_count_24 : decode cX1_count 24 = .ok (.getfield 46, 3) := by decide +kernel
theorem dX1_count_27 : decode cX1_count 27 = .ok (.if_icmp .ge 26, 3) := by decide +kernel
theorem dX1_count_30 : decode cX1_count 30 = .ok (.aload_n 0, 1) := by decide +kernel
theorem dX1_count_31 : decode cX1_count 31 = .ok (.getfield 35, 3) := by decide +kernel
theorem dX1_count_34 : decode cX1_count 34 = .ok (.iload_n 2, 1) := by decide +kernel
theorem dX1_count_35 : decode cX1_count 35 = .ok (.baload, 1) := by decide +kernel
theorem dX1_count_36 : decode cX1_count 36 = .ok (.ifCond .eq 7, 3) := by decide +kernel
theorem dX1_count_39 : decode cX1_count 39 = .ok (.iload_n 1, 1) := by decide +kernel
theorem dX1_count_40 : decode cX1_count 40 = .ok (.goto 6, 3) := by decide +kernel
theorem dX1_count_43 : decode cX1_count 43 = .ok (.iload_n 1, 1) := by decide +kernel
theorem dX1_count_44 : decode cX1_count 44 = .ok (.iconst 1, 1) := by decide +kernel
theorem dX1_count_45 : decode cX1_count 45 = .ok (.iadd, 1) := by decide +kernel
theorem dX1_count_46 : decode cX1_count 46 = .ok (.istore_n 1, 1) := by decide +kernel
theorem dX1_count_47 : decode cX1_count 47 = .ok (.iinc 2 1, 3) := by decide +kernel
theorem dX1_count_50 : decode cX1_count 50 = .ok (.goto (-28), 3) := by decide +kernel
theorem dX1_count_53 : decode cX1_count 53 = .ok (.iload_n 1, 1) := by decide +kernel
theorem dX1_count_54 : decode cX1_count 54 = .ok (.ireturn, 1) := by decide +kernel
theorem dX1_log_0 : decode cX1_log 0 = .ok (.aload_n 0, 1) := by decide +kernel
theorem dX1_log_1 : decode cX1_log 1 = .ok (.iload_n 1, 1) := by decide +kernel
theorem dX1_log_2 : decode cX1_log 2 = .ok (.iconst 0, 1) := by decide +kernel
theorem dX1_log_3 : decode cX1_log 3 = .ok (.iconst 2, 1) := by decide +kernel
theorem dX1_log_4 : decode cX1_log 4 = .ok (.invokestatic 83, 3) := by decide +kernel
theorem dX1_log_7 : decode cX1_log 7 = .ok (.ifCond .ne 7, 3) := by decide +kernel
theorem dX1_log_10 : decode cX1_log 10 = .ok (.iconst 1, 1) := by decide +kernel
theorem dX1_log_11 : decode cX1_log 11 = .ok (.goto 4, 3) := by decide +kernel
theorem dX1_log_14 : decode cX1_log 14 = .ok (.iconst 0, 1) := by decide +kernel
theorem dX1_log_15 : decode cX1_log 15 = .ok (.iconst 0, 1) := by decide +kernel
theorem dX1_log_16 : decode cX1_log 16 = .ok (.iconst 0, 1) := by decide +kernel
theorem dX1_log_17 : decode cX1_log 17 = .ok (.invokevirtual 75, 3) := by decide +kernel
theorem dX1_log_20 : decode cX1_log 20 = .ok (.ifCond .eq 5, 3) := by decide +kernel
theorem dX1_log_23 : decode cX1_log 23 = .ok (.iconst 0, 1) := by decide +kernel
theorem dX1_log_24 : decode cX1_log 24 = .ok (.ireturn, 1) := by decide +kernel
theorem dX1_log_25 : decode cX1_log 25 = .ok (.iload_n 1, 1) := by decide +kernel
theorem dX1_log_26 : decode cX1_log 26 = .ok (.ifCond .ne 10, 3) := by decide +kernel
theorem dX1_log_29 : decode cX1_log 29 = .ok (.aload_n 0, 1) := by decide +kernel
theorem dX1_log_30 : decode cX1_log 30 = .ok (.getfield 87, 3) := by decide +kernel
theorem dX1_log_33 : decode cX1_log 33 = .ok (.goto 19, 3) := by decide +kernel
theorem dX1_log_36 : decode cX1_log 36 = .ok (.iload_n 1, 1) := by decide +kernel
theorem dX1_log_37 : decode cX1_log 37 = .ok (.iconst 1, 1) := by decide +kernel
theorem dX1_log_38 : decode cX1_log 38 = .ok (.if_icmp .ne 10, 3) := by decide +kernel
theorem dX1_log_41 : decode cX1_log 41 = .ok (.aload_n 0, 1) := by decide +kernel
theorem dX1_log_42 : decode cX1_log 42 = .ok (.getfield 59, 3) := by decide +kernel
theorem dX1_log_45 : decode cX1_log 45 = .ok (.goto 7, 3) := by decide +kernel
theorem dX1_log_48 : decode cX1_log 48 = .ok (.aload_n 0, 1) := by decide +kernel
theorem dX1_log_49 : decode cX1_log 49 = .ok (.getfield 62, 3) := by decide +kernel
theorem dX1_log_52 : decode cX1_log 52 = .ok (.ireturn, 1) := by decide +kernel
