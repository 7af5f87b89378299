theorem i_0_0 : am_ins 0 0 = some (.aload_n 0, 0, 0, .null) := by decide +kernel
theorem i_0_1 : am_ins 0 1 = some (.invokespecial 1, 999, 0, .null) := by decide +kernel
theorem i_0_4 : am_ins 0 4 = some (.aload_n 0, 0, 0, .null) := by decide +kernel
theorem i_0_5 : am_ins 0 5 = some (.bipush 60, 0, 0, .int 60) := by decide +kernel
theorem i_0_7 : am_ins 0 7 = some (.anewarray 9, 102, 0, .null) := by decide +kernel
theorem i_0_10 : am_ins 0 10 = some (.putfield 11, 0, 0, .null) := by decide +kernel
theorem i_0_13 : am_ins 0 13 = some (.aload_n 0, 0, 0, .null) := by decide +kernel
theorem i_0_14 : am_ins 0 14 = some (.bipush 20, 0, 0, .int 20) := by decide +kernel
theorem i_0_16 : am_ins 0 16 = some (.anewarray 15, 103, 0, .null) := by decide +kernel
theorem i_0_19 : am_ins 0 19 = some (.putfield 17, 0, 1, .null) := by decide +kernel
theorem i_0_22 : am_ins 0 22 = some (.aload_n 0, 0, 0, .null) := by decide +kernel
theorem i_0_23 : am_ins 0 23 = some (.sipush 200, 0, 0, .int 200) := by decide +kernel
theorem i_0_26 : am_ins 0 26 = some (.anewarray 21, 104, 0, .null) := by decide +kernel
theorem i_0_29 : am_ins 0 29 = some (.putfield 23, 0, 2, .null) := by decide +kernel
theorem i_0_32 : am_ins 0 32 = some (.aload_n 0, 0, 0, .null) := by decide +kernel
theorem i_0_33 : am_ins 0 33 = some (.bipush 10, 0, 0, .int 10) := by decide +kernel
theorem i_0_35 : am_ins 0 35 = some (.newarray .int, 100, 0, .null) := by decide +kernel
theorem i_0_37 : am_ins 0 37 = some (.putfield 27, 0, 3, .null) := by decide +kernel
theorem i_0_40 : am_ins 0 40 = some (.aload_n 0, 0, 0, .null) := by decide +kernel
theorem i_0_41 : am_ins 0 41 = some (.bipush 10, 0, 0, .int 10) := by decide +kernel
theorem i_0_43 : am_ins 0 43 = some (.newarray .int, 100, 0, .null) := by decide +kernel
theorem i_0_45 : am_ins 0 45 = some (.putfield 31, 0, 4, .null) := by decide +kernel
theorem i_0_48 : am_ins 0 48 = some (.iconst 0, 0, 0, .int 0) := by decide +kernel
theorem i_0_49 : am_ins 0 49 = some (.istore_n 1, 1, 0, .null) := by decide +kernel
theorem i_0_50 : am_ins 0 50 = some (.iload_n 1, 1, 0, .null) := by decide +kernel
theorem i_0_51 : am_ins 0 51 = some (.bipush 10, 0, 0, .int 10) := by decide +kernel
theorem i_0_53 : am_ins 0 53 = some (.if_icmp .ge 17, 70, 0, .null) := by decide +kernel
theorem i_0_56 : am_ins 0 56 = some (.aload_n 0, 0, 0, .null) := by decide +kernel
theorem i_0_57 : am_ins 0 57 = some (.getfield 27, 0, 3, .null) := by decide +kernel
theorem i_0_60 : am_ins 0 60 = some (.iload_n 1, 1, 0, .null) := by decide +kernel
theorem i_0_61 : am_ins 0 61 = some (.bipush 50, 0, 0, .int 50) := by decide +kernel
theorem i_0_63 : am_ins 0 63 = some (.iastore, 0, 0, .null) := by decide +kernel
theorem i_0_64 : am_ins 0 64 = some (.iinc 1 1, 1, 0, .int 1) := by decide +kernel
theorem i_0_67 : am_ins 0 67 = some (.goto (-17), 50, 0, .null) := by decide +kernel
theorem i_0_70 : am_ins 0 70 = some (.return_, 0, 0, .null) := by decide +kernel
theorem i_1_0 : am_ins 1 0 = some (.iload_n 1, 1, 0, .null) := by decide +kernel
theorem i_1_1 : am_ins 1 1 = some (.invokestatic 34, 22, 1, .null) := by decide +kernel
theorem i_1_4 : am_ins 1 4 = some (.ifCond .eq 20, 24, 0, .null) := by decide +kernel
theorem i_1_7 : am_ins 1 7 = some (.iload_n 2, 2, 0, .null) := by decide +kernel
theorem i_1_8 : am_ins 1 8 = some (.invokestatic 38, 23, 1, .null) := by decide +kernel
theorem i_1_11 : am_ins 1 11 = some (.ifCond .eq 13, 24, 0, .null) := by decide +kernel
theorem i_1_14 : am_ins 1 14 = some (.iload_n 3, 3, 0, .null) := by decide +kernel
theorem i_1_15 : am_ins 1 15 = some (.sipush 255, 0, 0, .int 255) := by decide +kernel
theorem i_1_18 : am_ins 1 18 = some (.invokestatic 41, 21, 2, .null) := by decide +kernel
theorem i_1_21 : am_ins 1 21 = some (.ifCond .ne 6, 27, 0, .null) := by decide +kernel
theorem i_1_24 : am_ins 1 24 = some (.bipush (-4), 0, 0, .int (-4)) := by decide +kernel
theorem i_1_26 : am_ins 1 26 = some (.ireturn, 0, 0, .null) := by decide +kernel
theorem i_1_27 : am_ins 1 27 = some (.aload_n 0, 0, 0, .null) := by decide +kernel
theorem i_1_28 : am_ins 1 28 = some (.getfield 45, 0, 5, .null) := by decide +kernel
theorem i_1_31 : am_ins 1 31 = some (.bipush 60, 0, 0, .int 60) := by decide +kernel
theorem i_1_33 : am_ins 1 33 = some (.if_icmp .lt 5, 38, 0, .null) := by decide +kernel
theorem i_1_36 : am_ins 1 36 = some (.iconst (-1), 0, 0, .int (-1)) := by decide +kernel
theorem i_1_37 : am_ins 1 37 = some (.ireturn, 0, 0, .null) := by decide +kernel
theorem i_1_38 : am_ins 1 38 = some (.aload_n 0, 0, 0, .null) := by decide +kernel
theorem i_1_39 : am_ins 1 39 = some (.getfield 11, 0, 0, .null) := by decide +kernel
theorem i_1_42 : am_ins 1 42 = some (.aload_n 0, 0, 0, .null) := by decide +kernel
theorem i_1_43 : am_ins 1 43 = some (.getfield 45, 0, 5, .null) := by decide +kernel
theorem i_1_46 : am_ins 1 46 = some (.new 9, 1, 0, .null) := by decide +kernel
theorem i_1_49 : am_ins 1 49 = some (.dup, 0, 0, .null) := by decide +kernel
theorem i_1_50 : am_ins 1 50 = some (.aload_n 0, 0, 0, .null) := by decide +kernel
theorem i_1_51 : am_ins 1 51 = some (.getfield 45, 0, 5, .null) := by decide +kernel
theorem i_1_54 : am_ins 1 54 = some (.iconst 1, 0, 0, .int 1) := by decide +kernel
theorem i_1_55 : am_ins 1 55 = some (.iadd, 0, 0, .null) := by decide +kernel
theorem i_1_56 : am_ins 1 56 = some (.iload_n 1, 1, 0, .null) := by decide +kernel
theorem i_1_57 : am_ins 1 57 = some (.iload_n 2, 2, 0, .null) := by decide +kernel
theorem i_1_58 : am_ins 1 58 = some (.iload_n 3, 3, 0, .null) := by decide +kernel
theorem i_1_59 : am_ins 1 59 = some (.invokespecial 49, 65, 4, .null) := by decide +kernel
theorem i_1_62 : am_ins 1 62 = some (.aastore, 0, 0, .null) := by decide +kernel
theorem i_1_63 : am_ins 1 63 = some (.aload_n 0, 0, 0, .null) := by decide +kernel
theorem i_1_64 : am_ins 1 64 = some (.dup, 0, 0, .null) := by decide +kernel
theorem i_1_65 : am_ins 1 65 = some (.getfield 45, 0, 5, .null) := by decide +kernel
theorem i_1_68 : am_ins 1 68 = some (.iconst 1, 0, 0, .int 1) := by decide +kernel
theorem i_1_69 : am_ins 1 69 = some (.iadd, 0, 0, .null) := by decide +kernel
theorem i_1_70 : am_ins 1 70 = some (.putfield 45, 0, 5, .null) := by decide +kernel
theorem i_1_73 : am_ins 1 73 = some (.aload_n 0, 0, 0, .null) := by decide +kernel
theorem i_1_74 : am_ins 1 74 = some (.getfield 45, 0, 5, .null) := by decide +kernel
theorem i_1_77 : am_ins 1 77 = some (.ireturn, 0, 0, .null) := by decide +kernel
theorem i_2_0 : am_ins 2 0 = some (.aload_n 0, 0, 0, .null) := by decide +kernel
theorem i_2_1 : am_ins 2 1 = some (.getfield 52, 0, 6, .null) := by decide +kernel
theorem i_2_4 : am_ins 2 4 = some (.bipush 20, 0, 0, .int 20) := by decide +kernel
theorem i_2_6 : am_ins 2 6 = some (.if_icmp .lt 5, 11, 0, .null) := by decide +kernel
theorem i_2_9 : am_ins 2 9 = some (.iconst (-1), 0, 0, .int (-1)) := by decide +kernel
theorem i_2_10 : am_ins 2 10 = some (.ireturn, 0, 0, .null) := by decide +kernel
theorem i_2_11 : am_ins 2 11 = some (.aload_n 0, 0, 0, .null) := by decide +kernel
theorem i_2_12 : am_ins 2 12 = some (.getfield 17, 0, 1, .null) := by decide +kernel
theorem i_2_15 : am_ins 2 15 = some (.aload_n 0, 0, 0, .null) := by decide +kernel
theorem i_2_16 : am_ins 2 16 = some (.getfield 52, 0, 6, .null) := by decide +kernel
theorem i_2_19 : am_ins 2 19 = some (.new 15, 2, 0, .null) := by decide +kernel
theorem i_2_22 : am_ins 2 22 = some (.dup, 0, 0, .null) := by decide +kernel
theorem i_2_23 : am_ins 2 23 = some (.aload_n 0, 0, 0, .null) := by decide +kernel
theorem i_2_24 : am_ins 2 24 = some (.getfield 52, 0, 6, .null) := by decide +kernel
theorem i_2_27 : am_ins 2 27 = some (.iconst 1, 0, 0, .int 1) := by decide +kernel
theorem i_2_28 : am_ins 2 28 = some (.iadd, 0, 0, .null) := by decide +kernel
theorem i_2_29 : am_ins 2 29 = some (.invokespecial 55, 70, 1, .null) := by decide +kernel
theorem i_2_32 : am_ins 2 32 = some (.aastore, 0, 0, .null) := by decide +kernel
theorem i_2_33 : am_ins 2 33 = some (.aload_n 0, 0, 0, .null) := by decide +kernel
theorem i_2_34 : am_ins 2 34 = some (.dup, 0, 0, .null) := by decide +kernel
theorem i_2_35 : am_ins 2 35 = some (.getfield 52, 0, 6, .null) := by decide +kernel
theorem i_2_38 : am_ins 2 38 = some (.iconst 1, 0, 0, .int 1) := by decide +kernel
theorem i_2_39 : am_ins 2 39 = some (.iadd, 0, 0, .null) := by decide +kernel
theorem i_2_40 : am_ins 2 40 = some (.putfield 52, 0, 6, .null) := by decide +kernel
theorem i_2_43 : am_ins 2 43 = some (.aload_n 0, 0, 0, .null) := by decide +kernel
theorem i_2_44 : am_ins 2 44 = some (.getfield 52, 0, 6, .null) := by decide +kernel
theorem i_2_47 : am_ins 2 47 = some (.ireturn, 0, 0, .null) := by decide +kernel
theorem i_3_0 : am_ins 3 0 = some (.aload_n 0, 0, 0, .null) := by decide +kernel
theorem i_3_1 : am_ins 3 1 = some (.iload_n 2, 2, 0, .null) := by decide +kernel
theorem i_3_2 : am_ins 3 2 = some (.invokevirtual 58, 26, 1, .null) := by decide +kernel
theorem i_3_5 : am_ins 3 5 = some (.astore 5, 5, 0, .null) := by decide +kernel
theorem i_3_7 : am_ins 3 7 = some (.aload 5, 5, 0, .null) := by decide +kernel
theorem i_3_9 : am_ins 3 9 = some (.ifnonnull 10, 19, 0, .null) := by decide +kernel
theorem i_3_12 : am_ins 3 12 = some (.iload_n 2, 2, 0, .null) := by decide +kernel
theorem i_3_13 : am_ins 3 13 = some (.ifCond .eq 6, 19, 0, .null) := by decide +kernel
theorem i_3_16 : am_ins 3 16 = some (.bipush (-2), 0, 0, .int (-2)) := by decide +kernel
theorem i_3_18 : am_ins 3 18 = some (.ireturn, 0, 0, .null) := by decide +kernel
theorem i_3_19 : am_ins 3 19 = some (.iload_n 1, 1, 0, .null) := by decide +kernel
theorem i_3_20 : am_ins 3 20 = some (.ifCond .ne 12, 32, 0, .null) := by decide +kernel
theorem i_3_23 : am_ins 3 23 = some (.aload_n 0, 0, 0, .null) := by decide +kernel
theorem i_3_24 : am_ins 3 24 = some (.aload 5, 5, 0, .null) := by decide +kernel
theorem i_3_26 : am_ins 3 26 = some (.invokevirtual 62, 28, 1, .null) := by decide +kernel
theorem i_3_29 : am_ins 3 29 = some (.goto 8, 37, 0, .null) := by decide +kernel
theorem i_3_32 : am_ins 3 32 = some (.aload_n 0, 0, 0, .null) := by decide +kernel
theorem i_3_33 : am_ins 3 33 = some (.iload_n 1, 1, 0, .null) := by decide +kernel
theorem i_3_34 : am_ins 3 34 = some (.invokevirtual 66, 25, 1, .null) := by decide +kernel
theorem i_3_37 : am_ins 3 37 = some (.astore 6, 6, 0, .null) := by decide +kernel
theorem i_3_39 : am_ins 3 39 = some (.aload 6, 6, 0, .null) := by decide +kernel
theorem i_3_41 : am_ins 3 41 = some (.ifnonnull 6, 47, 0, .null) := by decide +kernel
theorem i_3_44 : am_ins 3 44 = some (.bipush (-2), 0, 0, .int (-2)) := by decide +kernel
theorem i_3_46 : am_ins 3 46 = some (.ireturn, 0, 0, .null) := by decide +kernel
theorem i_3_47 : am_ins 3 47 = some (.lload_n 3, 3, 0, .null) := by decide +kernel
theorem i_3_48 : am_ins 3 48 = some (.lconst 0, 0, 0, .long 0) := by decide +kernel
theorem i_3_49 : am_ins 3 49 = some (.lcmp, 0, 0, .null) := by decide +kernel
theorem i_3_50 : am_ins 3 50 = some (.ifCond .ge 6, 56, 0, .null) := by decide +kernel
theorem i_3_53 : am_ins 3 53 = some (.bipush (-4), 0, 0, .int (-4)) := by decide +kernel
theorem i_3_55 : am_ins 3 55 = some (.ireturn, 0, 0, .null) := by decide +kernel
theorem i_3_56 : am_ins 3 56 = some (.aload_n 0, 0, 0, .null) := by decide +kernel
theorem i_3_57 : am_ins 3 57 = some (.getfield 70, 0, 7, .null) := by decide +kernel
theorem i_3_60 : am_ins 3 60 = some (.sipush 200, 0, 0, .int 200) := by decide +kernel
theorem i_3_63 : am_ins 3 63 = some (.if_icmp .lt 5, 68, 0, .null) := by decide +kernel
theorem i_3_66 : am_ins 3 66 = some (.iconst (-1), 0, 0, .int (-1)) := by decide +kernel
theorem i_3_67 : am_ins 3 67 = some (.ireturn, 0, 0, .null) := by decide +kernel
theorem i_3_68 : am_ins 3 68 = some (.iload_n 1, 1, 0, .null) := by decide +kernel
theorem i_3_69 : am_ins 3 69 = some (.ifCond .ne 14, 83, 0, .null) := by decide +kernel
theorem i_3_72 : am_ins 3 72 = some (.aload 5, 5, 0, .null) := by decide +kernel
theorem i_3_74 : am_ins 3 74 = some (.ifnull 9, 83, 0, .null) := by decide +kernel
theorem i_3_77 : am_ins 3 77 = some (.aload 5, 5, 0, .null) := by decide +kernel
theorem i_3_79 : am_ins 3 79 = some (.iconst 0, 0, 0, .int 0) := by decide +kernel
theorem i_3_80 : am_ins 3 80 = some (.putfield 73, 2, 1, .null) := by decide +kernel
theorem i_3_83 : am_ins 3 83 = some (.aload_n 0, 0, 0, .null) := by decide +kernel
theorem i_3_84 : am_ins 3 84 = some (.getfield 23, 0, 2, .null) := by decide +kernel
theorem i_3_87 : am_ins 3 87 = some (.aload_n 0, 0, 0, .null) := by decide +kernel
theorem i_3_88 : am_ins 3 88 = some (.getfield 70, 0, 7, .null) := by decide +kernel
theorem i_3_91 : am_ins 3 91 = some (.new 21, 4, 0, .null) := by decide +kernel
theorem i_3_94 : am_ins 3 94 = some (.dup, 0, 0, .null) := by decide +kernel
theorem i_3_95 : am_ins 3 95 = some (.aload_n 0, 0, 0, .null) := by decide +kernel
theorem i_3_96 : am_ins 3 96 = some (.getfield 70, 0, 7, .null) := by decide +kernel
theorem i_3_99 : am_ins 3 99 = some (.iconst 1, 0, 0, .int 1) := by decide +kernel
theorem i_3_100 : am_ins 3 100 = some (.iadd, 0, 0, .null) := by decide +kernel
theorem i_3_101 : am_ins 3 101 = some (.aload 6, 6, 0, .null) := by decide +kernel
theorem i_3_103 : am_ins 3 103 = some (.aload 5, 5, 0, .null) := by decide +kernel
theorem i_3_105 : am_ins 3 105 = some (.lload_n 3, 3, 0, .null) := by decide +kernel
theorem i_3_106 : am_ins 3 106 = some (.invokespecial 76, 68, 4, .null) := by decide +kernel
theorem i_3_109 : am_ins 3 109 = some (.aastore, 0, 0, .null) := by decide +kernel
theorem i_3_110 : am_ins 3 110 = some (.aload_n 0, 0, 0, .null) := by decide +kernel
theorem i_3_111 : am_ins 3 111 = some (.dup, 0, 0, .null) := by decide +kernel
theorem i_3_112 : am_ins 3 112 = some (.getfield 70, 0, 7, .null) := by decide +kernel
theorem i_3_115 : am_ins 3 115 = some (.iconst 1, 0, 0, .int 1) := by decide +kernel
theorem i_3_116 : am_ins 3 116 = some (.iadd, 0, 0, .null) := by decide +kernel
theorem i_3_117 : am_ins 3 117 = some (.putfield 70, 0, 7, .null) := by decide +kernel
theorem i_3_120 : am_ins 3 120 = some (.aload_n 0, 0, 0, .null) := by decide +kernel
theorem i_3_121 : am_ins 3 121 = some (.invokevirtual 79, 31, 0, .null) := by decide +kernel
theorem i_3_124 : am_ins 3 124 = some (.pop, 0, 0, .null) := by decide +kernel
theorem i_3_125 : am_ins 3 125 = some (.aload_n 0, 0, 0, .null) := by decide +kernel
theorem i_3_126 : am_ins 3 126 = some (.getfield 70, 0, 7, .null) := by decide +kernel
theorem i_3_129 : am_ins 3 129 = some (.ireturn, 0, 0, .null) := by decide +kernel
theorem i_4_0 : am_ins 4 0 = some (.aload_n 0, 0, 0, .null) := by decide +kernel
theorem i_4_1 : am_ins 4 1 = some (.iload_n 1, 1, 0, .null) := by decide +kernel
theorem i_4_2 : am_ins 4 2 = some (.invokevirtual 83, 27, 1, .null) := by decide +kernel
theorem i_4_5 : am_ins 4 5 = some (.astore 4, 4, 0, .null) := by decide +kernel
theorem i_4_7 : am_ins 4 7 = some (.aload 4, 4, 0, .null) := by decide +kernel
theorem i_4_9 : am_ins 4 9 = some (.ifnonnull 6, 15, 0, .null) := by decide +kernel
theorem i_4_12 : am_ins 4 12 = some (.bipush (-2), 0, 0, .int (-2)) := by decide +kernel
theorem i_4_14 : am_ins 4 14 = some (.ireturn, 0, 0, .null) := by decide +kernel
theorem i_4_15 : am_ins 4 15 = some (.iload_n 2, 2, 0, .null) := by decide +kernel
theorem i_4_16 : am_ins 4 16 = some (.iconst 2, 0, 0, .int 2) := by decide +kernel
theorem i_4_17 : am_ins 4 17 = some (.if_icmp .eq 7, 24, 0, .null) := by decide +kernel
theorem i_4_20 : am_ins 4 20 = some (.iconst 1, 0, 0, .int 1) := by decide +kernel
theorem i_4_21 : am_ins 4 21 = some (.goto 4, 25, 0, .null) := by decide +kernel
theorem i_4_24 : am_ins 4 24 = some (.iconst 0, 0, 0, .int 0) := by decide +kernel
theorem i_4_25 : am_ins 4 25 = some (.istore 5, 5, 0, .null) := by decide +kernel
theorem i_4_27 : am_ins 4 27 = some (.iload_n 2, 2, 0, .null) := by decide +kernel
theorem i_4_28 : am_ins 4 28 = some (.iconst 2, 0, 0, .int 2) := by decide +kernel
theorem i_4_29 : am_ins 4 29 = some (.invokestatic 41, 21, 2, .null) := by decide +kernel
theorem i_4_32 : am_ins 4 32 = some (.ifCond .eq 17, 49, 0, .null) := by decide +kernel
theorem i_4_35 : am_ins 4 35 = some (.iload 5, 5, 0, .null) := by decide +kernel
theorem i_4_37 : am_ins 4 37 = some (.ifCond .eq 15, 52, 0, .null) := by decide +kernel
theorem i_4_40 : am_ins 4 40 = some (.iload_n 3, 3, 0, .null) := by decide +kernel
theorem i_4_41 : am_ins 4 41 = some (.bipush 15, 0, 0, .int 15) := by decide +kernel
theorem i_4_43 : am_ins 4 43 = some (.invokestatic 41, 21, 2, .null) := by decide +kernel
theorem i_4_46 : am_ins 4 46 = some (.ifCond .ne 6, 52, 0, .null) := by decide +kernel
theorem i_4_49 : am_ins 4 49 = some (.bipush (-4), 0, 0, .int (-4)) := by decide +kernel
theorem i_4_51 : am_ins 4 51 = some (.ireturn, 0, 0, .null) := by decide +kernel
theorem i_4_52 : am_ins 4 52 = some (.iload_n 2, 2, 0, .null) := by decide +kernel
theorem i_4_53 : am_ins 4 53 = some (.iconst 1, 0, 0, .int 1) := by decide +kernel
theorem i_4_54 : am_ins 4 54 = some (.if_icmp .ne 11, 65, 0, .null) := by decide +kernel
theorem i_4_57 : am_ins 4 57 = some (.aload_n 0, 0, 0, .null) := by decide +kernel
theorem i_4_58 : am_ins 4 58 = some (.aload 4, 4, 0, .null) := by decide +kernel
theorem i_4_60 : am_ins 4 60 = some (.iload_n 3, 3, 0, .null) := by decide +kernel
theorem i_4_61 : am_ins 4 61 = some (.invokevirtual 87, 29, 2, .null) := by decide +kernel
theorem i_4_64 : am_ins 4 64 = some (.ireturn, 0, 0, .null) := by decide +kernel
theorem i_4_65 : am_ins 4 65 = some (.aload 4, 4, 0, .null) := by decide +kernel
theorem i_4_67 : am_ins 4 67 = some (.getfield 91, 4, 4, .null) := by decide +kernel
theorem i_4_70 : am_ins 4 70 = some (.iconst 1, 0, 0, .int 1) := by decide +kernel
theorem i_4_71 : am_ins 4 71 = some (.if_icmp .eq 6, 77, 0, .null) := by decide +kernel
theorem i_4_74 : am_ins 4 74 = some (.bipush (-5), 0, 0, .int (-5)) := by decide +kernel
theorem i_4_76 : am_ins 4 76 = some (.ireturn, 0, 0, .null) := by decide +kernel
theorem i_4_77 : am_ins 4 77 = some (.iload_n 2, 2, 0, .null) := by decide +kernel
theorem i_4_78 : am_ins 4 78 = some (.ifCond .ne 18, 96, 0, .null) := by decide +kernel
theorem i_4_81 : am_ins 4 81 = some (.aload 4, 4, 0, .null) := by decide +kernel
theorem i_4_83 : am_ins 4 83 = some (.iconst 2, 0, 0, .int 2) := by decide +kernel
theorem i_4_84 : am_ins 4 84 = some (.putfield 91, 4, 4, .null) := by decide +kernel
theorem i_4_87 : am_ins 4 87 = some (.aload 4, 4, 0, .null) := by decide +kernel
theorem i_4_89 : am_ins 4 89 = some (.iload_n 3, 3, 0, .null) := by decide +kernel
theorem i_4_90 : am_ins 4 90 = some (.putfield 94, 4, 5, .null) := by decide +kernel
theorem i_4_93 : am_ins 4 93 = some (.goto 10, 103, 0, .null) := by decide +kernel
theorem i_4_96 : am_ins 4 96 = some (.aload_n 0, 0, 0, .null) := by decide +kernel
theorem i_4_97 : am_ins 4 97 = some (.aload 4, 4, 0, .null) := by decide +kernel
theorem i_4_99 : am_ins 4 99 = some (.iconst 3, 0, 0, .int 3) := by decide +kernel
theorem i_4_100 : am_ins 4 100 = some (.invokevirtual 97, 30, 2, .null) := by decide +kernel
theorem i_4_103 : am_ins 4 103 = some (.aload 4, 4, 0, .null) := by decide +kernel
theorem i_4_105 : am_ins 4 105 = some (.getfield 91, 4, 4, .null) := by decide +kernel
theorem i_4_108 : am_ins 4 108 = some (.ireturn, 0, 0, .null) := by decide +kernel
theorem i_5_0 : am_ins 5 0 = some (.aload_n 0, 0, 0, .null) := by decide +kernel
theorem i_5_1 : am_ins 5 1 = some (.iload_n 1, 1, 0, .null) := by decide +kernel
theorem i_5_2 : am_ins 5 2 = some (.invokevirtual 83, 27, 1, .null) := by decide +kernel
theorem i_5_5 : am_ins 5 5 = some (.astore_n 3, 3, 0, .null) := by decide +kernel
theorem i_5_6 : am_ins 5 6 = some (.aload_n 3, 3, 0, .null) := by decide +kernel
theorem i_5_7 : am_ins 5 7 = some (.ifnonnull 6, 13, 0, .null) := by decide +kernel
theorem i_5_10 : am_ins 5 10 = some (.bipush (-2), 0, 0, .int (-2)) := by decide +kernel
theorem i_5_12 : am_ins 5 12 = some (.ireturn, 0, 0, .null) := by decide +kernel
theorem i_5_13 : am_ins 5 13 = some (.iload_n 2, 2, 0, .null) := by decide +kernel
theorem i_5_14 : am_ins 5 14 = some (.invokestatic 34, 22, 1, .null) := by decide +kernel
theorem i_5_17 : am_ins 5 17 = some (.ifCond .ne 6, 23, 0, .null) := by decide +kernel
theorem i_5_20 : am_ins 5 20 = some (.bipush (-4), 0, 0, .int (-4)) := by decide +kernel
theorem i_5_22 : am_ins 5 22 = some (.ireturn, 0, 0, .null) := by decide +kernel
theorem i_5_23 : am_ins 5 23 = some (.aload_n 3, 3, 0, .null) := by decide +kernel
theorem i_5_24 : am_ins 5 24 = some (.getfield 91, 4, 4, .null) := by decide +kernel
theorem i_5_27 : am_ins 5 27 = some (.iconst 1, 0, 0, .int 1) := by decide +kernel
theorem i_5_28 : am_ins 5 28 = some (.if_icmp .eq 6, 34, 0, .null) := by decide +kernel
theorem i_5_31 : am_ins 5 31 = some (.bipush (-5), 0, 0, .int (-5)) := by decide +kernel
theorem i_5_33 : am_ins 5 33 = some (.ireturn, 0, 0, .null) := by decide +kernel
theorem i_5_34 : am_ins 5 34 = some (.aload_n 3, 3, 0, .null) := by decide +kernel
theorem i_5_35 : am_ins 5 35 = some (.getfield 101, 4, 7, .null) := by decide +kernel
theorem i_5_38 : am_ins 5 38 = some (.getfield 105, 3, 1, .null) := by decide +kernel
theorem i_5_41 : am_ins 5 41 = some (.bipush 10, 0, 0, .int 10) := by decide +kernel
theorem i_5_43 : am_ins 5 43 = some (.if_icmp .lt 5, 48, 0, .null) := by decide +kernel
theorem i_5_46 : am_ins 5 46 = some (.iconst (-1), 0, 0, .int (-1)) := by decide +kernel
theorem i_5_47 : am_ins 5 47 = some (.ireturn, 0, 0, .null) := by decide +kernel
theorem i_5_48 : am_ins 5 48 = some (.aload_n 3, 3, 0, .null) := by decide +kernel
theorem i_5_49 : am_ins 5 49 = some (.new 106, 3, 0, .null) := by decide +kernel
theorem i_5_52 : am_ins 5 52 = some (.dup, 0, 0, .null) := by decide +kernel
theorem i_5_53 : am_ins 5 53 = some (.iload_n 2, 2, 0, .null) := by decide +kernel
theorem i_5_54 : am_ins 5 54 = some (.aload_n 3, 3, 0, .null) := by decide +kernel
theorem i_5_55 : am_ins 5 55 = some (.getfield 101, 4, 7, .null) := by decide +kernel
theorem i_5_58 : am_ins 5 58 = some (.getfield 105, 3, 1, .null) := by decide +kernel
theorem i_5_61 : am_ins 5 61 = some (.iconst 1, 0, 0, .int 1) := by decide +kernel
theorem i_5_62 : am_ins 5 62 = some (.iadd, 0, 0, .null) := by decide +kernel
theorem i_5_63 : am_ins 5 63 = some (.aload_n 3, 3, 0, .null) := by decide +kernel
theorem i_5_64 : am_ins 5 64 = some (.getfield 101, 4, 7, .null) := by decide +kernel
theorem i_5_67 : am_ins 5 67 = some (.invokespecial 110, 66, 3, .null) := by decide +kernel
theorem i_5_70 : am_ins 5 70 = some (.putfield 101, 4, 7, .null) := by decide +kernel
theorem i_5_73 : am_ins 5 73 = some (.aload_n 3, 3, 0, .null) := by decide +kernel
theorem i_5_74 : am_ins 5 74 = some (.getfield 101, 4, 7, .null) := by decide +kernel
theorem i_5_77 : am_ins 5 77 = some (.getfield 105, 3, 1, .null) := by decide +kernel
theorem i_5_80 : am_ins 5 80 = some (.ireturn, 0, 0, .null) := by decide +kernel
theorem i_6_0 : am_ins 6 0 = some (.aload_n 0, 0, 0, .null) := by decide +kernel
theorem i_6_1 : am_ins 6 1 = some (.iload_n 1, 1, 0, .null) := by decide +kernel
theorem i_6_2 : am_ins 6 2 = some (.invokevirtual 83, 27, 1, .null) := by decide +kernel
theorem i_6_5 : am_ins 6 5 = some (.astore 4, 4, 0, .null) := by decide +kernel
theorem i_6_7 : am_ins 6 7 = some (.aload 4, 4, 0, .null) := by decide +kernel
theorem i_6_9 : am_ins 6 9 = some (.ifnonnull 6, 15, 0, .null) := by decide +kernel
theorem i_6_12 : am_ins 6 12 = some (.bipush (-2), 0, 0, .int (-2)) := by decide +kernel
theorem i_6_14 : am_ins 6 14 = some (.ireturn, 0, 0, .null) := by decide +kernel
theorem i_6_15 : am_ins 6 15 = some (.iload_n 2, 2, 0, .null) := by decide +kernel
theorem i_6_16 : am_ins 6 16 = some (.ifCond .eq 11, 27, 0, .null) := by decide +kernel
theorem i_6_19 : am_ins 6 19 = some (.aload_n 0, 0, 0, .null) := by decide +kernel
theorem i_6_20 : am_ins 6 20 = some (.iload_n 2, 2, 0, .null) := by decide +kernel
theorem i_6_21 : am_ins 6 21 = some (.invokevirtual 66, 25, 1, .null) := by decide +kernel
theorem i_6_24 : am_ins 6 24 = some (.ifnull 7, 31, 0, .null) := by decide +kernel
theorem i_6_27 : am_ins 6 27 = some (.iconst 1, 0, 0, .int 1) := by decide +kernel
theorem i_6_28 : am_ins 6 28 = some (.goto 4, 32, 0, .null) := by decide +kernel
theorem i_6_31 : am_ins 6 31 = some (.iconst 0, 0, 0, .int 0) := by decide +kernel
theorem i_6_32 : am_ins 6 32 = some (.istore 5, 5, 0, .null) := by decide +kernel
theorem i_6_34 : am_ins 6 34 = some (.iload 5, 5, 0, .null) := by decide +kernel
theorem i_6_36 : am_ins 6 36 = some (.ifCond .eq 13, 49, 0, .null) := by decide +kernel
theorem i_6_39 : am_ins 6 39 = some (.iload_n 3, 3, 0, .null) := by decide +kernel
theorem i_6_40 : am_ins 6 40 = some (.sipush 9999, 0, 0, .int 9999) := by decide +kernel
theorem i_6_43 : am_ins 6 43 = some (.invokestatic 41, 21, 2, .null) := by decide +kernel
theorem i_6_46 : am_ins 6 46 = some (.ifCond .ne 6, 52, 0, .null) := by decide +kernel
theorem i_6_49 : am_ins 6 49 = some (.bipush (-4), 0, 0, .int (-4)) := by decide +kernel
theorem i_6_51 : am_ins 6 51 = some (.ireturn, 0, 0, .null) := by decide +kernel
theorem i_6_52 : am_ins 6 52 = some (.aload 4, 4, 0, .null) := by decide +kernel
theorem i_6_54 : am_ins 6 54 = some (.getfield 91, 4, 4, .null) := by decide +kernel
theorem i_6_57 : am_ins 6 57 = some (.iconst 1, 0, 0, .int 1) := by decide +kernel
theorem i_6_58 : am_ins 6 58 = some (.if_icmp .eq 6, 64, 0, .null) := by decide +kernel
theorem i_6_61 : am_ins 6 61 = some (.bipush (-5), 0, 0, .int (-5)) := by decide +kernel
theorem i_6_63 : am_ins 6 63 = some (.ireturn, 0, 0, .null) := by decide +kernel
theorem i_6_64 : am_ins 6 64 = some (.aload 4, 4, 0, .null) := by decide +kernel
theorem i_6_66 : am_ins 6 66 = some (.getfield 101, 4, 7, .null) := by decide +kernel
theorem i_6_69 : am_ins 6 69 = some (.getfield 113, 3, 2, .null) := by decide +kernel
theorem i_6_72 : am_ins 6 72 = some (.astore 6, 6, 0, .null) := by decide +kernel
theorem i_6_74 : am_ins 6 74 = some (.aload 6, 6, 0, .null) := by decide +kernel
theorem i_6_76 : am_ins 6 76 = some (.ifnonnull 15, 91, 0, .null) := by decide +kernel
theorem i_6_79 : am_ins 6 79 = some (.aload 4, 4, 0, .null) := by decide +kernel
theorem i_6_81 : am_ins 6 81 = some (.getfield 116, 4, 2, .null) := by decide +kernel
theorem i_6_84 : am_ins 6 84 = some (.ifnull 7, 91, 0, .null) := by decide +kernel
theorem i_6_87 : am_ins 6 87 = some (.iconst 1, 0, 0, .int 1) := by decide +kernel
theorem i_6_88 : am_ins 6 88 = some (.goto 4, 92, 0, .null) := by decide +kernel
theorem i_6_91 : am_ins 6 91 = some (.iconst 0, 0, 0, .int 0) := by decide +kernel
theorem i_6_92 : am_ins 6 92 = some (.istore 7, 7, 0, .null) := by decide +kernel
theorem i_6_94 : am_ins 6 94 = some (.iload 7, 7, 0, .null) := by decide +kernel
theorem i_6_96 : am_ins 6 96 = some (.ifCond .ne 13, 109, 0, .null) := by decide +kernel
theorem i_6_99 : am_ins 6 99 = some (.iload_n 2, 2, 0, .null) := by decide +kernel
theorem i_6_100 : am_ins 6 100 = some (.ifCond .ne 7, 107, 0, .null) := by decide +kernel
theorem i_6_103 : am_ins 6 103 = some (.iload_n 3, 3, 0, .null) := by decide +kernel
theorem i_6_104 : am_ins 6 104 = some (.ifCond .eq 5, 109, 0, .null) := by decide +kernel
theorem i_6_107 : am_ins 6 107 = some (.iconst 0, 0, 0, .int 0) := by decide +kernel
theorem i_6_108 : am_ins 6 108 = some (.ireturn, 0, 0, .null) := by decide +kernel
theorem i_6_109 : am_ins 6 109 = some (.aload 6, 6, 0, .null) := by decide +kernel
theorem i_6_111 : am_ins 6 111 = some (.ifnull 12, 123, 0, .null) := by decide +kernel
theorem i_6_114 : am_ins 6 114 = some (.aload 4, 4, 0, .null) := by decide +kernel
theorem i_6_116 : am_ins 6 116 = some (.aload 6, 6, 0, .null) := by decide +kernel
theorem i_6_118 : am_ins 6 118 = some (.putfield 101, 4, 7, .null) := by decide +kernel
theorem i_6_121 : am_ins 6 121 = some (.iconst 1, 0, 0, .int 1) := by decide +kernel
theorem i_6_122 : am_ins 6 122 = some (.ireturn, 0, 0, .null) := by decide +kernel
theorem i_6_123 : am_ins 6 123 = some (.aload 4, 4, 0, .null) := by decide +kernel
theorem i_6_125 : am_ins 6 125 = some (.getfield 116, 4, 2, .null) := by decide +kernel
theorem i_6_128 : am_ins 6 128 = some (.ifnull 21, 149, 0, .null) := by decide +kernel
theorem i_6_131 : am_ins 6 131 = some (.aload 4, 4, 0, .null) := by decide +kernel
theorem i_6_133 : am_ins 6 133 = some (.getfield 116, 4, 2, .null) := by decide +kernel
theorem i_6_136 : am_ins 6 136 = some (.iload_n 2, 2, 0, .null) := by decide +kernel
theorem i_6_137 : am_ins 6 137 = some (.putfield 73, 2, 1, .null) := by decide +kernel
theorem i_6_140 : am_ins 6 140 = some (.aload 4, 4, 0, .null) := by decide +kernel
theorem i_6_142 : am_ins 6 142 = some (.getfield 116, 4, 2, .null) := by decide +kernel
theorem i_6_145 : am_ins 6 145 = some (.iload_n 3, 3, 0, .null) := by decide +kernel
theorem i_6_146 : am_ins 6 146 = some (.putfield 120, 2, 2, .null) := by decide +kernel
theorem i_6_149 : am_ins 6 149 = some (.aload_n 0, 0, 0, .null) := by decide +kernel
theorem i_6_150 : am_ins 6 150 = some (.aload 4, 4, 0, .null) := by decide +kernel
theorem i_6_152 : am_ins 6 152 = some (.iconst 3, 0, 0, .int 3) := by decide +kernel
theorem i_6_153 : am_ins 6 153 = some (.invokevirtual 97, 30, 2, .null) := by decide +kernel
theorem i_6_156 : am_ins 6 156 = some (.iconst 1, 0, 0, .int 1) := by decide +kernel
theorem i_6_157 : am_ins 6 157 = some (.ireturn, 0, 0, .null) := by decide +kernel
theorem i_7_0 : am_ins 7 0 = some (.aload_n 0, 0, 0, .null) := by decide +kernel
theorem i_7_1 : am_ins 7 1 = some (.iload_n 1, 1, 0, .null) := by decide +kernel
theorem i_7_2 : am_ins 7 2 = some (.invokevirtual 58, 26, 1, .null) := by decide +kernel
theorem i_7_5 : am_ins 7 5 = some (.astore_n 2, 2, 0, .null) := by decide +kernel
theorem i_7_6 : am_ins 7 6 = some (.aload_n 2, 2, 0, .null) := by decide +kernel
theorem i_7_7 : am_ins 7 7 = some (.ifnonnull 8, 15, 0, .null) := by decide +kernel
theorem i_7_10 : am_ins 7 10 = some (.bipush (-2), 0, 0, .int (-2)) := by decide +kernel
theorem i_7_12 : am_ins 7 12 = some (.goto 7, 19, 0, .null) := by decide +kernel
theorem i_7_15 : am_ins 7 15 = some (.aload_n 2, 2, 0, .null) := by decide +kernel
theorem i_7_16 : am_ins 7 16 = some (.getfield 120, 2, 2, .null) := by decide +kernel
theorem i_7_19 : am_ins 7 19 = some (.ireturn, 0, 0, .null) := by decide +kernel
theorem i_8_0 : am_ins 8 0 = some (.aload_n 0, 0, 0, .null) := by decide +kernel
theorem i_8_1 : am_ins 8 1 = some (.iload_n 1, 1, 0, .null) := by decide +kernel
theorem i_8_2 : am_ins 8 2 = some (.invokevirtual 83, 27, 1, .null) := by decide +kernel
theorem i_8_5 : am_ins 8 5 = some (.astore_n 3, 3, 0, .null) := by decide +kernel
theorem i_8_6 : am_ins 8 6 = some (.aload_n 3, 3, 0, .null) := by decide +kernel
theorem i_8_7 : am_ins 8 7 = some (.ifnonnull 6, 13, 0, .null) := by decide +kernel
theorem i_8_10 : am_ins 8 10 = some (.bipush (-2), 0, 0, .int (-2)) := by decide +kernel
theorem i_8_12 : am_ins 8 12 = some (.ireturn, 0, 0, .null) := by decide +kernel
theorem i_8_13 : am_ins 8 13 = some (.iload_n 2, 2, 0, .null) := by decide +kernel
theorem i_8_14 : am_ins 8 14 = some (.sipush 10000, 0, 0, .int 10000) := by decide +kernel
theorem i_8_17 : am_ins 8 17 = some (.invokestatic 41, 21, 2, .null) := by decide +kernel
theorem i_8_20 : am_ins 8 20 = some (.ifCond .ne 6, 26, 0, .null) := by decide +kernel
theorem i_8_23 : am_ins 8 23 = some (.bipush (-4), 0, 0, .int (-4)) := by decide +kernel
theorem i_8_25 : am_ins 8 25 = some (.ireturn, 0, 0, .null) := by decide +kernel
theorem i_8_26 : am_ins 8 26 = some (.aload_n 3, 3, 0, .null) := by decide +kernel
theorem i_8_27 : am_ins 8 27 = some (.invokevirtual 123, 69, 0, .null) := by decide +kernel
theorem i_8_30 : am_ins 8 30 = some (.ifCond .ne 6, 36, 0, .null) := by decide +kernel
theorem i_8_33 : am_ins 8 33 = some (.bipush (-5), 0, 0, .int (-5)) := by decide +kernel
theorem i_8_35 : am_ins 8 35 = some (.ireturn, 0, 0, .null) := by decide +kernel
theorem i_8_36 : am_ins 8 36 = some (.aload_n 3, 3, 0, .null) := by decide +kernel
theorem i_8_37 : am_ins 8 37 = some (.getfield 127, 4, 6, .null) := by decide +kernel
theorem i_8_40 : am_ins 8 40 = some (.iload_n 2, 2, 0, .null) := by decide +kernel
theorem i_8_41 : am_ins 8 41 = some (.iadd, 0, 0, .null) := by decide +kernel
theorem i_8_42 : am_ins 8 42 = some (.sipush 30000, 0, 0, .int 30000) := by decide +kernel
theorem i_8_45 : am_ins 8 45 = some (.if_icmp .le 5, 50, 0, .null) := by decide +kernel
theorem i_8_48 : am_ins 8 48 = some (.iconst (-1), 0, 0, .int (-1)) := by decide +kernel
theorem i_8_49 : am_ins 8 49 = some (.ireturn, 0, 0, .null) := by decide +kernel
theorem i_8_50 : am_ins 8 50 = some (.aload_n 3, 3, 0, .null) := by decide +kernel
theorem i_8_51 : am_ins 8 51 = some (.dup, 0, 0, .null) := by decide +kernel
theorem i_8_52 : am_ins 8 52 = some (.getfield 127, 4, 6, .null) := by decide +kernel
theorem i_8_55 : am_ins 8 55 = some (.iload_n 2, 2, 0, .null) := by decide +kernel
theorem i_8_56 : am_ins 8 56 = some (.iadd, 0, 0, .null) := by decide +kernel
theorem i_8_57 : am_ins 8 57 = some (.putfield 127, 4, 6, .null) := by decide +kernel
theorem i_8_60 : am_ins 8 60 = some (.aload_n 3, 3, 0, .null) := by decide +kernel
theorem i_8_61 : am_ins 8 61 = some (.getfield 127, 4, 6, .null) := by decide +kernel
theorem i_8_64 : am_ins 8 64 = some (.ireturn, 0, 0, .null) := by decide +kernel
theorem i_9_0 : am_ins 9 0 = some (.iload_n 1, 1, 0, .null) := by decide +kernel
theorem i_9_1 : am_ins 9 1 = some (.invokestatic 38, 23, 1, .null) := by decide +kernel
theorem i_9_4 : am_ins 9 4 = some (.ifCond .eq 12, 16, 0, .null) := by decide +kernel
theorem i_9_7 : am_ins 9 7 = some (.iload_n 2, 2, 0, .null) := by decide +kernel
theorem i_9_8 : am_ins 9 8 = some (.bipush 50, 0, 0, .int 50) := by decide +kernel
theorem i_9_10 : am_ins 9 10 = some (.invokestatic 41, 21, 2, .null) := by decide +kernel
theorem i_9_13 : am_ins 9 13 = some (.ifCond .ne 6, 19, 0, .null) := by decide +kernel
theorem i_9_16 : am_ins 9 16 = some (.bipush (-4), 0, 0, .int (-4)) := by decide +kernel
theorem i_9_18 : am_ins 9 18 = some (.ireturn, 0, 0, .null) := by decide +kernel
theorem i_9_19 : am_ins 9 19 = some (.aload_n 0, 0, 0, .null) := by decide +kernel
theorem i_9_20 : am_ins 9 20 = some (.getfield 27, 0, 3, .null) := by decide +kernel
theorem i_9_23 : am_ins 9 23 = some (.iload_n 1, 1, 0, .null) := by decide +kernel
theorem i_9_24 : am_ins 9 24 = some (.iaload, 0, 0, .null) := by decide +kernel
theorem i_9_25 : am_ins 9 25 = some (.istore_n 3, 3, 0, .null) := by decide +kernel
theorem i_9_26 : am_ins 9 26 = some (.aload_n 0, 0, 0, .null) := by decide +kernel
theorem i_9_27 : am_ins 9 27 = some (.getfield 27, 0, 3, .null) := by decide +kernel
theorem i_9_30 : am_ins 9 30 = some (.iload_n 1, 1, 0, .null) := by decide +kernel
theorem i_9_31 : am_ins 9 31 = some (.iload_n 2, 2, 0, .null) := by decide +kernel
theorem i_9_32 : am_ins 9 32 = some (.iastore, 0, 0, .null) := by decide +kernel
theorem i_9_33 : am_ins 9 33 = some (.aload_n 0, 0, 0, .null) := by decide +kernel
theorem i_9_34 : am_ins 9 34 = some (.invokevirtual 79, 31, 0, .null) := by decide +kernel
theorem i_9_37 : am_ins 9 37 = some (.pop, 0, 0, .null) := by decide +kernel
theorem i_9_38 : am_ins 9 38 = some (.iload_n 3, 3, 0, .null) := by decide +kernel
theorem i_9_39 : am_ins 9 39 = some (.ireturn, 0, 0, .null) := by decide +kernel
theorem i_10_0 : am_ins 10 0 = some (.lload_n 1, 1, 0, .null) := by decide +kernel
theorem i_10_1 : am_ins 10 1 = some (.aload_n 0, 0, 0, .null) := by decide +kernel
theorem i_10_2 : am_ins 10 2 = some (.getfield 130, 0, 8, .null) := by decide +kernel
theorem i_10_5 : am_ins 10 5 = some (.lcmp, 0, 0, .null) := by decide +kernel
theorem i_10_6 : am_ins 10 6 = some (.ifCond .ge 6, 12, 0, .null) := by decide +kernel
theorem i_10_9 : am_ins 10 9 = some (.bipush (-4), 0, 0, .int (-4)) := by decide +kernel
theorem i_10_11 : am_ins 10 11 = some (.ireturn, 0, 0, .null) := by decide +kernel
theorem i_10_12 : am_ins 10 12 = some (.aload_n 0, 0, 0, .null) := by decide +kernel
theorem i_10_13 : am_ins 10 13 = some (.lload_n 1, 1, 0, .null) := by decide +kernel
theorem i_10_14 : am_ins 10 14 = some (.putfield 130, 0, 8, .null) := by decide +kernel
theorem i_10_17 : am_ins 10 17 = some (.aload_n 0, 0, 0, .null) := by decide +kernel
theorem i_10_18 : am_ins 10 18 = some (.invokevirtual 79, 31, 0, .null) := by decide +kernel
theorem i_10_21 : am_ins 10 21 = some (.ireturn, 0, 0, .null) := by decide +kernel
theorem i_11_0 : am_ins 11 0 = some (.aload_n 0, 0, 0, .null) := by decide +kernel
theorem i_11_1 : am_ins 11 1 = some (.iload_n 1, 1, 0, .null) := by decide +kernel
theorem i_11_2 : am_ins 11 2 = some (.invokevirtual 83, 27, 1, .null) := by decide +kernel
theorem i_11_5 : am_ins 11 5 = some (.astore_n 2, 2, 0, .null) := by decide +kernel
theorem i_11_6 : am_ins 11 6 = some (.aload_n 2, 2, 0, .null) := by decide +kernel
theorem i_11_7 : am_ins 11 7 = some (.ifnonnull 6, 13, 0, .null) := by decide +kernel
theorem i_11_10 : am_ins 11 10 = some (.bipush (-2), 0, 0, .int (-2)) := by decide +kernel
theorem i_11_12 : am_ins 11 12 = some (.ireturn, 0, 0, .null) := by decide +kernel
theorem i_11_13 : am_ins 11 13 = some (.aload_n 2, 2, 0, .null) := by decide +kernel
theorem i_11_14 : am_ins 11 14 = some (.getfield 91, 4, 4, .null) := by decide +kernel
theorem i_11_17 : am_ins 11 17 = some (.ifCond .ne 10, 27, 0, .null) := by decide +kernel
theorem i_11_20 : am_ins 11 20 = some (.aload_n 2, 2, 0, .null) := by decide +kernel
theorem i_11_21 : am_ins 11 21 = some (.iconst 5, 0, 0, .int 5) := by decide +kernel
theorem i_11_22 : am_ins 11 22 = some (.putfield 91, 4, 4, .null) := by decide +kernel
theorem i_11_25 : am_ins 11 25 = some (.iconst 1, 0, 0, .int 1) := by decide +kernel
theorem i_11_26 : am_ins 11 26 = some (.ireturn, 0, 0, .null) := by decide +kernel
theorem i_11_27 : am_ins 11 27 = some (.aload_n 2, 2, 0, .null) := by decide +kernel
theorem i_11_28 : am_ins 11 28 = some (.getfield 91, 4, 4, .null) := by decide +kernel
theorem i_11_31 : am_ins 11 31 = some (.iconst 2, 0, 0, .int 2) := by decide +kernel
theorem i_11_32 : am_ins 11 32 = some (.if_icmp .ne 11, 43, 0, .null) := by decide +kernel
theorem i_11_35 : am_ins 11 35 = some (.aload_n 0, 0, 0, .null) := by decide +kernel
theorem i_11_36 : am_ins 11 36 = some (.aload_n 2, 2, 0, .null) := by decide +kernel
theorem i_11_37 : am_ins 11 37 = some (.iconst 5, 0, 0, .int 5) := by decide +kernel
theorem i_11_38 : am_ins 11 38 = some (.invokevirtual 97, 30, 2, .null) := by decide +kernel
theorem i_11_41 : am_ins 11 41 = some (.iconst 1, 0, 0, .int 1) := by decide +kernel
theorem i_11_42 : am_ins 11 42 = some (.ireturn, 0, 0, .null) := by decide +kernel
theorem i_11_43 : am_ins 11 43 = some (.iconst 0, 0, 0, .int 0) := by decide +kernel
theorem i_11_44 : am_ins 11 44 = some (.ireturn, 0, 0, .null) := by decide +kernel
theorem i_12_0 : am_ins 12 0 = some (.aload_n 0, 0, 0, .null) := by decide +kernel
theorem i_12_1 : am_ins 12 1 = some (.iload_n 1, 1, 0, .null) := by decide +kernel
theorem i_12_2 : am_ins 12 2 = some (.invokevirtual 83, 27, 1, .null) := by decide +kernel
theorem i_12_5 : am_ins 12 5 = some (.astore 4, 4, 0, .null) := by decide +kernel
theorem i_12_7 : am_ins 12 7 = some (.aload 4, 4, 0, .null) := by decide +kernel
theorem i_12_9 : am_ins 12 9 = some (.ifnonnull 6, 15, 0, .null) := by decide +kernel
theorem i_12_12 : am_ins 12 12 = some (.bipush (-2), 0, 0, .int (-2)) := by decide +kernel
theorem i_12_14 : am_ins 12 14 = some (.ireturn, 0, 0, .null) := by decide +kernel
theorem i_12_15 : am_ins 12 15 = some (.iload_n 2, 2, 0, .null) := by decide +kernel
theorem i_12_16 : am_ins 12 16 = some (.invokestatic 134, 24, 1, .null) := by decide +kernel
theorem i_12_19 : am_ins 12 19 = some (.ifCond .eq 13, 32, 0, .null) := by decide +kernel
theorem i_12_22 : am_ins 12 22 = some (.iload_n 3, 3, 0, .null) := by decide +kernel
theorem i_12_23 : am_ins 12 23 = some (.sipush 9999, 0, 0, .int 9999) := by decide +kernel
theorem i_12_26 : am_ins 12 26 = some (.invokestatic 41, 21, 2, .null) := by decide +kernel
theorem i_12_29 : am_ins 12 29 = some (.ifCond .ne 6, 35, 0, .null) := by decide +kernel
theorem i_12_32 : am_ins 12 32 = some (.bipush (-4), 0, 0, .int (-4)) := by decide +kernel
theorem i_12_34 : am_ins 12 34 = some (.ireturn, 0, 0, .null) := by decide +kernel
theorem i_12_35 : am_ins 12 35 = some (.aload 4, 4, 0, .null) := by decide +kernel
theorem i_12_37 : am_ins 12 37 = some (.getfield 91, 4, 4, .null) := by decide +kernel
theorem i_12_40 : am_ins 12 40 = some (.iconst 1, 0, 0, .int 1) := by decide +kernel
theorem i_12_41 : am_ins 12 41 = some (.if_icmp .eq 6, 47, 0, .null) := by decide +kernel
theorem i_12_44 : am_ins 12 44 = some (.bipush (-5), 0, 0, .int (-5)) := by decide +kernel
theorem i_12_46 : am_ins 12 46 = some (.ireturn, 0, 0, .null) := by decide +kernel
theorem i_12_47 : am_ins 12 47 = some (.aload 4, 4, 0, .null) := by decide +kernel
theorem i_12_49 : am_ins 12 49 = some (.getfield 101, 4, 7, .null) := by decide +kernel
theorem i_12_52 : am_ins 12 52 = some (.getfield 137, 3, 3, .null) := by decide +kernel
theorem i_12_55 : am_ins 12 55 = some (.iload_n 2, 2, 0, .null) := by decide +kernel
theorem i_12_56 : am_ins 12 56 = some (.iaload, 0, 0, .null) := by decide +kernel
theorem i_12_57 : am_ins 12 57 = some (.istore 5, 5, 0, .null) := by decide +kernel
theorem i_12_59 : am_ins 12 59 = some (.aload 4, 4, 0, .null) := by decide +kernel
theorem i_12_61 : am_ins 12 61 = some (.getfield 101, 4, 7, .null) := by decide +kernel
theorem i_12_64 : am_ins 12 64 = some (.getfield 137, 3, 3, .null) := by decide +kernel
theorem i_12_67 : am_ins 12 67 = some (.iload_n 2, 2, 0, .null) := by decide +kernel
theorem i_12_68 : am_ins 12 68 = some (.iload_n 3, 3, 0, .null) := by decide +kernel
theorem i_12_69 : am_ins 12 69 = some (.iastore, 0, 0, .null) := by decide +kernel
theorem i_12_70 : am_ins 12 70 = some (.iload 5, 5, 0, .null) := by decide +kernel
theorem i_12_72 : am_ins 12 72 = some (.ireturn, 0, 0, .null) := by decide +kernel
theorem i_13_0 : am_ins 13 0 = some (.aload_n 0, 0, 0, .null) := by decide +kernel
theorem i_13_1 : am_ins 13 1 = some (.iload_n 1, 1, 0, .null) := by decide +kernel
theorem i_13_2 : am_ins 13 2 = some (.invokevirtual 83, 27, 1, .null) := by decide +kernel
theorem i_13_5 : am_ins 13 5 = some (.astore_n 3, 3, 0, .null) := by decide +kernel
theorem i_13_6 : am_ins 13 6 = some (.aload_n 3, 3, 0, .null) := by decide +kernel
theorem i_13_7 : am_ins 13 7 = some (.ifnonnull 6, 13, 0, .null) := by decide +kernel
theorem i_13_10 : am_ins 13 10 = some (.bipush (-2), 0, 0, .int (-2)) := by decide +kernel
theorem i_13_12 : am_ins 13 12 = some (.ireturn, 0, 0, .null) := by decide +kernel
theorem i_13_13 : am_ins 13 13 = some (.iload_n 2, 2, 0, .null) := by decide +kernel
theorem i_13_14 : am_ins 13 14 = some (.invokestatic 134, 24, 1, .null) := by decide +kernel
theorem i_13_17 : am_ins 13 17 = some (.ifCond .ne 6, 23, 0, .null) := by decide +kernel
theorem i_13_20 : am_ins 13 20 = some (.bipush (-4), 0, 0, .int (-4)) := by decide +kernel
theorem i_13_22 : am_ins 13 22 = some (.ireturn, 0, 0, .null) := by decide +kernel
theorem i_13_23 : am_ins 13 23 = some (.aload_n 3, 3, 0, .null) := by decide +kernel
theorem i_13_24 : am_ins 13 24 = some (.getfield 91, 4, 4, .null) := by decide +kernel
theorem i_13_27 : am_ins 13 27 = some (.iconst 1, 0, 0, .int 1) := by decide +kernel
theorem i_13_28 : am_ins 13 28 = some (.if_icmp .eq 6, 34, 0, .null) := by decide +kernel
theorem i_13_31 : am_ins 13 31 = some (.bipush (-5), 0, 0, .int (-5)) := by decide +kernel
theorem i_13_33 : am_ins 13 33 = some (.ireturn, 0, 0, .null) := by decide +kernel
theorem i_13_34 : am_ins 13 34 = some (.aload_n 3, 3, 0, .null) := by decide +kernel
theorem i_13_35 : am_ins 13 35 = some (.getfield 101, 4, 7, .null) := by decide +kernel
theorem i_13_38 : am_ins 13 38 = some (.iload_n 2, 2, 0, .null) := by decide +kernel
theorem i_13_39 : am_ins 13 39 = some (.invokevirtual 140, 67, 1, .null) := by decide +kernel
theorem i_13_42 : am_ins 13 42 = some (.istore 4, 4, 0, .null) := by decide +kernel
theorem i_13_44 : am_ins 13 44 = some (.iload 4, 4, 0, .null) := by decide +kernel
theorem i_13_46 : am_ins 13 46 = some (.ifCond .eq 6, 52, 0, .null) := by decide +kernel
theorem i_13_49 : am_ins 13 49 = some (.iload 4, 4, 0, .null) := by decide +kernel
theorem i_13_51 : am_ins 13 51 = some (.ireturn, 0, 0, .null) := by decide +kernel
theorem i_13_52 : am_ins 13 52 = some (.aload_n 0, 0, 0, .null) := by decide +kernel
theorem i_13_53 : am_ins 13 53 = some (.aload_n 3, 3, 0, .null) := by decide +kernel
theorem i_13_54 : am_ins 13 54 = some (.iconst 4, 0, 0, .int 4) := by decide +kernel
theorem i_13_55 : am_ins 13 55 = some (.invokevirtual 97, 30, 2, .null) := by decide +kernel
theorem i_13_58 : am_ins 13 58 = some (.sipush (-1000), 0, 0, .int (-1000)) := by decide +kernel
theorem i_13_61 : am_ins 13 61 = some (.iload_n 2, 2, 0, .null) := by decide +kernel
theorem i_13_62 : am_ins 13 62 = some (.isub, 0, 0, .null) := by decide +kernel
theorem i_13_63 : am_ins 13 63 = some (.ireturn, 0, 0, .null) := by decide +kernel
theorem i_14_0 : am_ins 14 0 = some (.aload_n 0, 0, 0, .null) := by decide +kernel
theorem i_14_1 : am_ins 14 1 = some (.iload_n 1, 1, 0, .null) := by decide +kernel
theorem i_14_2 : am_ins 14 2 = some (.invokevirtual 83, 27, 1, .null) := by decide +kernel
theorem i_14_5 : am_ins 14 5 = some (.astore_n 2, 2, 0, .null) := by decide +kernel
theorem i_14_6 : am_ins 14 6 = some (.aload_n 2, 2, 0, .null) := by decide +kernel
theorem i_14_7 : am_ins 14 7 = some (.ifnonnull 8, 15, 0, .null) := by decide +kernel
theorem i_14_10 : am_ins 14 10 = some (.bipush (-2), 0, 0, .int (-2)) := by decide +kernel
theorem i_14_12 : am_ins 14 12 = some (.goto 7, 19, 0, .null) := by decide +kernel
theorem i_14_15 : am_ins 14 15 = some (.aload_n 2, 2, 0, .null) := by decide +kernel
theorem i_14_16 : am_ins 14 16 = some (.getfield 91, 4, 4, .null) := by decide +kernel
theorem i_14_19 : am_ins 14 19 = some (.ireturn, 0, 0, .null) := by decide +kernel
theorem i_15_0 : am_ins 15 0 = some (.aload_n 0, 0, 0, .null) := by decide +kernel
theorem i_15_1 : am_ins 15 1 = some (.iload_n 1, 1, 0, .null) := by decide +kernel
theorem i_15_2 : am_ins 15 2 = some (.invokevirtual 83, 27, 1, .null) := by decide +kernel
theorem i_15_5 : am_ins 15 5 = some (.astore_n 3, 3, 0, .null) := by decide +kernel
theorem i_15_6 : am_ins 15 6 = some (.aload_n 3, 3, 0, .null) := by decide +kernel
theorem i_15_7 : am_ins 15 7 = some (.ifnonnull 5, 12, 0, .null) := by decide +kernel
theorem i_15_10 : am_ins 15 10 = some (.iconst (-1), 0, 0, .int (-1)) := by decide +kernel
theorem i_15_11 : am_ins 15 11 = some (.ireturn, 0, 0, .null) := by decide +kernel
theorem i_15_12 : am_ins 15 12 = some (.iload_n 2, 2, 0, .null) := by decide +kernel
theorem i_15_13 : am_ins 15 13 = some (.tableswitch 114 0 5 #[39, 58, 77, 82, 90, 109], 0, 39, .null) := by decide +kernel
theorem i_15_52 : am_ins 15 52 = some (.aload_n 3, 3, 0, .null) := by decide +kernel
theorem i_15_53 : am_ins 15 53 = some (.invokevirtual 123, 69, 0, .null) := by decide +kernel
theorem i_15_56 : am_ins 15 56 = some (.ifCond .eq 13, 69, 0, .null) := by decide +kernel
theorem i_15_59 : am_ins 15 59 = some (.aload_n 3, 3, 0, .null) := by decide +kernel
theorem i_15_60 : am_ins 15 60 = some (.getfield 101, 4, 7, .null) := by decide +kernel
theorem i_15_63 : am_ins 15 63 = some (.getfield 105, 3, 1, .null) := by decide +kernel
theorem i_15_66 : am_ins 15 66 = some (.goto 4, 70, 0, .null) := by decide +kernel
theorem i_15_69 : am_ins 15 69 = some (.iconst 0, 0, 0, .int 0) := by decide +kernel
theorem i_15_70 : am_ins 15 70 = some (.ireturn, 0, 0, .null) := by decide +kernel
theorem i_15_71 : am_ins 15 71 = some (.aload_n 3, 3, 0, .null) := by decide +kernel
theorem i_15_72 : am_ins 15 72 = some (.invokevirtual 123, 69, 0, .null) := by decide +kernel
theorem i_15_75 : am_ins 15 75 = some (.ifCond .eq 13, 88, 0, .null) := by decide +kernel
theorem i_15_78 : am_ins 15 78 = some (.aload_n 3, 3, 0, .null) := by decide +kernel
theorem i_15_79 : am_ins 15 79 = some (.getfield 101, 4, 7, .null) := by decide +kernel
theorem i_15_82 : am_ins 15 82 = some (.getfield 144, 3, 0, .null) := by decide +kernel
theorem i_15_85 : am_ins 15 85 = some (.goto 4, 89, 0, .null) := by decide +kernel
theorem i_15_88 : am_ins 15 88 = some (.iconst (-1), 0, 0, .int (-1)) := by decide +kernel
theorem i_15_89 : am_ins 15 89 = some (.ireturn, 0, 0, .null) := by decide +kernel
theorem i_15_90 : am_ins 15 90 = some (.aload_n 3, 3, 0, .null) := by decide +kernel
theorem i_15_91 : am_ins 15 91 = some (.getfield 127, 4, 6, .null) := by decide +kernel
theorem i_15_94 : am_ins 15 94 = some (.ireturn, 0, 0, .null) := by decide +kernel
theorem i_15_95 : am_ins 15 95 = some (.aload_n 3, 3, 0, .null) := by decide +kernel
theorem i_15_96 : am_ins 15 96 = some (.getfield 147, 4, 1, .null) := by decide +kernel
theorem i_15_99 : am_ins 15 99 = some (.getfield 151, 1, 0, .null) := by decide +kernel
theorem i_15_102 : am_ins 15 102 = some (.ireturn, 0, 0, .null) := by decide +kernel
theorem i_15_103 : am_ins 15 103 = some (.aload_n 3, 3, 0, .null) := by decide +kernel
theorem i_15_104 : am_ins 15 104 = some (.getfield 116, 4, 2, .null) := by decide +kernel
theorem i_15_107 : am_ins 15 107 = some (.ifnonnull 7, 114, 0, .null) := by decide +kernel
theorem i_15_110 : am_ins 15 110 = some (.iconst 0, 0, 0, .int 0) := by decide +kernel
theorem i_15_111 : am_ins 15 111 = some (.goto 10, 121, 0, .null) := by decide +kernel
theorem i_15_114 : am_ins 15 114 = some (.aload_n 3, 3, 0, .null) := by decide +kernel
theorem i_15_115 : am_ins 15 115 = some (.getfield 116, 4, 2, .null) := by decide +kernel
theorem i_15_118 : am_ins 15 118 = some (.getfield 154, 2, 0, .null) := by decide +kernel
theorem i_15_121 : am_ins 15 121 = some (.ireturn, 0, 0, .null) := by decide +kernel
theorem i_15_122 : am_ins 15 122 = some (.aload_n 3, 3, 0, .null) := by decide +kernel
theorem i_15_123 : am_ins 15 123 = some (.getfield 94, 4, 5, .null) := by decide +kernel
theorem i_15_126 : am_ins 15 126 = some (.ireturn, 0, 0, .null) := by decide +kernel
theorem i_15_127 : am_ins 15 127 = some (.iconst (-1), 0, 0, .int (-1)) := by decide +kernel
theorem i_15_128 : am_ins 15 128 = some (.ireturn, 0, 0, .null) := by decide +kernel
theorem i_16_0 : am_ins 16 0 = some (.aload_n 0, 0, 0, .null) := by decide +kernel
theorem i_16_1 : am_ins 16 1 = some (.iload_n 1, 1, 0, .null) := by decide +kernel
theorem i_16_2 : am_ins 16 2 = some (.invokevirtual 58, 26, 1, .null) := by decide +kernel
theorem i_16_5 : am_ins 16 5 = some (.astore_n 2, 2, 0, .null) := by decide +kernel
theorem i_16_6 : am_ins 16 6 = some (.aload_n 2, 2, 0, .null) := by decide +kernel
theorem i_16_7 : am_ins 16 7 = some (.ifnonnull 8, 15, 0, .null) := by decide +kernel
theorem i_16_10 : am_ins 16 10 = some (.bipush (-2), 0, 0, .int (-2)) := by decide +kernel
theorem i_16_12 : am_ins 16 12 = some (.goto 7, 19, 0, .null) := by decide +kernel
theorem i_16_15 : am_ins 16 15 = some (.aload_n 2, 2, 0, .null) := by decide +kernel
theorem i_16_16 : am_ins 16 16 = some (.getfield 155, 2, 3, .null) := by decide +kernel
theorem i_16_19 : am_ins 16 19 = some (.ireturn, 0, 0, .null) := by decide +kernel
theorem i_17_0 : am_ins 17 0 = some (.iload_n 1, 1, 0, .null) := by decide +kernel
theorem i_17_1 : am_ins 17 1 = some (.tableswitch 77 0 5 #[39, 44, 49, 54, 60, 72], 0, 39, .null) := by decide +kernel
theorem i_17_40 : am_ins 17 40 = some (.aload_n 0, 0, 0, .null) := by decide +kernel
theorem i_17_41 : am_ins 17 41 = some (.getfield 45, 0, 5, .null) := by decide +kernel
theorem i_17_44 : am_ins 17 44 = some (.ireturn, 0, 0, .null) := by decide +kernel
theorem i_17_45 : am_ins 17 45 = some (.aload_n 0, 0, 0, .null) := by decide +kernel
theorem i_17_46 : am_ins 17 46 = some (.getfield 52, 0, 6, .null) := by decide +kernel
theorem i_17_49 : am_ins 17 49 = some (.ireturn, 0, 0, .null) := by decide +kernel
theorem i_17_50 : am_ins 17 50 = some (.aload_n 0, 0, 0, .null) := by decide +kernel
theorem i_17_51 : am_ins 17 51 = some (.getfield 70, 0, 7, .null) := by decide +kernel
theorem i_17_54 : am_ins 17 54 = some (.ireturn, 0, 0, .null) := by decide +kernel
theorem i_17_55 : am_ins 17 55 = some (.aload_n 0, 0, 0, .null) := by decide +kernel
theorem i_17_56 : am_ins 17 56 = some (.iconst 0, 0, 0, .int 0) := by decide +kernel
theorem i_17_57 : am_ins 17 57 = some (.invokevirtual 158, 19, 1, .null) := by decide +kernel
theorem i_17_60 : am_ins 17 60 = some (.ireturn, 0, 0, .null) := by decide +kernel
theorem i_17_61 : am_ins 17 61 = some (.aload_n 0, 0, 0, .null) := by decide +kernel
theorem i_17_62 : am_ins 17 62 = some (.iconst 1, 0, 0, .int 1) := by decide +kernel
theorem i_17_63 : am_ins 17 63 = some (.invokevirtual 158, 19, 1, .null) := by decide +kernel
theorem i_17_66 : am_ins 17 66 = some (.aload_n 0, 0, 0, .null) := by decide +kernel
theorem i_17_67 : am_ins 17 67 = some (.iconst 2, 0, 0, .int 2) := by decide +kernel
theorem i_17_68 : am_ins 17 68 = some (.invokevirtual 158, 19, 1, .null) := by decide +kernel
theorem i_17_71 : am_ins 17 71 = some (.iadd, 0, 0, .null) := by decide +kernel
theorem i_17_72 : am_ins 17 72 = some (.ireturn, 0, 0, .null) := by decide +kernel
theorem i_17_73 : am_ins 17 73 = some (.aload_n 0, 0, 0, .null) := by decide +kernel
theorem i_17_74 : am_ins 17 74 = some (.invokevirtual 161, 20, 0, .null) := by decide +kernel
theorem i_17_77 : am_ins 17 77 = some (.ireturn, 0, 0, .null) := by decide +kernel
theorem i_17_78 : am_ins 17 78 = some (.aload_n 0, 0, 0, .null) := by decide +kernel
theorem i_17_79 : am_ins 17 79 = some (.iload_n 1, 1, 0, .null) := by decide +kernel
theorem i_17_80 : am_ins 17 80 = some (.invokevirtual 164, 18, 1, .null) := by decide +kernel
theorem i_17_83 : am_ins 17 83 = some (.ireturn, 0, 0, .null) := by decide +kernel
theorem i_18_0 : am_ins 18 0 = some (.iload_n 1, 1, 0, .null) := by decide +kernel
theorem i_18_1 : am_ins 18 1 = some (.bipush 10, 0, 0, .int 10) := by decide +kernel
theorem i_18_3 : am_ins 18 3 = some (.if_icmp .lt 9, 12, 0, .null) := by decide +kernel
theorem i_18_6 : am_ins 18 6 = some (.iload_n 1, 1, 0, .null) := by decide +kernel
theorem i_18_7 : am_ins 18 7 = some (.bipush 20, 0, 0, .int 20) := by decide +kernel
theorem i_18_9 : am_ins 18 9 = some (.if_icmp .lt 5, 14, 0, .null) := by decide +kernel
theorem i_18_12 : am_ins 18 12 = some (.iconst (-1), 0, 0, .int (-1)) := by decide +kernel
theorem i_18_13 : am_ins 18 13 = some (.ireturn, 0, 0, .null) := by decide +kernel
theorem i_18_14 : am_ins 18 14 = some (.aload_n 0, 0, 0, .null) := by decide +kernel
theorem i_18_15 : am_ins 18 15 = some (.getfield 31, 0, 4, .null) := by decide +kernel
theorem i_18_18 : am_ins 18 18 = some (.iload_n 1, 1, 0, .null) := by decide +kernel
theorem i_18_19 : am_ins 18 19 = some (.bipush 10, 0, 0, .int 10) := by decide +kernel
theorem i_18_21 : am_ins 18 21 = some (.isub, 0, 0, .null) := by decide +kernel
theorem i_18_22 : am_ins 18 22 = some (.iaload, 0, 0, .null) := by decide +kernel
theorem i_18_23 : am_ins 18 23 = some (.ireturn, 0, 0, .null) := by decide +kernel
theorem i_19_0 : am_ins 19 0 = some (.iconst 0, 0, 0, .int 0) := by decide +kernel
theorem i_19_1 : am_ins 19 1 = some (.istore_n 2, 2, 0, .null) := by decide +kernel
theorem i_19_2 : am_ins 19 2 = some (.iconst 0, 0, 0, .int 0) := by decide +kernel
theorem i_19_3 : am_ins 19 3 = some (.istore_n 3, 3, 0, .null) := by decide +kernel
theorem i_19_4 : am_ins 19 4 = some (.iload_n 3, 3, 0, .null) := by decide +kernel
theorem i_19_5 : am_ins 19 5 = some (.aload_n 0, 0, 0, .null) := by decide +kernel
theorem i_19_6 : am_ins 19 6 = some (.getfield 70, 0, 7, .null) := by decide +kernel
theorem i_19_9 : am_ins 19 9 = some (.if_icmp .ge 34, 43, 0, .null) := by decide +kernel
theorem i_19_12 : am_ins 19 12 = some (.aload_n 0, 0, 0, .null) := by decide +kernel
theorem i_19_13 : am_ins 19 13 = some (.getfield 23, 0, 2, .null) := by decide +kernel
theorem i_19_16 : am_ins 19 16 = some (.iload_n 3, 3, 0, .null) := by decide +kernel
theorem i_19_17 : am_ins 19 17 = some (.aaload, 0, 0, .null) := by decide +kernel
theorem i_19_18 : am_ins 19 18 = some (.astore 4, 4, 0, .null) := by decide +kernel
theorem i_19_20 : am_ins 19 20 = some (.aload 4, 4, 0, .null) := by decide +kernel
theorem i_19_22 : am_ins 19 22 = some (.ifnull 15, 37, 0, .null) := by decide +kernel
theorem i_19_25 : am_ins 19 25 = some (.aload 4, 4, 0, .null) := by decide +kernel
theorem i_19_27 : am_ins 19 27 = some (.getfield 91, 4, 4, .null) := by decide +kernel
theorem i_19_30 : am_ins 19 30 = some (.iload_n 1, 1, 0, .null) := by decide +kernel
theorem i_19_31 : am_ins 19 31 = some (.if_icmp .ne 6, 37, 0, .null) := by decide +kernel
theorem i_19_34 : am_ins 19 34 = some (.iinc 2 1, 2, 0, .int 1) := by decide +kernel
theorem i_19_37 : am_ins 19 37 = some (.iinc 3 1, 3, 0, .int 1) := by decide +kernel
theorem i_19_40 : am_ins 19 40 = some (.goto (-36), 4, 0, .null) := by decide +kernel
theorem i_19_43 : am_ins 19 43 = some (.iload_n 2, 2, 0, .null) := by decide +kernel
theorem i_19_44 : am_ins 19 44 = some (.ireturn, 0, 0, .null) := by decide +kernel
theorem i_20_0 : am_ins 20 0 = some (.iconst 0, 0, 0, .int 0) := by decide +kernel
theorem i_20_1 : am_ins 20 1 = some (.istore_n 1, 1, 0, .null) := by decide +kernel
theorem i_20_2 : am_ins 20 2 = some (.iconst 0, 0, 0, .int 0) := by decide +kernel
theorem i_20_3 : am_ins 20 3 = some (.istore_n 2, 2, 0, .null) := by decide +kernel
theorem i_20_4 : am_ins 20 4 = some (.iload_n 2, 2, 0, .null) := by decide +kernel
theorem i_20_5 : am_ins 20 5 = some (.aload_n 0, 0, 0, .null) := by decide +kernel
theorem i_20_6 : am_ins 20 6 = some (.getfield 70, 0, 7, .null) := by decide +kernel
theorem i_20_9 : am_ins 20 9 = some (.if_icmp .ge 27, 36, 0, .null) := by decide +kernel
theorem i_20_12 : am_ins 20 12 = some (.aload_n 0, 0, 0, .null) := by decide +kernel
theorem i_20_13 : am_ins 20 13 = some (.getfield 23, 0, 2, .null) := by decide +kernel
theorem i_20_16 : am_ins 20 16 = some (.iload_n 2, 2, 0, .null) := by decide +kernel
theorem i_20_17 : am_ins 20 17 = some (.aaload, 0, 0, .null) := by decide +kernel
theorem i_20_18 : am_ins 20 18 = some (.astore_n 3, 3, 0, .null) := by decide +kernel
theorem i_20_19 : am_ins 20 19 = some (.aload_n 3, 3, 0, .null) := by decide +kernel
theorem i_20_20 : am_ins 20 20 = some (.ifnull 10, 30, 0, .null) := by decide +kernel
theorem i_20_23 : am_ins 20 23 = some (.iload_n 1, 1, 0, .null) := by decide +kernel
theorem i_20_24 : am_ins 20 24 = some (.aload_n 3, 3, 0, .null) := by decide +kernel
theorem i_20_25 : am_ins 20 25 = some (.getfield 127, 4, 6, .null) := by decide +kernel
theorem i_20_28 : am_ins 20 28 = some (.iadd, 0, 0, .null) := by decide +kernel
theorem i_20_29 : am_ins 20 29 = some (.istore_n 1, 1, 0, .null) := by decide +kernel
theorem i_20_30 : am_ins 20 30 = some (.iinc 2 1, 2, 0, .int 1) := by decide +kernel
theorem i_20_33 : am_ins 20 33 = some (.goto (-29), 4, 0, .null) := by decide +kernel
theorem i_20_36 : am_ins 20 36 = some (.iload_n 1, 1, 0, .null) := by decide +kernel
theorem i_20_37 : am_ins 20 37 = some (.ireturn, 0, 0, .null) := by decide +kernel
theorem i_21_0 : am_ins 21 0 = some (.iload_n 0, 0, 0, .null) := by decide +kernel
theorem i_21_1 : am_ins 21 1 = some (.ifCond .lt 12, 13, 0, .null) := by decide +kernel
theorem i_21_4 : am_ins 21 4 = some (.iload_n 0, 0, 0, .null) := by decide +kernel
theorem i_21_5 : am_ins 21 5 = some (.iload_n 1, 1, 0, .null) := by decide +kernel
theorem i_21_6 : am_ins 21 6 = some (.if_icmp .gt 7, 13, 0, .null) := by decide +kernel
theorem i_21_9 : am_ins 21 9 = some (.iconst 1, 0, 0, .int 1) := by decide +kernel
theorem i_21_10 : am_ins 21 10 = some (.goto 4, 14, 0, .null) := by decide +kernel
theorem i_21_13 : am_ins 21 13 = some (.iconst 0, 0, 0, .int 0) := by decide +kernel
theorem i_21_14 : am_ins 21 14 = some (.ireturn, 0, 0, .null) := by decide +kernel
theorem i_22_0 : am_ins 22 0 = some (.iload_n 0, 0, 0, .null) := by decide +kernel
theorem i_22_1 : am_ins 22 1 = some (.bipush 99, 0, 0, .int 99) := by decide +kernel
theorem i_22_3 : am_ins 22 3 = some (.invokestatic 41, 21, 2, .null) := by decide +kernel
theorem i_22_6 : am_ins 22 6 = some (.ireturn, 0, 0, .null) := by decide +kernel
theorem i_23_0 : am_ins 23 0 = some (.iload_n 0, 0, 0, .null) := by decide +kernel
theorem i_23_1 : am_ins 23 1 = some (.bipush 9, 0, 0, .int 9) := by decide +kernel
theorem i_23_3 : am_ins 23 3 = some (.invokestatic 41, 21, 2, .null) := by decide +kernel
theorem i_23_6 : am_ins 23 6 = some (.ireturn, 0, 0, .null) := by decide +kernel
theorem i_24_0 : am_ins 24 0 = some (.iload_n 0, 0, 0, .null) := by decide +kernel
theorem i_24_1 : am_ins 24 1 = some (.bipush 9, 0, 0, .int 9) := by decide +kernel
theorem i_24_3 : am_ins 24 3 = some (.invokestatic 41, 21, 2, .null) := by decide +kernel
theorem i_24_6 : am_ins 24 6 = some (.ireturn, 0, 0, .null) := by decide +kernel
theorem i_25_0 : am_ins 25 0 = some (.iload_n 1, 1, 0, .null) := by decide +kernel
theorem i_25_1 : am_ins 25 1 = some (.iconst 1, 0, 0, .int 1) := by decide +kernel
theorem i_25_2 : am_ins 25 2 = some (.if_icmp .lt 22, 24, 0, .null) := by decide +kernel
theorem i_25_5 : am_ins 25 5 = some (.iload_n 1, 1, 0, .null) := by decide +kernel
theorem i_25_6 : am_ins 25 6 = some (.aload_n 0, 0, 0, .null) := by decide +kernel
theorem i_25_7 : am_ins 25 7 = some (.getfield 45, 0, 5, .null) := by decide +kernel
theorem i_25_10 : am_ins 25 10 = some (.if_icmp .gt 14, 24, 0, .null) := by decide +kernel
theorem i_25_13 : am_ins 25 13 = some (.aload_n 0, 0, 0, .null) := by decide +kernel
theorem i_25_14 : am_ins 25 14 = some (.getfield 11, 0, 0, .null) := by decide +kernel
theorem i_25_17 : am_ins 25 17 = some (.iload_n 1, 1, 0, .null) := by decide +kernel
theorem i_25_18 : am_ins 25 18 = some (.iconst 1, 0, 0, .int 1) := by decide +kernel
theorem i_25_19 : am_ins 25 19 = some (.isub, 0, 0, .null) := by decide +kernel
theorem i_25_20 : am_ins 25 20 = some (.aaload, 0, 0, .null) := by decide +kernel
theorem i_25_21 : am_ins 25 21 = some (.goto 4, 25, 0, .null) := by decide +kernel
theorem i_25_24 : am_ins 25 24 = some (.aconst_null, 0, 0, .null) := by decide +kernel
theorem i_25_25 : am_ins 25 25 = some (.areturn, 0, 0, .null) := by decide +kernel
theorem i_26_0 : am_ins 26 0 = some (.iload_n 1, 1, 0, .null) := by decide +kernel
theorem i_26_1 : am_ins 26 1 = some (.iconst 1, 0, 0, .int 1) := by decide +kernel
theorem i_26_2 : am_ins 26 2 = some (.if_icmp .lt 22, 24, 0, .null) := by decide +kernel
theorem i_26_5 : am_ins 26 5 = some (.iload_n 1, 1, 0, .null) := by decide +kernel
theorem i_26_6 : am_ins 26 6 = some (.aload_n 0, 0, 0, .null) := by decide +kernel
theorem i_26_7 : am_ins 26 7 = some (.getfield 52, 0, 6, .null) := by decide +kernel
theorem i_26_10 : am_ins 26 10 = some (.if_icmp .gt 14, 24, 0, .null) := by decide +kernel
theorem i_26_13 : am_ins 26 13 = some (.aload_n 0, 0, 0, .null) := by decide +kernel
theorem i_26_14 : am_ins 26 14 = some (.getfield 17, 0, 1, .null) := by decide +kernel
theorem i_26_17 : am_ins 26 17 = some (.iload_n 1, 1, 0, .null) := by decide +kernel
theorem i_26_18 : am_ins 26 18 = some (.iconst 1, 0, 0, .int 1) := by decide +kernel
theorem i_26_19 : am_ins 26 19 = some (.isub, 0, 0, .null) := by decide +kernel
theorem i_26_20 : am_ins 26 20 = some (.aaload, 0, 0, .null) := by decide +kernel
theorem i_26_21 : am_ins 26 21 = some (.goto 4, 25, 0, .null) := by decide +kernel
theorem i_26_24 : am_ins 26 24 = some (.aconst_null, 0, 0, .null) := by decide +kernel
theorem i_26_25 : am_ins 26 25 = some (.areturn, 0, 0, .null) := by decide +kernel
theorem i_27_0 : am_ins 27 0 = some (.iload_n 1, 1, 0, .null) := by decide +kernel
theorem i_27_1 : am_ins 27 1 = some (.iconst 1, 0, 0, .int 1) := by decide +kernel
theorem i_27_2 : am_ins 27 2 = some (.if_icmp .lt 22, 24, 0, .null) := by decide +kernel
theorem i_27_5 : am_ins 27 5 = some (.iload_n 1, 1, 0, .null) := by decide +kernel
theorem i_27_6 : am_ins 27 6 = some (.aload_n 0, 0, 0, .null) := by decide +kernel
theorem i_27_7 : am_ins 27 7 = some (.getfield 70, 0, 7, .null) := by decide +kernel
theorem i_27_10 : am_ins 27 10 = some (.if_icmp .gt 14, 24, 0, .null) := by decide +kernel
theorem i_27_13 : am_ins 27 13 = some (.aload_n 0, 0, 0, .null) := by decide +kernel
theorem i_27_14 : am_ins 27 14 = some (.getfield 23, 0, 2, .null) := by decide +kernel
theorem i_27_17 : am_ins 27 17 = some (.iload_n 1, 1, 0, .null) := by decide +kernel
theorem i_27_18 : am_ins 27 18 = some (.iconst 1, 0, 0, .int 1) := by decide +kernel
theorem i_27_19 : am_ins 27 19 = some (.isub, 0, 0, .null) := by decide +kernel
theorem i_27_20 : am_ins 27 20 = some (.aaload, 0, 0, .null) := by decide +kernel
theorem i_27_21 : am_ins 27 21 = some (.goto 4, 25, 0, .null) := by decide +kernel
theorem i_27_24 : am_ins 27 24 = some (.aconst_null, 0, 0, .null) := by decide +kernel
theorem i_27_25 : am_ins 27 25 = some (.areturn, 0, 0, .null) := by decide +kernel
theorem i_28_0 : am_ins 28 0 = some (.aload_n 1, 1, 0, .null) := by decide +kernel
theorem i_28_1 : am_ins 28 1 = some (.ifnonnull 7, 8, 0, .null) := by decide +kernel
theorem i_28_4 : am_ins 28 4 = some (.aconst_null, 0, 0, .null) := by decide +kernel
theorem i_28_5 : am_ins 28 5 = some (.goto 11, 16, 0, .null) := by decide +kernel
theorem i_28_8 : am_ins 28 8 = some (.aload_n 0, 0, 0, .null) := by decide +kernel
theorem i_28_9 : am_ins 28 9 = some (.aload_n 1, 1, 0, .null) := by decide +kernel
theorem i_28_10 : am_ins 28 10 = some (.getfield 73, 2, 1, .null) := by decide +kernel
theorem i_28_13 : am_ins 28 13 = some (.invokevirtual 66, 25, 1, .null) := by decide +kernel
theorem i_28_16 : am_ins 28 16 = some (.areturn, 0, 0, .null) := by decide +kernel
theorem i_29_0 : am_ins 29 0 = some (.aload_n 1, 1, 0, .null) := by decide +kernel
theorem i_29_1 : am_ins 29 1 = some (.getfield 91, 4, 4, .null) := by decide +kernel
theorem i_29_4 : am_ins 29 4 = some (.iconst 2, 0, 0, .int 2) := by decide +kernel
theorem i_29_5 : am_ins 29 5 = some (.if_icmp .ne 11, 16, 0, .null) := by decide +kernel
theorem i_29_8 : am_ins 29 8 = some (.aload_n 1, 1, 0, .null) := by decide +kernel
theorem i_29_9 : am_ins 29 9 = some (.getfield 94, 4, 5, .null) := by decide +kernel
theorem i_29_12 : am_ins 29 12 = some (.iload_n 2, 2, 0, .null) := by decide +kernel
theorem i_29_13 : am_ins 29 13 = some (.if_icmp .eq 6, 19, 0, .null) := by decide +kernel
theorem i_29_16 : am_ins 29 16 = some (.bipush (-5), 0, 0, .int (-5)) := by decide +kernel
theorem i_29_18 : am_ins 29 18 = some (.ireturn, 0, 0, .null) := by decide +kernel
theorem i_29_19 : am_ins 29 19 = some (.aload_n 1, 1, 0, .null) := by decide +kernel
theorem i_29_20 : am_ins 29 20 = some (.iconst 1, 0, 0, .int 1) := by decide +kernel
theorem i_29_21 : am_ins 29 21 = some (.putfield 91, 4, 4, .null) := by decide +kernel
theorem i_29_24 : am_ins 29 24 = some (.aload_n 1, 1, 0, .null) := by decide +kernel
theorem i_29_25 : am_ins 29 25 = some (.iconst (-1), 0, 0, .int (-1)) := by decide +kernel
theorem i_29_26 : am_ins 29 26 = some (.putfield 94, 4, 5, .null) := by decide +kernel
theorem i_29_29 : am_ins 29 29 = some (.aload_n 1, 1, 0, .null) := by decide +kernel
theorem i_29_30 : am_ins 29 30 = some (.getfield 91, 4, 4, .null) := by decide +kernel
theorem i_29_33 : am_ins 29 33 = some (.ireturn, 0, 0, .null) := by decide +kernel
theorem i_30_0 : am_ins 30 0 = some (.aload_n 1, 1, 0, .null) := by decide +kernel
theorem i_30_1 : am_ins 30 1 = some (.iload_n 2, 2, 0, .null) := by decide +kernel
theorem i_30_2 : am_ins 30 2 = some (.putfield 91, 4, 4, .null) := by decide +kernel
theorem i_30_5 : am_ins 30 5 = some (.aload_n 1, 1, 0, .null) := by decide +kernel
theorem i_30_6 : am_ins 30 6 = some (.iconst (-1), 0, 0, .int (-1)) := by decide +kernel
theorem i_30_7 : am_ins 30 7 = some (.putfield 94, 4, 5, .null) := by decide +kernel
theorem i_30_10 : am_ins 30 10 = some (.aload_n 1, 1, 0, .null) := by decide +kernel
theorem i_30_11 : am_ins 30 11 = some (.iconst 0, 0, 0, .int 0) := by decide +kernel
theorem i_30_12 : am_ins 30 12 = some (.putfield 127, 4, 6, .null) := by decide +kernel
theorem i_30_15 : am_ins 30 15 = some (.aload_n 0, 0, 0, .null) := by decide +kernel
theorem i_30_16 : am_ins 30 16 = some (.getfield 31, 0, 4, .null) := by decide +kernel
theorem i_30_19 : am_ins 30 19 = some (.aload_n 1, 1, 0, .null) := by decide +kernel
theorem i_30_20 : am_ins 30 20 = some (.getfield 147, 4, 1, .null) := by decide +kernel
theorem i_30_23 : am_ins 30 23 = some (.getfield 167, 1, 2, .null) := by decide +kernel
theorem i_30_26 : am_ins 30 26 = some (.dup2, 0, 0, .null) := by decide +kernel
theorem i_30_27 : am_ins 30 27 = some (.iaload, 0, 0, .null) := by decide +kernel
theorem i_30_28 : am_ins 30 28 = some (.iconst 1, 0, 0, .int 1) := by decide +kernel
theorem i_30_29 : am_ins 30 29 = some (.isub, 0, 0, .null) := by decide +kernel
theorem i_30_30 : am_ins 30 30 = some (.iastore, 0, 0, .null) := by decide +kernel
theorem i_30_31 : am_ins 30 31 = some (.aload_n 1, 1, 0, .null) := by decide +kernel
theorem i_30_32 : am_ins 30 32 = some (.getfield 116, 4, 2, .null) := by decide +kernel
theorem i_30_35 : am_ins 30 35 = some (.ifnull 11, 46, 0, .null) := by decide +kernel
theorem i_30_38 : am_ins 30 38 = some (.aload_n 1, 1, 0, .null) := by decide +kernel
theorem i_30_39 : am_ins 30 39 = some (.getfield 116, 4, 2, .null) := by decide +kernel
theorem i_30_42 : am_ins 30 42 = some (.iconst 0, 0, 0, .int 0) := by decide +kernel
theorem i_30_43 : am_ins 30 43 = some (.putfield 155, 2, 3, .null) := by decide +kernel
theorem i_30_46 : am_ins 30 46 = some (.aload_n 0, 0, 0, .null) := by decide +kernel
theorem i_30_47 : am_ins 30 47 = some (.invokevirtual 79, 31, 0, .null) := by decide +kernel
theorem i_30_50 : am_ins 30 50 = some (.pop, 0, 0, .null) := by decide +kernel
theorem i_30_51 : am_ins 30 51 = some (.return_, 0, 0, .null) := by decide +kernel
theorem i_31_0 : am_ins 31 0 = some (.iconst 0, 0, 0, .int 0) := by decide +kernel
theorem i_31_1 : am_ins 31 1 = some (.istore_n 1, 1, 0, .null) := by decide +kernel
theorem i_31_2 : am_ins 31 2 = some (.iconst 0, 0, 0, .int 0) := by decide +kernel
theorem i_31_3 : am_ins 31 3 = some (.istore_n 2, 2, 0, .null) := by decide +kernel
theorem i_31_4 : am_ins 31 4 = some (.iload_n 2, 2, 0, .null) := by decide +kernel
theorem i_31_5 : am_ins 31 5 = some (.aload_n 0, 0, 0, .null) := by decide +kernel
theorem i_31_6 : am_ins 31 6 = some (.getfield 70, 0, 7, .null) := by decide +kernel
theorem i_31_9 : am_ins 31 9 = some (.if_icmp .ge 29, 38, 0, .null) := by decide +kernel
theorem i_31_12 : am_ins 31 12 = some (.aload_n 0, 0, 0, .null) := by decide +kernel
theorem i_31_13 : am_ins 31 13 = some (.invokevirtual 170, 32, 0, .null) := by decide +kernel
theorem i_31_16 : am_ins 31 16 = some (.astore_n 3, 3, 0, .null) := by decide +kernel
theorem i_31_17 : am_ins 31 17 = some (.aload_n 3, 3, 0, .null) := by decide +kernel
theorem i_31_18 : am_ins 31 18 = some (.ifnonnull 6, 24, 0, .null) := by decide +kernel
theorem i_31_21 : am_ins 31 21 = some (.goto 17, 38, 0, .null) := by decide +kernel
theorem i_31_24 : am_ins 31 24 = some (.aload_n 0, 0, 0, .null) := by decide +kernel
theorem i_31_25 : am_ins 31 25 = some (.aload_n 3, 3, 0, .null) := by decide +kernel
theorem i_31_26 : am_ins 31 26 = some (.invokevirtual 174, 34, 1, .null) := by decide +kernel
theorem i_31_29 : am_ins 31 29 = some (.iinc 1 1, 1, 0, .int 1) := by decide +kernel
theorem i_31_32 : am_ins 31 32 = some (.iinc 2 1, 2, 0, .int 1) := by decide +kernel
theorem i_31_35 : am_ins 31 35 = some (.goto (-31), 4, 0, .null) := by decide +kernel
theorem i_31_38 : am_ins 31 38 = some (.iload_n 1, 1, 0, .null) := by decide +kernel
theorem i_31_39 : am_ins 31 39 = some (.ireturn, 0, 0, .null) := by decide +kernel
theorem i_32_0 : am_ins 32 0 = some (.aconst_null, 0, 0, .null) := by decide +kernel
theorem i_32_1 : am_ins 32 1 = some (.astore_n 1, 1, 0, .null) := by decide +kernel
theorem i_32_2 : am_ins 32 2 = some (.iconst 0, 0, 0, .int 0) := by decide +kernel
theorem i_32_3 : am_ins 32 3 = some (.istore_n 2, 2, 0, .null) := by decide +kernel
theorem i_32_4 : am_ins 32 4 = some (.iload_n 2, 2, 0, .null) := by decide +kernel
theorem i_32_5 : am_ins 32 5 = some (.aload_n 0, 0, 0, .null) := by decide +kernel
theorem i_32_6 : am_ins 32 6 = some (.getfield 70, 0, 7, .null) := by decide +kernel
theorem i_32_9 : am_ins 32 9 = some (.if_icmp .ge 51, 60, 0, .null) := by decide +kernel
theorem i_32_12 : am_ins 32 12 = some (.aload_n 0, 0, 0, .null) := by decide +kernel
theorem i_32_13 : am_ins 32 13 = some (.getfield 23, 0, 2, .null) := by decide +kernel
theorem i_32_16 : am_ins 32 16 = some (.iload_n 2, 2, 0, .null) := by decide +kernel
theorem i_32_17 : am_ins 32 17 = some (.aaload, 0, 0, .null) := by decide +kernel
theorem i_32_18 : am_ins 32 18 = some (.astore_n 3, 3, 0, .null) := by decide +kernel
theorem i_32_19 : am_ins 32 19 = some (.aload_n 3, 3, 0, .null) := by decide +kernel
theorem i_32_20 : am_ins 32 20 = some (.ifnull 34, 54, 0, .null) := by decide +kernel
theorem i_32_23 : am_ins 32 23 = some (.aload_n 0, 0, 0, .null) := by decide +kernel
theorem i_32_24 : am_ins 32 24 = some (.aload_n 3, 3, 0, .null) := by decide +kernel
theorem i_32_25 : am_ins 32 25 = some (.invokevirtual 178, 33, 1, .null) := by decide +kernel
theorem i_32_28 : am_ins 32 28 = some (.ifCond .eq 26, 54, 0, .null) := by decide +kernel
theorem i_32_31 : am_ins 32 31 = some (.aload_n 1, 1, 0, .null) := by decide +kernel
theorem i_32_32 : am_ins 32 32 = some (.ifnull 20, 52, 0, .null) := by decide +kernel
theorem i_32_35 : am_ins 32 35 = some (.aload_n 3, 3, 0, .null) := by decide +kernel
theorem i_32_36 : am_ins 32 36 = some (.getfield 147, 4, 1, .null) := by decide +kernel
theorem i_32_39 : am_ins 32 39 = some (.getfield 182, 1, 3, .null) := by decide +kernel
theorem i_32_42 : am_ins 32 42 = some (.aload_n 1, 1, 0, .null) := by decide +kernel
theorem i_32_43 : am_ins 32 43 = some (.getfield 147, 4, 1, .null) := by decide +kernel
theorem i_32_46 : am_ins 32 46 = some (.getfield 182, 1, 3, .null) := by decide +kernel
theorem i_32_49 : am_ins 32 49 = some (.if_icmp .le 5, 54, 0, .null) := by decide +kernel
theorem i_32_52 : am_ins 32 52 = some (.aload_n 3, 3, 0, .null) := by decide +kernel
theorem i_32_53 : am_ins 32 53 = some (.astore_n 1, 1, 0, .null) := by decide +kernel
theorem i_32_54 : am_ins 32 54 = some (.iinc 2 1, 2, 0, .int 1) := by decide +kernel
theorem i_32_57 : am_ins 32 57 = some (.goto (-53), 4, 0, .null) := by decide +kernel
theorem i_32_60 : am_ins 32 60 = some (.aload_n 1, 1, 0, .null) := by decide +kernel
theorem i_32_61 : am_ins 32 61 = some (.areturn, 0, 0, .null) := by decide +kernel
theorem i_33_0 : am_ins 33 0 = some (.aload_n 1, 1, 0, .null) := by decide +kernel
theorem i_33_1 : am_ins 33 1 = some (.getfield 91, 4, 4, .null) := by decide +kernel
theorem i_33_4 : am_ins 33 4 = some (.ifCond .ne 63, 67, 0, .null) := by decide +kernel
theorem i_33_7 : am_ins 33 7 = some (.aload_n 1, 1, 0, .null) := by decide +kernel
theorem i_33_8 : am_ins 33 8 = some (.getfield 185, 4, 3, .null) := by decide +kernel
theorem i_33_11 : am_ins 33 11 = some (.aload_n 0, 0, 0, .null) := by decide +kernel
theorem i_33_12 : am_ins 33 12 = some (.getfield 130, 0, 8, .null) := by decide +kernel
theorem i_33_15 : am_ins 33 15 = some (.lcmp, 0, 0, .null) := by decide +kernel
theorem i_33_16 : am_ins 33 16 = some (.ifCond .gt 51, 67, 0, .null) := by decide +kernel
theorem i_33_19 : am_ins 33 19 = some (.aload_n 1, 1, 0, .null) := by decide +kernel
theorem i_33_20 : am_ins 33 20 = some (.getfield 116, 4, 2, .null) := by decide +kernel
theorem i_33_23 : am_ins 33 23 = some (.ifnull 13, 36, 0, .null) := by decide +kernel
theorem i_33_26 : am_ins 33 26 = some (.aload_n 1, 1, 0, .null) := by decide +kernel
theorem i_33_27 : am_ins 33 27 = some (.getfield 116, 4, 2, .null) := by decide +kernel
theorem i_33_30 : am_ins 33 30 = some (.getfield 155, 2, 3, .null) := by decide +kernel
theorem i_33_33 : am_ins 33 33 = some (.ifCond .ne 34, 67, 0, .null) := by decide +kernel
theorem i_33_36 : am_ins 33 36 = some (.aload_n 0, 0, 0, .null) := by decide +kernel
theorem i_33_37 : am_ins 33 37 = some (.getfield 31, 0, 4, .null) := by decide +kernel
theorem i_33_40 : am_ins 33 40 = some (.aload_n 1, 1, 0, .null) := by decide +kernel
theorem i_33_41 : am_ins 33 41 = some (.getfield 147, 4, 1, .null) := by decide +kernel
theorem i_33_44 : am_ins 33 44 = some (.getfield 167, 1, 2, .null) := by decide +kernel
theorem i_33_47 : am_ins 33 47 = some (.iaload, 0, 0, .null) := by decide +kernel
theorem i_33_48 : am_ins 33 48 = some (.aload_n 0, 0, 0, .null) := by decide +kernel
theorem i_33_49 : am_ins 33 49 = some (.getfield 27, 0, 3, .null) := by decide +kernel
theorem i_33_52 : am_ins 33 52 = some (.aload_n 1, 1, 0, .null) := by decide +kernel
theorem i_33_53 : am_ins 33 53 = some (.getfield 147, 4, 1, .null) := by decide +kernel
theorem i_33_56 : am_ins 33 56 = some (.getfield 167, 1, 2, .null) := by decide +kernel
theorem i_33_59 : am_ins 33 59 = some (.iaload, 0, 0, .null) := by decide +kernel
theorem i_33_60 : am_ins 33 60 = some (.if_icmp .ge 7, 67, 0, .null) := by decide +kernel
theorem i_33_63 : am_ins 33 63 = some (.iconst 1, 0, 0, .int 1) := by decide +kernel
theorem i_33_64 : am_ins 33 64 = some (.goto 4, 68, 0, .null) := by decide +kernel
theorem i_33_67 : am_ins 33 67 = some (.iconst 0, 0, 0, .int 0) := by decide +kernel
theorem i_33_68 : am_ins 33 68 = some (.ireturn, 0, 0, .null) := by decide +kernel
theorem i_34_0 : am_ins 34 0 = some (.aload_n 1, 1, 0, .null) := by decide +kernel
theorem i_34_1 : am_ins 34 1 = some (.iconst 1, 0, 0, .int 1) := by decide +kernel
theorem i_34_2 : am_ins 34 2 = some (.putfield 91, 4, 4, .null) := by decide +kernel
theorem i_34_5 : am_ins 34 5 = some (.aload_n 0, 0, 0, .null) := by decide +kernel
theorem i_34_6 : am_ins 34 6 = some (.getfield 31, 0, 4, .null) := by decide +kernel
theorem i_34_9 : am_ins 34 9 = some (.aload_n 1, 1, 0, .null) := by decide +kernel
theorem i_34_10 : am_ins 34 10 = some (.getfield 147, 4, 1, .null) := by decide +kernel
theorem i_34_13 : am_ins 34 13 = some (.getfield 167, 1, 2, .null) := by decide +kernel
theorem i_34_16 : am_ins 34 16 = some (.dup2, 0, 0, .null) := by decide +kernel
theorem i_34_17 : am_ins 34 17 = some (.iaload, 0, 0, .null) := by decide +kernel
theorem i_34_18 : am_ins 34 18 = some (.iconst 1, 0, 0, .int 1) := by decide +kernel
theorem i_34_19 : am_ins 34 19 = some (.iadd, 0, 0, .null) := by decide +kernel
theorem i_34_20 : am_ins 34 20 = some (.iastore, 0, 0, .null) := by decide +kernel
theorem i_34_21 : am_ins 34 21 = some (.aload_n 1, 1, 0, .null) := by decide +kernel
theorem i_34_22 : am_ins 34 22 = some (.getfield 116, 4, 2, .null) := by decide +kernel
theorem i_34_25 : am_ins 34 25 = some (.ifnull 14, 39, 0, .null) := by decide +kernel
theorem i_34_28 : am_ins 34 28 = some (.aload_n 1, 1, 0, .null) := by decide +kernel
theorem i_34_29 : am_ins 34 29 = some (.getfield 116, 4, 2, .null) := by decide +kernel
theorem i_34_32 : am_ins 34 32 = some (.aload_n 1, 1, 0, .null) := by decide +kernel
theorem i_34_33 : am_ins 34 33 = some (.getfield 188, 4, 0, .null) := by decide +kernel
theorem i_34_36 : am_ins 34 36 = some (.putfield 155, 2, 3, .null) := by decide +kernel
theorem i_34_39 : am_ins 34 39 = some (.return_, 0, 0, .null) := by decide +kernel
