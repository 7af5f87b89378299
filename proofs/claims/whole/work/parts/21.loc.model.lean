theorem i_35_0 : am_ins 35 0 = some (.aload_n 0, 0, 0, .null) := by decide +kernel
theorem i_35_1 : am_ins 35 1 = some (.invokespecial 1, 999, 0, .null) := by decide +kernel
theorem i_35_4 : am_ins 35 4 = some (.aload_n 0, 0, 0, .null) := by decide +kernel
theorem i_35_5 : am_ins 35 5 = some (.bipush 61, 0, 0, .int 61) := by decide +kernel
theorem i_35_7 : am_ins 35 7 = some (.newarray .int, 100, 0, .null) := by decide +kernel
theorem i_35_9 : am_ins 35 9 = some (.putfield 7, 5, 5, .null) := by decide +kernel
theorem i_35_12 : am_ins 35 12 = some (.aload_n 0, 0, 0, .null) := by decide +kernel
theorem i_35_13 : am_ins 35 13 = some (.bipush 61, 0, 0, .int 61) := by decide +kernel
theorem i_35_15 : am_ins 35 15 = some (.newarray .int, 100, 0, .null) := by decide +kernel
theorem i_35_17 : am_ins 35 17 = some (.putfield 13, 5, 6, .null) := by decide +kernel
theorem i_35_20 : am_ins 35 20 = some (.aload_n 0, 0, 0, .null) := by decide +kernel
theorem i_35_21 : am_ins 35 21 = some (.bipush 61, 0, 0, .int 61) := by decide +kernel
theorem i_35_23 : am_ins 35 23 = some (.newarray .int, 100, 0, .null) := by decide +kernel
theorem i_35_25 : am_ins 35 25 = some (.putfield 16, 5, 7, .null) := by decide +kernel
theorem i_35_28 : am_ins 35 28 = some (.aload_n 0, 0, 0, .null) := by decide +kernel
theorem i_35_29 : am_ins 35 29 = some (.bipush 21, 0, 0, .int 21) := by decide +kernel
theorem i_35_31 : am_ins 35 31 = some (.newarray .int, 100, 0, .null) := by decide +kernel
theorem i_35_33 : am_ins 35 33 = some (.putfield 19, 5, 8, .null) := by decide +kernel
theorem i_35_36 : am_ins 35 36 = some (.aload_n 0, 0, 0, .null) := by decide +kernel
theorem i_35_37 : am_ins 35 37 = some (.bipush 21, 0, 0, .int 21) := by decide +kernel
theorem i_35_39 : am_ins 35 39 = some (.newarray .int, 100, 0, .null) := by decide +kernel
theorem i_35_41 : am_ins 35 41 = some (.putfield 22, 5, 9, .null) := by decide +kernel
theorem i_35_44 : am_ins 35 44 = some (.aload_n 0, 0, 0, .null) := by decide +kernel
theorem i_35_45 : am_ins 35 45 = some (.bipush 10, 0, 0, .int 10) := by decide +kernel
theorem i_35_47 : am_ins 35 47 = some (.newarray .int, 100, 0, .null) := by decide +kernel
theorem i_35_49 : am_ins 35 49 = some (.putfield 25, 5, 10, .null) := by decide +kernel
theorem i_35_52 : am_ins 35 52 = some (.aload_n 0, 0, 0, .null) := by decide +kernel
theorem i_35_53 : am_ins 35 53 = some (.sipush 201, 0, 0, .int 201) := by decide +kernel
theorem i_35_56 : am_ins 35 56 = some (.newarray .int, 100, 0, .null) := by decide +kernel
theorem i_35_58 : am_ins 35 58 = some (.putfield 28, 5, 11, .null) := by decide +kernel
theorem i_35_61 : am_ins 35 61 = some (.aload_n 0, 0, 0, .null) := by decide +kernel
theorem i_35_62 : am_ins 35 62 = some (.sipush 201, 0, 0, .int 201) := by decide +kernel
theorem i_35_65 : am_ins 35 65 = some (.newarray .int, 100, 0, .null) := by decide +kernel
theorem i_35_67 : am_ins 35 67 = some (.putfield 31, 5, 12, .null) := by decide +kernel
theorem i_35_70 : am_ins 35 70 = some (.aload_n 0, 0, 0, .null) := by decide +kernel
theorem i_35_71 : am_ins 35 71 = some (.sipush 201, 0, 0, .int 201) := by decide +kernel
theorem i_35_74 : am_ins 35 74 = some (.newarray .int, 100, 0, .null) := by decide +kernel
theorem i_35_76 : am_ins 35 76 = some (.putfield 34, 5, 13, .null) := by decide +kernel
theorem i_35_79 : am_ins 35 79 = some (.aload_n 0, 0, 0, .null) := by decide +kernel
theorem i_35_80 : am_ins 35 80 = some (.sipush 201, 0, 0, .int 201) := by decide +kernel
theorem i_35_83 : am_ins 35 83 = some (.newarray .int, 100, 0, .null) := by decide +kernel
theorem i_35_85 : am_ins 35 85 = some (.putfield 37, 5, 14, .null) := by decide +kernel
theorem i_35_88 : am_ins 35 88 = some (.aload_n 0, 0, 0, .null) := by decide +kernel
theorem i_35_89 : am_ins 35 89 = some (.sipush 201, 0, 0, .int 201) := by decide +kernel
theorem i_35_92 : am_ins 35 92 = some (.newarray .int, 100, 0, .null) := by decide +kernel
theorem i_35_94 : am_ins 35 94 = some (.putfield 40, 5, 15, .null) := by decide +kernel
theorem i_35_97 : am_ins 35 97 = some (.aload_n 0, 0, 0, .null) := by decide +kernel
theorem i_35_98 : am_ins 35 98 = some (.sipush 201, 0, 0, .int 201) := by decide +kernel
theorem i_35_101 : am_ins 35 101 = some (.newarray .int, 100, 0, .null) := by decide +kernel
theorem i_35_103 : am_ins 35 103 = some (.putfield 43, 5, 16, .null) := by decide +kernel
theorem i_35_106 : am_ins 35 106 = some (.aload_n 0, 0, 0, .null) := by decide +kernel
theorem i_35_107 : am_ins 35 107 = some (.sipush 201, 0, 0, .int 201) := by decide +kernel
theorem i_35_110 : am_ins 35 110 = some (.newarray .long, 101, 0, .null) := by decide +kernel
theorem i_35_112 : am_ins 35 112 = some (.putfield 46, 5, 17, .null) := by decide +kernel
theorem i_35_115 : am_ins 35 115 = some (.aload_n 0, 0, 0, .null) := by decide +kernel
theorem i_35_116 : am_ins 35 116 = some (.sipush 2211, 0, 0, .int 2211) := by decide +kernel
theorem i_35_119 : am_ins 35 119 = some (.newarray .int, 100, 0, .null) := by decide +kernel
theorem i_35_121 : am_ins 35 121 = some (.putfield 50, 5, 18, .null) := by decide +kernel
theorem i_35_124 : am_ins 35 124 = some (.aload_n 0, 0, 0, .null) := by decide +kernel
theorem i_35_125 : am_ins 35 125 = some (.sipush 22110, 0, 0, .int 22110) := by decide +kernel
theorem i_35_128 : am_ins 35 128 = some (.newarray .int, 100, 0, .null) := by decide +kernel
theorem i_35_130 : am_ins 35 130 = some (.putfield 53, 5, 19, .null) := by decide +kernel
theorem i_35_133 : am_ins 35 133 = some (.iconst 0, 0, 0, .int 0) := by decide +kernel
theorem i_35_134 : am_ins 35 134 = some (.istore_n 1, 1, 0, .null) := by decide +kernel
theorem i_35_135 : am_ins 35 135 = some (.iload_n 1, 1, 0, .null) := by decide +kernel
theorem i_35_136 : am_ins 35 136 = some (.bipush 10, 0, 0, .int 10) := by decide +kernel
theorem i_35_138 : am_ins 35 138 = some (.if_icmp .ge 17, 155, 0, .null) := by decide +kernel
theorem i_35_141 : am_ins 35 141 = some (.aload_n 0, 0, 0, .null) := by decide +kernel
theorem i_35_142 : am_ins 35 142 = some (.getfield 25, 5, 10, .null) := by decide +kernel
theorem i_35_145 : am_ins 35 145 = some (.iload_n 1, 1, 0, .null) := by decide +kernel
theorem i_35_146 : am_ins 35 146 = some (.bipush 50, 0, 0, .int 50) := by decide +kernel
theorem i_35_148 : am_ins 35 148 = some (.iastore, 0, 0, .null) := by decide +kernel
theorem i_35_149 : am_ins 35 149 = some (.iinc 1 1, 1, 0, .int 1) := by decide +kernel
theorem i_35_152 : am_ins 35 152 = some (.goto (-17), 135, 0, .null) := by decide +kernel
theorem i_35_155 : am_ins 35 155 = some (.return_, 0, 0, .null) := by decide +kernel
theorem i_36_0 : am_ins 36 0 = some (.iload_n 1, 1, 0, .null) := by decide +kernel
theorem i_36_1 : am_ins 36 1 = some (.ifCond .le 15, 16, 0, .null) := by decide +kernel
theorem i_36_4 : am_ins 36 4 = some (.iload_n 1, 1, 0, .null) := by decide +kernel
theorem i_36_5 : am_ins 36 5 = some (.aload_n 0, 0, 0, .null) := by decide +kernel
theorem i_36_6 : am_ins 36 6 = some (.getfield 60, 5, 1, .null) := by decide +kernel
theorem i_36_9 : am_ins 36 9 = some (.if_icmp .gt 7, 16, 0, .null) := by decide +kernel
theorem i_36_12 : am_ins 36 12 = some (.iconst 1, 0, 0, .int 1) := by decide +kernel
theorem i_36_13 : am_ins 36 13 = some (.goto 4, 17, 0, .null) := by decide +kernel
theorem i_36_16 : am_ins 36 16 = some (.iconst 0, 0, 0, .int 0) := by decide +kernel
theorem i_36_17 : am_ins 36 17 = some (.ireturn, 0, 0, .null) := by decide +kernel
theorem i_37_0 : am_ins 37 0 = some (.iload_n 1, 1, 0, .null) := by decide +kernel
theorem i_37_1 : am_ins 37 1 = some (.ifCond .le 15, 16, 0, .null) := by decide +kernel
theorem i_37_4 : am_ins 37 4 = some (.iload_n 1, 1, 0, .null) := by decide +kernel
theorem i_37_5 : am_ins 37 5 = some (.aload_n 0, 0, 0, .null) := by decide +kernel
theorem i_37_6 : am_ins 37 6 = some (.getfield 63, 5, 2, .null) := by decide +kernel
theorem i_37_9 : am_ins 37 9 = some (.if_icmp .gt 7, 16, 0, .null) := by decide +kernel
theorem i_37_12 : am_ins 37 12 = some (.iconst 1, 0, 0, .int 1) := by decide +kernel
theorem i_37_13 : am_ins 37 13 = some (.goto 4, 17, 0, .null) := by decide +kernel
theorem i_37_16 : am_ins 37 16 = some (.iconst 0, 0, 0, .int 0) := by decide +kernel
theorem i_37_17 : am_ins 37 17 = some (.ireturn, 0, 0, .null) := by decide +kernel
theorem i_38_0 : am_ins 38 0 = some (.iload_n 1, 1, 0, .null) := by decide +kernel
theorem i_38_1 : am_ins 38 1 = some (.ifCond .le 15, 16, 0, .null) := by decide +kernel
theorem i_38_4 : am_ins 38 4 = some (.iload_n 1, 1, 0, .null) := by decide +kernel
theorem i_38_5 : am_ins 38 5 = some (.aload_n 0, 0, 0, .null) := by decide +kernel
theorem i_38_6 : am_ins 38 6 = some (.getfield 66, 5, 3, .null) := by decide +kernel
theorem i_38_9 : am_ins 38 9 = some (.if_icmp .gt 7, 16, 0, .null) := by decide +kernel
theorem i_38_12 : am_ins 38 12 = some (.iconst 1, 0, 0, .int 1) := by decide +kernel
theorem i_38_13 : am_ins 38 13 = some (.goto 4, 17, 0, .null) := by decide +kernel
theorem i_38_16 : am_ins 38 16 = some (.iconst 0, 0, 0, .int 0) := by decide +kernel
theorem i_38_17 : am_ins 38 17 = some (.ireturn, 0, 0, .null) := by decide +kernel
theorem i_39_0 : am_ins 39 0 = some (.aload_n 0, 0, 0, .null) := by decide +kernel
theorem i_39_1 : am_ins 39 1 = some (.getfield 34, 5, 13, .null) := by decide +kernel
theorem i_39_4 : am_ins 39 4 = some (.iload_n 1, 1, 0, .null) := by decide +kernel
theorem i_39_5 : am_ins 39 5 = some (.iaload, 0, 0, .null) := by decide +kernel
theorem i_39_6 : am_ins 39 6 = some (.iconst 1, 0, 0, .int 1) := by decide +kernel
theorem i_39_7 : am_ins 39 7 = some (.if_icmp .eq 13, 20, 0, .null) := by decide +kernel
theorem i_39_10 : am_ins 39 10 = some (.aload_n 0, 0, 0, .null) := by decide +kernel
theorem i_39_11 : am_ins 39 11 = some (.getfield 34, 5, 13, .null) := by decide +kernel
theorem i_39_14 : am_ins 39 14 = some (.iload_n 1, 1, 0, .null) := by decide +kernel
theorem i_39_15 : am_ins 39 15 = some (.iaload, 0, 0, .null) := by decide +kernel
theorem i_39_16 : am_ins 39 16 = some (.iconst 2, 0, 0, .int 2) := by decide +kernel
theorem i_39_17 : am_ins 39 17 = some (.if_icmp .ne 7, 24, 0, .null) := by decide +kernel
theorem i_39_20 : am_ins 39 20 = some (.iconst 1, 0, 0, .int 1) := by decide +kernel
theorem i_39_21 : am_ins 39 21 = some (.goto 4, 25, 0, .null) := by decide +kernel
theorem i_39_24 : am_ins 39 24 = some (.iconst 0, 0, 0, .int 0) := by decide +kernel
theorem i_39_25 : am_ins 39 25 = some (.ireturn, 0, 0, .null) := by decide +kernel
theorem i_40_0 : am_ins 40 0 = some (.aload_n 0, 0, 0, .null) := by decide +kernel
theorem i_40_1 : am_ins 40 1 = some (.iconst 0, 0, 0, .int 0) := by decide +kernel
theorem i_40_2 : am_ins 40 2 = some (.putfield 56, 5, 0, .null) := by decide +kernel
theorem i_40_5 : am_ins 40 5 = some (.iload_n 1, 1, 0, .null) := by decide +kernel
theorem i_40_6 : am_ins 40 6 = some (.ifCond .lt 30, 36, 0, .null) := by decide +kernel
theorem i_40_9 : am_ins 40 9 = some (.iload_n 1, 1, 0, .null) := by decide +kernel
theorem i_40_10 : am_ins 40 10 = some (.bipush 99, 0, 0, .int 99) := by decide +kernel
theorem i_40_12 : am_ins 40 12 = some (.if_icmp .gt 24, 36, 0, .null) := by decide +kernel
theorem i_40_15 : am_ins 40 15 = some (.iload_n 2, 2, 0, .null) := by decide +kernel
theorem i_40_16 : am_ins 40 16 = some (.ifCond .lt 20, 36, 0, .null) := by decide +kernel
theorem i_40_19 : am_ins 40 19 = some (.iload_n 2, 2, 0, .null) := by decide +kernel
theorem i_40_20 : am_ins 40 20 = some (.bipush 9, 0, 0, .int 9) := by decide +kernel
theorem i_40_22 : am_ins 40 22 = some (.if_icmp .gt 14, 36, 0, .null) := by decide +kernel
theorem i_40_25 : am_ins 40 25 = some (.iload_n 3, 3, 0, .null) := by decide +kernel
theorem i_40_26 : am_ins 40 26 = some (.ifCond .lt 10, 36, 0, .null) := by decide +kernel
theorem i_40_29 : am_ins 40 29 = some (.iload_n 3, 3, 0, .null) := by decide +kernel
theorem i_40_30 : am_ins 40 30 = some (.sipush 255, 0, 0, .int 255) := by decide +kernel
theorem i_40_33 : am_ins 40 33 = some (.if_icmp .le 6, 39, 0, .null) := by decide +kernel
theorem i_40_36 : am_ins 40 36 = some (.bipush (-4), 0, 0, .int (-4)) := by decide +kernel
theorem i_40_38 : am_ins 40 38 = some (.ireturn, 0, 0, .null) := by decide +kernel
theorem i_40_39 : am_ins 40 39 = some (.aload_n 0, 0, 0, .null) := by decide +kernel
theorem i_40_40 : am_ins 40 40 = some (.getfield 60, 5, 1, .null) := by decide +kernel
theorem i_40_43 : am_ins 40 43 = some (.bipush 60, 0, 0, .int 60) := by decide +kernel
theorem i_40_45 : am_ins 40 45 = some (.if_icmp .ne 5, 50, 0, .null) := by decide +kernel
theorem i_40_48 : am_ins 40 48 = some (.iconst (-1), 0, 0, .int (-1)) := by decide +kernel
theorem i_40_49 : am_ins 40 49 = some (.ireturn, 0, 0, .null) := by decide +kernel
theorem i_40_50 : am_ins 40 50 = some (.aload_n 0, 0, 0, .null) := by decide +kernel
theorem i_40_51 : am_ins 40 51 = some (.dup, 0, 0, .null) := by decide +kernel
theorem i_40_52 : am_ins 40 52 = some (.getfield 60, 5, 1, .null) := by decide +kernel
theorem i_40_55 : am_ins 40 55 = some (.iconst 1, 0, 0, .int 1) := by decide +kernel
theorem i_40_56 : am_ins 40 56 = some (.iadd, 0, 0, .null) := by decide +kernel
theorem i_40_57 : am_ins 40 57 = some (.putfield 60, 5, 1, .null) := by decide +kernel
theorem i_40_60 : am_ins 40 60 = some (.aload_n 0, 0, 0, .null) := by decide +kernel
theorem i_40_61 : am_ins 40 61 = some (.getfield 7, 5, 5, .null) := by decide +kernel
theorem i_40_64 : am_ins 40 64 = some (.aload_n 0, 0, 0, .null) := by decide +kernel
theorem i_40_65 : am_ins 40 65 = some (.getfield 60, 5, 1, .null) := by decide +kernel
theorem i_40_68 : am_ins 40 68 = some (.iload_n 1, 1, 0, .null) := by decide +kernel
theorem i_40_69 : am_ins 40 69 = some (.iastore, 0, 0, .null) := by decide +kernel
theorem i_40_70 : am_ins 40 70 = some (.aload_n 0, 0, 0, .null) := by decide +kernel
theorem i_40_71 : am_ins 40 71 = some (.getfield 13, 5, 6, .null) := by decide +kernel
theorem i_40_74 : am_ins 40 74 = some (.aload_n 0, 0, 0, .null) := by decide +kernel
theorem i_40_75 : am_ins 40 75 = some (.getfield 60, 5, 1, .null) := by decide +kernel
theorem i_40_78 : am_ins 40 78 = some (.iload_n 2, 2, 0, .null) := by decide +kernel
theorem i_40_79 : am_ins 40 79 = some (.iastore, 0, 0, .null) := by decide +kernel
theorem i_40_80 : am_ins 40 80 = some (.aload_n 0, 0, 0, .null) := by decide +kernel
theorem i_40_81 : am_ins 40 81 = some (.getfield 16, 5, 7, .null) := by decide +kernel
theorem i_40_84 : am_ins 40 84 = some (.aload_n 0, 0, 0, .null) := by decide +kernel
theorem i_40_85 : am_ins 40 85 = some (.getfield 60, 5, 1, .null) := by decide +kernel
theorem i_40_88 : am_ins 40 88 = some (.iload_n 3, 3, 0, .null) := by decide +kernel
theorem i_40_89 : am_ins 40 89 = some (.iastore, 0, 0, .null) := by decide +kernel
theorem i_40_90 : am_ins 40 90 = some (.aload_n 0, 0, 0, .null) := by decide +kernel
theorem i_40_91 : am_ins 40 91 = some (.getfield 60, 5, 1, .null) := by decide +kernel
theorem i_40_94 : am_ins 40 94 = some (.ireturn, 0, 0, .null) := by decide +kernel
theorem i_41_0 : am_ins 41 0 = some (.aload_n 0, 0, 0, .null) := by decide +kernel
theorem i_41_1 : am_ins 41 1 = some (.iconst 0, 0, 0, .int 0) := by decide +kernel
theorem i_41_2 : am_ins 41 2 = some (.putfield 56, 5, 0, .null) := by decide +kernel
theorem i_41_5 : am_ins 41 5 = some (.aload_n 0, 0, 0, .null) := by decide +kernel
theorem i_41_6 : am_ins 41 6 = some (.getfield 63, 5, 2, .null) := by decide +kernel
theorem i_41_9 : am_ins 41 9 = some (.bipush 20, 0, 0, .int 20) := by decide +kernel
theorem i_41_11 : am_ins 41 11 = some (.if_icmp .ne 5, 16, 0, .null) := by decide +kernel
theorem i_41_14 : am_ins 41 14 = some (.iconst (-1), 0, 0, .int (-1)) := by decide +kernel
theorem i_41_15 : am_ins 41 15 = some (.ireturn, 0, 0, .null) := by decide +kernel
theorem i_41_16 : am_ins 41 16 = some (.aload_n 0, 0, 0, .null) := by decide +kernel
theorem i_41_17 : am_ins 41 17 = some (.dup, 0, 0, .null) := by decide +kernel
theorem i_41_18 : am_ins 41 18 = some (.getfield 63, 5, 2, .null) := by decide +kernel
theorem i_41_21 : am_ins 41 21 = some (.iconst 1, 0, 0, .int 1) := by decide +kernel
theorem i_41_22 : am_ins 41 22 = some (.iadd, 0, 0, .null) := by decide +kernel
theorem i_41_23 : am_ins 41 23 = some (.putfield 63, 5, 2, .null) := by decide +kernel
theorem i_41_26 : am_ins 41 26 = some (.aload_n 0, 0, 0, .null) := by decide +kernel
theorem i_41_27 : am_ins 41 27 = some (.getfield 63, 5, 2, .null) := by decide +kernel
theorem i_41_30 : am_ins 41 30 = some (.ireturn, 0, 0, .null) := by decide +kernel
theorem i_42_0 : am_ins 42 0 = some (.iconst 0, 0, 0, .int 0) := by decide +kernel
theorem i_42_1 : am_ins 42 1 = some (.istore_n 2, 2, 0, .null) := by decide +kernel
theorem i_42_2 : am_ins 42 2 = some (.iconst 1, 0, 0, .int 1) := by decide +kernel
theorem i_42_3 : am_ins 42 3 = some (.istore_n 3, 3, 0, .null) := by decide +kernel
theorem i_42_4 : am_ins 42 4 = some (.iload_n 3, 3, 0, .null) := by decide +kernel
theorem i_42_5 : am_ins 42 5 = some (.aload_n 0, 0, 0, .null) := by decide +kernel
theorem i_42_6 : am_ins 42 6 = some (.getfield 66, 5, 3, .null) := by decide +kernel
theorem i_42_9 : am_ins 42 9 = some (.if_icmp .gt 40, 49, 0, .null) := by decide +kernel
theorem i_42_12 : am_ins 42 12 = some (.iload_n 2, 2, 0, .null) := by decide +kernel
theorem i_42_13 : am_ins 42 13 = some (.aload_n 0, 0, 0, .null) := by decide +kernel
theorem i_42_14 : am_ins 42 14 = some (.iload_n 3, 3, 0, .null) := by decide +kernel
theorem i_42_15 : am_ins 42 15 = some (.invokevirtual 69, 39, 1, .null) := by decide +kernel
theorem i_42_18 : am_ins 42 18 = some (.ifCond .eq 22, 40, 0, .null) := by decide +kernel
theorem i_42_21 : am_ins 42 21 = some (.aload_n 0, 0, 0, .null) := by decide +kernel
theorem i_42_22 : am_ins 42 22 = some (.getfield 13, 5, 6, .null) := by decide +kernel
theorem i_42_25 : am_ins 42 25 = some (.aload_n 0, 0, 0, .null) := by decide +kernel
theorem i_42_26 : am_ins 42 26 = some (.getfield 28, 5, 11, .null) := by decide +kernel
theorem i_42_29 : am_ins 42 29 = some (.iload_n 3, 3, 0, .null) := by decide +kernel
theorem i_42_30 : am_ins 42 30 = some (.iaload, 0, 0, .null) := by decide +kernel
theorem i_42_31 : am_ins 42 31 = some (.iaload, 0, 0, .null) := by decide +kernel
theorem i_42_32 : am_ins 42 32 = some (.iload_n 1, 1, 0, .null) := by decide +kernel
theorem i_42_33 : am_ins 42 33 = some (.if_icmp .ne 7, 40, 0, .null) := by decide +kernel
theorem i_42_36 : am_ins 42 36 = some (.iconst 1, 0, 0, .int 1) := by decide +kernel
theorem i_42_37 : am_ins 42 37 = some (.goto 4, 41, 0, .null) := by decide +kernel
theorem i_42_40 : am_ins 42 40 = some (.iconst 0, 0, 0, .int 0) := by decide +kernel
theorem i_42_41 : am_ins 42 41 = some (.iadd, 0, 0, .null) := by decide +kernel
theorem i_42_42 : am_ins 42 42 = some (.istore_n 2, 2, 0, .null) := by decide +kernel
theorem i_42_43 : am_ins 42 43 = some (.iinc 3 1, 3, 0, .int 1) := by decide +kernel
theorem i_42_46 : am_ins 42 46 = some (.goto (-42), 4, 0, .null) := by decide +kernel
theorem i_42_49 : am_ins 42 49 = some (.iload_n 2, 2, 0, .null) := by decide +kernel
theorem i_42_50 : am_ins 42 50 = some (.ireturn, 0, 0, .null) := by decide +kernel
theorem i_43_0 : am_ins 43 0 = some (.iconst 0, 0, 0, .int 0) := by decide +kernel
theorem i_43_1 : am_ins 43 1 = some (.istore_n 2, 2, 0, .null) := by decide +kernel
theorem i_43_2 : am_ins 43 2 = some (.iconst 1, 0, 0, .int 1) := by decide +kernel
theorem i_43_3 : am_ins 43 3 = some (.istore_n 3, 3, 0, .null) := by decide +kernel
theorem i_43_4 : am_ins 43 4 = some (.iload_n 3, 3, 0, .null) := by decide +kernel
theorem i_43_5 : am_ins 43 5 = some (.aload_n 0, 0, 0, .null) := by decide +kernel
theorem i_43_6 : am_ins 43 6 = some (.getfield 66, 5, 3, .null) := by decide +kernel
theorem i_43_9 : am_ins 43 9 = some (.if_icmp .gt 33, 42, 0, .null) := by decide +kernel
theorem i_43_12 : am_ins 43 12 = some (.aload_n 0, 0, 0, .null) := by decide +kernel
theorem i_43_13 : am_ins 43 13 = some (.iload_n 3, 3, 0, .null) := by decide +kernel
theorem i_43_14 : am_ins 43 14 = some (.invokevirtual 69, 39, 1, .null) := by decide +kernel
theorem i_43_17 : am_ins 43 17 = some (.ifCond .eq 17, 34, 0, .null) := by decide +kernel
theorem i_43_20 : am_ins 43 20 = some (.aload_n 0, 0, 0, .null) := by decide +kernel
theorem i_43_21 : am_ins 43 21 = some (.getfield 31, 5, 12, .null) := by decide +kernel
theorem i_43_24 : am_ins 43 24 = some (.iload_n 3, 3, 0, .null) := by decide +kernel
theorem i_43_25 : am_ins 43 25 = some (.iaload, 0, 0, .null) := by decide +kernel
theorem i_43_26 : am_ins 43 26 = some (.iload_n 1, 1, 0, .null) := by decide +kernel
theorem i_43_27 : am_ins 43 27 = some (.if_icmp .ne 7, 34, 0, .null) := by decide +kernel
theorem i_43_30 : am_ins 43 30 = some (.iload_n 3, 3, 0, .null) := by decide +kernel
theorem i_43_31 : am_ins 43 31 = some (.goto 4, 35, 0, .null) := by decide +kernel
theorem i_43_34 : am_ins 43 34 = some (.iload_n 2, 2, 0, .null) := by decide +kernel
theorem i_43_35 : am_ins 43 35 = some (.istore_n 2, 2, 0, .null) := by decide +kernel
theorem i_43_36 : am_ins 43 36 = some (.iinc 3 1, 3, 0, .int 1) := by decide +kernel
theorem i_43_39 : am_ins 43 39 = some (.goto (-35), 4, 0, .null) := by decide +kernel
theorem i_43_42 : am_ins 43 42 = some (.iload_n 2, 2, 0, .null) := by decide +kernel
theorem i_43_43 : am_ins 43 43 = some (.ireturn, 0, 0, .null) := by decide +kernel
theorem i_44_0 : am_ins 44 0 = some (.aload_n 0, 0, 0, .null) := by decide +kernel
theorem i_44_1 : am_ins 44 1 = some (.getfield 34, 5, 13, .null) := by decide +kernel
theorem i_44_4 : am_ins 44 4 = some (.iload_n 1, 1, 0, .null) := by decide +kernel
theorem i_44_5 : am_ins 44 5 = some (.iaload, 0, 0, .null) := by decide +kernel
theorem i_44_6 : am_ins 44 6 = some (.ifCond .ne 17, 23, 0, .null) := by decide +kernel
theorem i_44_9 : am_ins 44 9 = some (.aload_n 0, 0, 0, .null) := by decide +kernel
theorem i_44_10 : am_ins 44 10 = some (.getfield 46, 5, 17, .null) := by decide +kernel
theorem i_44_13 : am_ins 44 13 = some (.iload_n 1, 1, 0, .null) := by decide +kernel
theorem i_44_14 : am_ins 44 14 = some (.laload, 0, 0, .null) := by decide +kernel
theorem i_44_15 : am_ins 44 15 = some (.aload_n 0, 0, 0, .null) := by decide +kernel
theorem i_44_16 : am_ins 44 16 = some (.getfield 73, 5, 4, .null) := by decide +kernel
theorem i_44_19 : am_ins 44 19 = some (.lcmp, 0, 0, .null) := by decide +kernel
theorem i_44_20 : am_ins 44 20 = some (.ifCond .le 5, 25, 0, .null) := by decide +kernel
theorem i_44_23 : am_ins 44 23 = some (.iconst 0, 0, 0, .int 0) := by decide +kernel
theorem i_44_24 : am_ins 44 24 = some (.ireturn, 0, 0, .null) := by decide +kernel
theorem i_44_25 : am_ins 44 25 = some (.aload_n 0, 0, 0, .null) := by decide +kernel
theorem i_44_26 : am_ins 44 26 = some (.getfield 31, 5, 12, .null) := by decide +kernel
theorem i_44_29 : am_ins 44 29 = some (.iload_n 1, 1, 0, .null) := by decide +kernel
theorem i_44_30 : am_ins 44 30 = some (.iaload, 0, 0, .null) := by decide +kernel
theorem i_44_31 : am_ins 44 31 = some (.ifCond .eq 16, 47, 0, .null) := by decide +kernel
theorem i_44_34 : am_ins 44 34 = some (.aload_n 0, 0, 0, .null) := by decide +kernel
theorem i_44_35 : am_ins 44 35 = some (.aload_n 0, 0, 0, .null) := by decide +kernel
theorem i_44_36 : am_ins 44 36 = some (.getfield 31, 5, 12, .null) := by decide +kernel
theorem i_44_39 : am_ins 44 39 = some (.iload_n 1, 1, 0, .null) := by decide +kernel
theorem i_44_40 : am_ins 44 40 = some (.iaload, 0, 0, .null) := by decide +kernel
theorem i_44_41 : am_ins 44 41 = some (.invokevirtual 77, 43, 1, .null) := by decide +kernel
theorem i_44_44 : am_ins 44 44 = some (.ifCond .ne 41, 85, 0, .null) := by decide +kernel
theorem i_44_47 : am_ins 44 47 = some (.aload_n 0, 0, 0, .null) := by decide +kernel
theorem i_44_48 : am_ins 44 48 = some (.aload_n 0, 0, 0, .null) := by decide +kernel
theorem i_44_49 : am_ins 44 49 = some (.getfield 13, 5, 6, .null) := by decide +kernel
theorem i_44_52 : am_ins 44 52 = some (.aload_n 0, 0, 0, .null) := by decide +kernel
theorem i_44_53 : am_ins 44 53 = some (.getfield 28, 5, 11, .null) := by decide +kernel
theorem i_44_56 : am_ins 44 56 = some (.iload_n 1, 1, 0, .null) := by decide +kernel
theorem i_44_57 : am_ins 44 57 = some (.iaload, 0, 0, .null) := by decide +kernel
theorem i_44_58 : am_ins 44 58 = some (.iaload, 0, 0, .null) := by decide +kernel
theorem i_44_59 : am_ins 44 59 = some (.invokevirtual 81, 42, 1, .null) := by decide +kernel
theorem i_44_62 : am_ins 44 62 = some (.aload_n 0, 0, 0, .null) := by decide +kernel
theorem i_44_63 : am_ins 44 63 = some (.getfield 25, 5, 10, .null) := by decide +kernel
theorem i_44_66 : am_ins 44 66 = some (.aload_n 0, 0, 0, .null) := by decide +kernel
theorem i_44_67 : am_ins 44 67 = some (.getfield 13, 5, 6, .null) := by decide +kernel
theorem i_44_70 : am_ins 44 70 = some (.aload_n 0, 0, 0, .null) := by decide +kernel
theorem i_44_71 : am_ins 44 71 = some (.getfield 28, 5, 11, .null) := by decide +kernel
theorem i_44_74 : am_ins 44 74 = some (.iload_n 1, 1, 0, .null) := by decide +kernel
theorem i_44_75 : am_ins 44 75 = some (.iaload, 0, 0, .null) := by decide +kernel
theorem i_44_76 : am_ins 44 76 = some (.iaload, 0, 0, .null) := by decide +kernel
theorem i_44_77 : am_ins 44 77 = some (.iaload, 0, 0, .null) := by decide +kernel
theorem i_44_78 : am_ins 44 78 = some (.if_icmp .ge 7, 85, 0, .null) := by decide +kernel
theorem i_44_81 : am_ins 44 81 = some (.iconst 1, 0, 0, .int 1) := by decide +kernel
theorem i_44_82 : am_ins 44 82 = some (.goto 4, 86, 0, .null) := by decide +kernel
theorem i_44_85 : am_ins 44 85 = some (.iconst 0, 0, 0, .int 0) := by decide +kernel
theorem i_44_86 : am_ins 44 86 = some (.ireturn, 0, 0, .null) := by decide +kernel
theorem i_45_0 : am_ins 45 0 = some (.bipush 11, 0, 0, .int 11) := by decide +kernel
theorem i_45_2 : am_ins 45 2 = some (.iload_n 0, 0, 0, .null) := by decide +kernel
theorem i_45_3 : am_ins 45 3 = some (.imul, 0, 0, .null) := by decide +kernel
theorem i_45_4 : am_ins 45 4 = some (.iload_n 1, 1, 0, .null) := by decide +kernel
theorem i_45_5 : am_ins 45 5 = some (.iadd, 0, 0, .null) := by decide +kernel
theorem i_45_6 : am_ins 45 6 = some (.ireturn, 0, 0, .null) := by decide +kernel
theorem i_46_0 : am_ins 46 0 = some (.aload_n 0, 0, 0, .null) := by decide +kernel
theorem i_46_1 : am_ins 46 1 = some (.getfield 40, 5, 15, .null) := by decide +kernel
theorem i_46_4 : am_ins 46 4 = some (.iload_n 1, 1, 0, .null) := by decide +kernel
theorem i_46_5 : am_ins 46 5 = some (.dup2, 0, 0, .null) := by decide +kernel
theorem i_46_6 : am_ins 46 6 = some (.iaload, 0, 0, .null) := by decide +kernel
theorem i_46_7 : am_ins 46 7 = some (.iconst 1, 0, 0, .int 1) := by decide +kernel
theorem i_46_8 : am_ins 46 8 = some (.iadd, 0, 0, .null) := by decide +kernel
theorem i_46_9 : am_ins 46 9 = some (.iastore, 0, 0, .null) := by decide +kernel
theorem i_46_10 : am_ins 46 10 = some (.aload_n 0, 0, 0, .null) := by decide +kernel
theorem i_46_11 : am_ins 46 11 = some (.getfield 50, 5, 18, .null) := by decide +kernel
theorem i_46_14 : am_ins 46 14 = some (.iload_n 1, 1, 0, .null) := by decide +kernel
theorem i_46_15 : am_ins 46 15 = some (.aload_n 0, 0, 0, .null) := by decide +kernel
theorem i_46_16 : am_ins 46 16 = some (.getfield 40, 5, 15, .null) := by decide +kernel
theorem i_46_19 : am_ins 46 19 = some (.iload_n 1, 1, 0, .null) := by decide +kernel
theorem i_46_20 : am_ins 46 20 = some (.iaload, 0, 0, .null) := by decide +kernel
theorem i_46_21 : am_ins 46 21 = some (.invokestatic 84, 45, 2, .null) := by decide +kernel
theorem i_46_24 : am_ins 46 24 = some (.iload_n 2, 2, 0, .null) := by decide +kernel
theorem i_46_25 : am_ins 46 25 = some (.iastore, 0, 0, .null) := by decide +kernel
theorem i_46_26 : am_ins 46 26 = some (.iconst 0, 0, 0, .int 0) := by decide +kernel
theorem i_46_27 : am_ins 46 27 = some (.istore_n 3, 3, 0, .null) := by decide +kernel
theorem i_46_28 : am_ins 46 28 = some (.iload_n 3, 3, 0, .null) := by decide +kernel
theorem i_46_29 : am_ins 46 29 = some (.bipush 10, 0, 0, .int 10) := by decide +kernel
theorem i_46_31 : am_ins 46 31 = some (.if_icmp .ge 30, 61, 0, .null) := by decide +kernel
theorem i_46_34 : am_ins 46 34 = some (.aload_n 0, 0, 0, .null) := by decide +kernel
theorem i_46_35 : am_ins 46 35 = some (.getfield 53, 5, 19, .null) := by decide +kernel
theorem i_46_38 : am_ins 46 38 = some (.bipush 10, 0, 0, .int 10) := by decide +kernel
theorem i_46_40 : am_ins 46 40 = some (.iload_n 1, 1, 0, .null) := by decide +kernel
theorem i_46_41 : am_ins 46 41 = some (.aload_n 0, 0, 0, .null) := by decide +kernel
theorem i_46_42 : am_ins 46 42 = some (.getfield 40, 5, 15, .null) := by decide +kernel
theorem i_46_45 : am_ins 46 45 = some (.iload_n 1, 1, 0, .null) := by decide +kernel
theorem i_46_46 : am_ins 46 46 = some (.iaload, 0, 0, .null) := by decide +kernel
theorem i_46_47 : am_ins 46 47 = some (.invokestatic 84, 45, 2, .null) := by decide +kernel
theorem i_46_50 : am_ins 46 50 = some (.imul, 0, 0, .null) := by decide +kernel
theorem i_46_51 : am_ins 46 51 = some (.iload_n 3, 3, 0, .null) := by decide +kernel
theorem i_46_52 : am_ins 46 52 = some (.iadd, 0, 0, .null) := by decide +kernel
theorem i_46_53 : am_ins 46 53 = some (.iconst 0, 0, 0, .int 0) := by decide +kernel
theorem i_46_54 : am_ins 46 54 = some (.iastore, 0, 0, .null) := by decide +kernel
theorem i_46_55 : am_ins 46 55 = some (.iinc 3 1, 3, 0, .int 1) := by decide +kernel
theorem i_46_58 : am_ins 46 58 = some (.goto (-30), 28, 0, .null) := by decide +kernel
theorem i_46_61 : am_ins 46 61 = some (.return_, 0, 0, .null) := by decide +kernel
theorem i_47_0 : am_ins 47 0 = some (.iconst 0, 0, 0, .int 0) := by decide +kernel
theorem i_47_1 : am_ins 47 1 = some (.istore_n 1, 1, 0, .null) := by decide +kernel
theorem i_47_2 : am_ins 47 2 = some (.iconst 1, 0, 0, .int 1) := by decide +kernel
theorem i_47_3 : am_ins 47 3 = some (.istore_n 2, 2, 0, .null) := by decide +kernel
theorem i_47_4 : am_ins 47 4 = some (.iload_n 2, 2, 0, .null) := by decide +kernel
theorem i_47_5 : am_ins 47 5 = some (.ifCond .eq 100, 105, 0, .null) := by decide +kernel
theorem i_47_8 : am_ins 47 8 = some (.iconst 0, 0, 0, .int 0) := by decide +kernel
theorem i_47_9 : am_ins 47 9 = some (.istore_n 2, 2, 0, .null) := by decide +kernel
theorem i_47_10 : am_ins 47 10 = some (.iconst 1, 0, 0, .int 1) := by decide +kernel
theorem i_47_11 : am_ins 47 11 = some (.istore_n 3, 3, 0, .null) := by decide +kernel
theorem i_47_12 : am_ins 47 12 = some (.iload_n 3, 3, 0, .null) := by decide +kernel
theorem i_47_13 : am_ins 47 13 = some (.aload_n 0, 0, 0, .null) := by decide +kernel
theorem i_47_14 : am_ins 47 14 = some (.getfield 66, 5, 3, .null) := by decide +kernel
theorem i_47_17 : am_ins 47 17 = some (.if_icmp .gt 52, 69, 0, .null) := by decide +kernel
theorem i_47_20 : am_ins 47 20 = some (.aload_n 0, 0, 0, .null) := by decide +kernel
theorem i_47_21 : am_ins 47 21 = some (.iload_n 3, 3, 0, .null) := by decide +kernel
theorem i_47_22 : am_ins 47 22 = some (.invokevirtual 87, 44, 1, .null) := by decide +kernel
theorem i_47_25 : am_ins 47 25 = some (.ifCond .eq 36, 61, 0, .null) := by decide +kernel
theorem i_47_28 : am_ins 47 28 = some (.iload_n 2, 2, 0, .null) := by decide +kernel
theorem i_47_29 : am_ins 47 29 = some (.ifCond .eq 28, 57, 0, .null) := by decide +kernel
theorem i_47_32 : am_ins 47 32 = some (.aload_n 0, 0, 0, .null) := by decide +kernel
theorem i_47_33 : am_ins 47 33 = some (.getfield 16, 5, 7, .null) := by decide +kernel
theorem i_47_36 : am_ins 47 36 = some (.aload_n 0, 0, 0, .null) := by decide +kernel
theorem i_47_37 : am_ins 47 37 = some (.getfield 28, 5, 11, .null) := by decide +kernel
theorem i_47_40 : am_ins 47 40 = some (.iload_n 3, 3, 0, .null) := by decide +kernel
theorem i_47_41 : am_ins 47 41 = some (.iaload, 0, 0, .null) := by decide +kernel
theorem i_47_42 : am_ins 47 42 = some (.iaload, 0, 0, .null) := by decide +kernel
theorem i_47_43 : am_ins 47 43 = some (.aload_n 0, 0, 0, .null) := by decide +kernel
theorem i_47_44 : am_ins 47 44 = some (.getfield 16, 5, 7, .null) := by decide +kernel
theorem i_47_47 : am_ins 47 47 = some (.aload_n 0, 0, 0, .null) := by decide +kernel
theorem i_47_48 : am_ins 47 48 = some (.getfield 28, 5, 11, .null) := by decide +kernel
theorem i_47_51 : am_ins 47 51 = some (.iload_n 2, 2, 0, .null) := by decide +kernel
theorem i_47_52 : am_ins 47 52 = some (.iaload, 0, 0, .null) := by decide +kernel
theorem i_47_53 : am_ins 47 53 = some (.iaload, 0, 0, .null) := by decide +kernel
theorem i_47_54 : am_ins 47 54 = some (.if_icmp .le 7, 61, 0, .null) := by decide +kernel
theorem i_47_57 : am_ins 47 57 = some (.iload_n 3, 3, 0, .null) := by decide +kernel
theorem i_47_58 : am_ins 47 58 = some (.goto 4, 62, 0, .null) := by decide +kernel
theorem i_47_61 : am_ins 47 61 = some (.iload_n 2, 2, 0, .null) := by decide +kernel
theorem i_47_62 : am_ins 47 62 = some (.istore_n 2, 2, 0, .null) := by decide +kernel
theorem i_47_63 : am_ins 47 63 = some (.iinc 3 1, 3, 0, .int 1) := by decide +kernel
theorem i_47_66 : am_ins 47 66 = some (.goto (-54), 12, 0, .null) := by decide +kernel
theorem i_47_69 : am_ins 47 69 = some (.iload_n 2, 2, 0, .null) := by decide +kernel
theorem i_47_70 : am_ins 47 70 = some (.ifCond .ne 6, 76, 0, .null) := by decide +kernel
theorem i_47_73 : am_ins 47 73 = some (.goto (-69), 4, 0, .null) := by decide +kernel
theorem i_47_76 : am_ins 47 76 = some (.aload_n 0, 0, 0, .null) := by decide +kernel
theorem i_47_77 : am_ins 47 77 = some (.getfield 34, 5, 13, .null) := by decide +kernel
theorem i_47_80 : am_ins 47 80 = some (.iload_n 2, 2, 0, .null) := by decide +kernel
theorem i_47_81 : am_ins 47 81 = some (.iconst 1, 0, 0, .int 1) := by decide +kernel
theorem i_47_82 : am_ins 47 82 = some (.iastore, 0, 0, .null) := by decide +kernel
theorem i_47_83 : am_ins 47 83 = some (.aload_n 0, 0, 0, .null) := by decide +kernel
theorem i_47_84 : am_ins 47 84 = some (.iload_n 2, 2, 0, .null) := by decide +kernel
theorem i_47_85 : am_ins 47 85 = some (.aload_n 0, 0, 0, .null) := by decide +kernel
theorem i_47_86 : am_ins 47 86 = some (.getfield 7, 5, 5, .null) := by decide +kernel
theorem i_47_89 : am_ins 47 89 = some (.aload_n 0, 0, 0, .null) := by decide +kernel
theorem i_47_90 : am_ins 47 90 = some (.getfield 28, 5, 11, .null) := by decide +kernel
theorem i_47_93 : am_ins 47 93 = some (.iload_n 2, 2, 0, .null) := by decide +kernel
theorem i_47_94 : am_ins 47 94 = some (.iaload, 0, 0, .null) := by decide +kernel
theorem i_47_95 : am_ins 47 95 = some (.iaload, 0, 0, .null) := by decide +kernel
theorem i_47_96 : am_ins 47 96 = some (.invokevirtual 90, 46, 2, .null) := by decide +kernel
theorem i_47_99 : am_ins 47 99 = some (.iinc 1 1, 1, 0, .int 1) := by decide +kernel
theorem i_47_102 : am_ins 47 102 = some (.goto (-98), 4, 0, .null) := by decide +kernel
theorem i_47_105 : am_ins 47 105 = some (.iload_n 1, 1, 0, .null) := by decide +kernel
theorem i_47_106 : am_ins 47 106 = some (.ireturn, 0, 0, .null) := by decide +kernel
theorem i_48_0 : am_ins 48 0 = some (.aload_n 0, 0, 0, .null) := by decide +kernel
theorem i_48_1 : am_ins 48 1 = some (.iconst 0, 0, 0, .int 0) := by decide +kernel
theorem i_48_2 : am_ins 48 2 = some (.putfield 56, 5, 0, .null) := by decide +kernel
theorem i_48_5 : am_ins 48 5 = some (.iload_n 1, 1, 0, .null) := by decide +kernel
theorem i_48_6 : am_ins 48 6 = some (.ifCond .ne 20, 26, 0, .null) := by decide +kernel
theorem i_48_9 : am_ins 48 9 = some (.aload_n 0, 0, 0, .null) := by decide +kernel
theorem i_48_10 : am_ins 48 10 = some (.iload_n 2, 2, 0, .null) := by decide +kernel
theorem i_48_11 : am_ins 48 11 = some (.invokevirtual 94, 37, 1, .null) := by decide +kernel
theorem i_48_14 : am_ins 48 14 = some (.ifCond .eq 12, 26, 0, .null) := by decide +kernel
theorem i_48_17 : am_ins 48 17 = some (.aload_n 0, 0, 0, .null) := by decide +kernel
theorem i_48_18 : am_ins 48 18 = some (.getfield 19, 5, 8, .null) := by decide +kernel
theorem i_48_21 : am_ins 48 21 = some (.iload_n 2, 2, 0, .null) := by decide +kernel
theorem i_48_22 : am_ins 48 22 = some (.iaload, 0, 0, .null) := by decide +kernel
theorem i_48_23 : am_ins 48 23 = some (.goto 4, 27, 0, .null) := by decide +kernel
theorem i_48_26 : am_ins 48 26 = some (.iload_n 1, 1, 0, .null) := by decide +kernel
theorem i_48_27 : am_ins 48 27 = some (.istore 5, 5, 0, .null) := by decide +kernel
theorem i_48_29 : am_ins 48 29 = some (.aload_n 0, 0, 0, .null) := by decide +kernel
theorem i_48_30 : am_ins 48 30 = some (.iload 5, 5, 0, .null) := by decide +kernel
theorem i_48_32 : am_ins 48 32 = some (.invokevirtual 97, 36, 1, .null) := by decide +kernel
theorem i_48_35 : am_ins 48 35 = some (.ifCond .eq 15, 50, 0, .null) := by decide +kernel
theorem i_48_38 : am_ins 48 38 = some (.iload_n 2, 2, 0, .null) := by decide +kernel
theorem i_48_39 : am_ins 48 39 = some (.ifCond .eq 14, 53, 0, .null) := by decide +kernel
theorem i_48_42 : am_ins 48 42 = some (.aload_n 0, 0, 0, .null) := by decide +kernel
theorem i_48_43 : am_ins 48 43 = some (.iload_n 2, 2, 0, .null) := by decide +kernel
theorem i_48_44 : am_ins 48 44 = some (.invokevirtual 94, 37, 1, .null) := by decide +kernel
theorem i_48_47 : am_ins 48 47 = some (.ifCond .ne 6, 53, 0, .null) := by decide +kernel
theorem i_48_50 : am_ins 48 50 = some (.bipush (-2), 0, 0, .int (-2)) := by decide +kernel
theorem i_48_52 : am_ins 48 52 = some (.ireturn, 0, 0, .null) := by decide +kernel
theorem i_48_53 : am_ins 48 53 = some (.lload_n 3, 3, 0, .null) := by decide +kernel
theorem i_48_54 : am_ins 48 54 = some (.lconst 0, 0, 0, .long 0) := by decide +kernel
theorem i_48_55 : am_ins 48 55 = some (.lcmp, 0, 0, .null) := by decide +kernel
theorem i_48_56 : am_ins 48 56 = some (.ifCond .ge 6, 62, 0, .null) := by decide +kernel
theorem i_48_59 : am_ins 48 59 = some (.bipush (-4), 0, 0, .int (-4)) := by decide +kernel
theorem i_48_61 : am_ins 48 61 = some (.ireturn, 0, 0, .null) := by decide +kernel
theorem i_48_62 : am_ins 48 62 = some (.aload_n 0, 0, 0, .null) := by decide +kernel
theorem i_48_63 : am_ins 48 63 = some (.getfield 66, 5, 3, .null) := by decide +kernel
theorem i_48_66 : am_ins 48 66 = some (.sipush 200, 0, 0, .int 200) := by decide +kernel
theorem i_48_69 : am_ins 48 69 = some (.if_icmp .ne 5, 74, 0, .null) := by decide +kernel
theorem i_48_72 : am_ins 48 72 = some (.iconst (-1), 0, 0, .int (-1)) := by decide +kernel
theorem i_48_73 : am_ins 48 73 = some (.ireturn, 0, 0, .null) := by decide +kernel
theorem i_48_74 : am_ins 48 74 = some (.aload_n 0, 0, 0, .null) := by decide +kernel
theorem i_48_75 : am_ins 48 75 = some (.dup, 0, 0, .null) := by decide +kernel
theorem i_48_76 : am_ins 48 76 = some (.getfield 66, 5, 3, .null) := by decide +kernel
theorem i_48_79 : am_ins 48 79 = some (.iconst 1, 0, 0, .int 1) := by decide +kernel
theorem i_48_80 : am_ins 48 80 = some (.iadd, 0, 0, .null) := by decide +kernel
theorem i_48_81 : am_ins 48 81 = some (.putfield 66, 5, 3, .null) := by decide +kernel
theorem i_48_84 : am_ins 48 84 = some (.aload_n 0, 0, 0, .null) := by decide +kernel
theorem i_48_85 : am_ins 48 85 = some (.getfield 28, 5, 11, .null) := by decide +kernel
theorem i_48_88 : am_ins 48 88 = some (.aload_n 0, 0, 0, .null) := by decide +kernel
theorem i_48_89 : am_ins 48 89 = some (.getfield 66, 5, 3, .null) := by decide +kernel
theorem i_48_92 : am_ins 48 92 = some (.iload 5, 5, 0, .null) := by decide +kernel
theorem i_48_94 : am_ins 48 94 = some (.iastore, 0, 0, .null) := by decide +kernel
theorem i_48_95 : am_ins 48 95 = some (.aload_n 0, 0, 0, .null) := by decide +kernel
theorem i_48_96 : am_ins 48 96 = some (.getfield 31, 5, 12, .null) := by decide +kernel
theorem i_48_99 : am_ins 48 99 = some (.aload_n 0, 0, 0, .null) := by decide +kernel
theorem i_48_100 : am_ins 48 100 = some (.getfield 66, 5, 3, .null) := by decide +kernel
theorem i_48_103 : am_ins 48 103 = some (.iload_n 2, 2, 0, .null) := by decide +kernel
theorem i_48_104 : am_ins 48 104 = some (.iastore, 0, 0, .null) := by decide +kernel
theorem i_48_105 : am_ins 48 105 = some (.aload_n 0, 0, 0, .null) := by decide +kernel
theorem i_48_106 : am_ins 48 106 = some (.getfield 46, 5, 17, .null) := by decide +kernel
theorem i_48_109 : am_ins 48 109 = some (.aload_n 0, 0, 0, .null) := by decide +kernel
theorem i_48_110 : am_ins 48 110 = some (.getfield 66, 5, 3, .null) := by decide +kernel
theorem i_48_113 : am_ins 48 113 = some (.lload_n 3, 3, 0, .null) := by decide +kernel
theorem i_48_114 : am_ins 48 114 = some (.lastore, 0, 0, .null) := by decide +kernel
theorem i_48_115 : am_ins 48 115 = some (.aload_n 0, 0, 0, .null) := by decide +kernel
theorem i_48_116 : am_ins 48 116 = some (.getfield 37, 5, 14, .null) := by decide +kernel
theorem i_48_119 : am_ins 48 119 = some (.aload_n 0, 0, 0, .null) := by decide +kernel
theorem i_48_120 : am_ins 48 120 = some (.getfield 66, 5, 3, .null) := by decide +kernel
theorem i_48_123 : am_ins 48 123 = some (.iconst (-1), 0, 0, .int (-1)) := by decide +kernel
theorem i_48_124 : am_ins 48 124 = some (.iastore, 0, 0, .null) := by decide +kernel
theorem i_48_125 : am_ins 48 125 = some (.iload_n 1, 1, 0, .null) := by decide +kernel
theorem i_48_126 : am_ins 48 126 = some (.ifCond .ne 10, 136, 0, .null) := by decide +kernel
theorem i_48_129 : am_ins 48 129 = some (.aload_n 0, 0, 0, .null) := by decide +kernel
theorem i_48_130 : am_ins 48 130 = some (.getfield 19, 5, 8, .null) := by decide +kernel
theorem i_48_133 : am_ins 48 133 = some (.iload_n 2, 2, 0, .null) := by decide +kernel
theorem i_48_134 : am_ins 48 134 = some (.iconst 0, 0, 0, .int 0) := by decide +kernel
theorem i_48_135 : am_ins 48 135 = some (.iastore, 0, 0, .null) := by decide +kernel
theorem i_48_136 : am_ins 48 136 = some (.aload_n 0, 0, 0, .null) := by decide +kernel
theorem i_48_137 : am_ins 48 137 = some (.getfield 66, 5, 3, .null) := by decide +kernel
theorem i_48_140 : am_ins 48 140 = some (.istore 6, 6, 0, .null) := by decide +kernel
theorem i_48_142 : am_ins 48 142 = some (.aload_n 0, 0, 0, .null) := by decide +kernel
theorem i_48_143 : am_ins 48 143 = some (.invokevirtual 100, 47, 0, .null) := by decide +kernel
theorem i_48_146 : am_ins 48 146 = some (.pop, 0, 0, .null) := by decide +kernel
theorem i_48_147 : am_ins 48 147 = some (.iload 6, 6, 0, .null) := by decide +kernel
theorem i_48_149 : am_ins 48 149 = some (.ireturn, 0, 0, .null) := by decide +kernel
theorem i_49_0 : am_ins 49 0 = some (.aload_n 0, 0, 0, .null) := by decide +kernel
theorem i_49_1 : am_ins 49 1 = some (.iconst 0, 0, 0, .int 0) := by decide +kernel
theorem i_49_2 : am_ins 49 2 = some (.putfield 56, 5, 0, .null) := by decide +kernel
theorem i_49_5 : am_ins 49 5 = some (.lload_n 1, 1, 0, .null) := by decide +kernel
theorem i_49_6 : am_ins 49 6 = some (.aload_n 0, 0, 0, .null) := by decide +kernel
theorem i_49_7 : am_ins 49 7 = some (.getfield 73, 5, 4, .null) := by decide +kernel
theorem i_49_10 : am_ins 49 10 = some (.lcmp, 0, 0, .null) := by decide +kernel
theorem i_49_11 : am_ins 49 11 = some (.ifCond .ge 6, 17, 0, .null) := by decide +kernel
theorem i_49_14 : am_ins 49 14 = some (.bipush (-4), 0, 0, .int (-4)) := by decide +kernel
theorem i_49_16 : am_ins 49 16 = some (.ireturn, 0, 0, .null) := by decide +kernel
theorem i_49_17 : am_ins 49 17 = some (.aload_n 0, 0, 0, .null) := by decide +kernel
theorem i_49_18 : am_ins 49 18 = some (.lload_n 1, 1, 0, .null) := by decide +kernel
theorem i_49_19 : am_ins 49 19 = some (.putfield 73, 5, 4, .null) := by decide +kernel
theorem i_49_22 : am_ins 49 22 = some (.aload_n 0, 0, 0, .null) := by decide +kernel
theorem i_49_23 : am_ins 49 23 = some (.invokevirtual 100, 47, 0, .null) := by decide +kernel
theorem i_49_26 : am_ins 49 26 = some (.ireturn, 0, 0, .null) := by decide +kernel
theorem i_50_0 : am_ins 50 0 = some (.aload_n 0, 0, 0, .null) := by decide +kernel
theorem i_50_1 : am_ins 50 1 = some (.iconst 0, 0, 0, .int 0) := by decide +kernel
theorem i_50_2 : am_ins 50 2 = some (.putfield 56, 5, 0, .null) := by decide +kernel
theorem i_50_5 : am_ins 50 5 = some (.iload_n 1, 1, 0, .null) := by decide +kernel
theorem i_50_6 : am_ins 50 6 = some (.ifCond .lt 19, 25, 0, .null) := by decide +kernel
theorem i_50_9 : am_ins 50 9 = some (.iload_n 1, 1, 0, .null) := by decide +kernel
theorem i_50_10 : am_ins 50 10 = some (.bipush 9, 0, 0, .int 9) := by decide +kernel
theorem i_50_12 : am_ins 50 12 = some (.if_icmp .gt 13, 25, 0, .null) := by decide +kernel
theorem i_50_15 : am_ins 50 15 = some (.iload_n 2, 2, 0, .null) := by decide +kernel
theorem i_50_16 : am_ins 50 16 = some (.ifCond .lt 9, 25, 0, .null) := by decide +kernel
theorem i_50_19 : am_ins 50 19 = some (.iload_n 2, 2, 0, .null) := by decide +kernel
theorem i_50_20 : am_ins 50 20 = some (.bipush 50, 0, 0, .int 50) := by decide +kernel
theorem i_50_22 : am_ins 50 22 = some (.if_icmp .le 6, 28, 0, .null) := by decide +kernel
theorem i_50_25 : am_ins 50 25 = some (.bipush (-4), 0, 0, .int (-4)) := by decide +kernel
theorem i_50_27 : am_ins 50 27 = some (.ireturn, 0, 0, .null) := by decide +kernel
theorem i_50_28 : am_ins 50 28 = some (.aload_n 0, 0, 0, .null) := by decide +kernel
theorem i_50_29 : am_ins 50 29 = some (.getfield 25, 5, 10, .null) := by decide +kernel
theorem i_50_32 : am_ins 50 32 = some (.iload_n 1, 1, 0, .null) := by decide +kernel
theorem i_50_33 : am_ins 50 33 = some (.iaload, 0, 0, .null) := by decide +kernel
theorem i_50_34 : am_ins 50 34 = some (.istore_n 3, 3, 0, .null) := by decide +kernel
theorem i_50_35 : am_ins 50 35 = some (.aload_n 0, 0, 0, .null) := by decide +kernel
theorem i_50_36 : am_ins 50 36 = some (.getfield 25, 5, 10, .null) := by decide +kernel
theorem i_50_39 : am_ins 50 39 = some (.iload_n 1, 1, 0, .null) := by decide +kernel
theorem i_50_40 : am_ins 50 40 = some (.iload_n 2, 2, 0, .null) := by decide +kernel
theorem i_50_41 : am_ins 50 41 = some (.iastore, 0, 0, .null) := by decide +kernel
theorem i_50_42 : am_ins 50 42 = some (.aload_n 0, 0, 0, .null) := by decide +kernel
theorem i_50_43 : am_ins 50 43 = some (.invokevirtual 100, 47, 0, .null) := by decide +kernel
theorem i_50_46 : am_ins 50 46 = some (.pop, 0, 0, .null) := by decide +kernel
theorem i_50_47 : am_ins 50 47 = some (.iload_n 3, 3, 0, .null) := by decide +kernel
theorem i_50_48 : am_ins 50 48 = some (.ireturn, 0, 0, .null) := by decide +kernel
theorem i_51_0 : am_ins 51 0 = some (.aload_n 0, 0, 0, .null) := by decide +kernel
theorem i_51_1 : am_ins 51 1 = some (.getfield 34, 5, 13, .null) := by decide +kernel
theorem i_51_4 : am_ins 51 4 = some (.iload_n 1, 1, 0, .null) := by decide +kernel
theorem i_51_5 : am_ins 51 5 = some (.iload_n 2, 2, 0, .null) := by decide +kernel
theorem i_51_6 : am_ins 51 6 = some (.iastore, 0, 0, .null) := by decide +kernel
theorem i_51_7 : am_ins 51 7 = some (.aload_n 0, 0, 0, .null) := by decide +kernel
theorem i_51_8 : am_ins 51 8 = some (.getfield 37, 5, 14, .null) := by decide +kernel
theorem i_51_11 : am_ins 51 11 = some (.iload_n 1, 1, 0, .null) := by decide +kernel
theorem i_51_12 : am_ins 51 12 = some (.iconst (-1), 0, 0, .int (-1)) := by decide +kernel
theorem i_51_13 : am_ins 51 13 = some (.iastore, 0, 0, .null) := by decide +kernel
theorem i_51_14 : am_ins 51 14 = some (.aload_n 0, 0, 0, .null) := by decide +kernel
theorem i_51_15 : am_ins 51 15 = some (.getfield 40, 5, 15, .null) := by decide +kernel
theorem i_51_18 : am_ins 51 18 = some (.iload_n 1, 1, 0, .null) := by decide +kernel
theorem i_51_19 : am_ins 51 19 = some (.iconst 0, 0, 0, .int 0) := by decide +kernel
theorem i_51_20 : am_ins 51 20 = some (.iastore, 0, 0, .null) := by decide +kernel
theorem i_51_21 : am_ins 51 21 = some (.aload_n 0, 0, 0, .null) := by decide +kernel
theorem i_51_22 : am_ins 51 22 = some (.getfield 43, 5, 16, .null) := by decide +kernel
theorem i_51_25 : am_ins 51 25 = some (.iload_n 1, 1, 0, .null) := by decide +kernel
theorem i_51_26 : am_ins 51 26 = some (.iconst 0, 0, 0, .int 0) := by decide +kernel
theorem i_51_27 : am_ins 51 27 = some (.iastore, 0, 0, .null) := by decide +kernel
theorem i_51_28 : am_ins 51 28 = some (.aload_n 0, 0, 0, .null) := by decide +kernel
theorem i_51_29 : am_ins 51 29 = some (.invokevirtual 100, 47, 0, .null) := by decide +kernel
theorem i_51_32 : am_ins 51 32 = some (.pop, 0, 0, .null) := by decide +kernel
theorem i_51_33 : am_ins 51 33 = some (.return_, 0, 0, .null) := by decide +kernel
theorem i_52_0 : am_ins 52 0 = some (.aload_n 0, 0, 0, .null) := by decide +kernel
theorem i_52_1 : am_ins 52 1 = some (.iconst 0, 0, 0, .int 0) := by decide +kernel
theorem i_52_2 : am_ins 52 2 = some (.putfield 56, 5, 0, .null) := by decide +kernel
theorem i_52_5 : am_ins 52 5 = some (.aload_n 0, 0, 0, .null) := by decide +kernel
theorem i_52_6 : am_ins 52 6 = some (.iload_n 1, 1, 0, .null) := by decide +kernel
theorem i_52_7 : am_ins 52 7 = some (.invokevirtual 104, 38, 1, .null) := by decide +kernel
theorem i_52_10 : am_ins 52 10 = some (.ifCond .ne 6, 16, 0, .null) := by decide +kernel
theorem i_52_13 : am_ins 52 13 = some (.bipush (-2), 0, 0, .int (-2)) := by decide +kernel
theorem i_52_15 : am_ins 52 15 = some (.ireturn, 0, 0, .null) := by decide +kernel
theorem i_52_16 : am_ins 52 16 = some (.iload_n 2, 2, 0, .null) := by decide +kernel
theorem i_52_17 : am_ins 52 17 = some (.ifCond .lt 23, 40, 0, .null) := by decide +kernel
theorem i_52_20 : am_ins 52 20 = some (.iload_n 2, 2, 0, .null) := by decide +kernel
theorem i_52_21 : am_ins 52 21 = some (.iconst 2, 0, 0, .int 2) := by decide +kernel
theorem i_52_22 : am_ins 52 22 = some (.if_icmp .gt 18, 40, 0, .null) := by decide +kernel
theorem i_52_25 : am_ins 52 25 = some (.iload_n 2, 2, 0, .null) := by decide +kernel
theorem i_52_26 : am_ins 52 26 = some (.iconst 2, 0, 0, .int 2) := by decide +kernel
theorem i_52_27 : am_ins 52 27 = some (.if_icmp .ge 16, 43, 0, .null) := by decide +kernel
theorem i_52_30 : am_ins 52 30 = some (.iload_n 3, 3, 0, .null) := by decide +kernel
theorem i_52_31 : am_ins 52 31 = some (.ifCond .lt 9, 40, 0, .null) := by decide +kernel
theorem i_52_34 : am_ins 52 34 = some (.iload_n 3, 3, 0, .null) := by decide +kernel
theorem i_52_35 : am_ins 52 35 = some (.bipush 15, 0, 0, .int 15) := by decide +kernel
theorem i_52_37 : am_ins 52 37 = some (.if_icmp .le 6, 43, 0, .null) := by decide +kernel
theorem i_52_40 : am_ins 52 40 = some (.bipush (-4), 0, 0, .int (-4)) := by decide +kernel
theorem i_52_42 : am_ins 52 42 = some (.ireturn, 0, 0, .null) := by decide +kernel
theorem i_52_43 : am_ins 52 43 = some (.iload_n 2, 2, 0, .null) := by decide +kernel
theorem i_52_44 : am_ins 52 44 = some (.iconst 1, 0, 0, .int 1) := by decide +kernel
theorem i_52_45 : am_ins 52 45 = some (.if_icmp .ne 26, 71, 0, .null) := by decide +kernel
theorem i_52_48 : am_ins 52 48 = some (.aload_n 0, 0, 0, .null) := by decide +kernel
theorem i_52_49 : am_ins 52 49 = some (.getfield 34, 5, 13, .null) := by decide +kernel
theorem i_52_52 : am_ins 52 52 = some (.iload_n 1, 1, 0, .null) := by decide +kernel
theorem i_52_53 : am_ins 52 53 = some (.iaload, 0, 0, .null) := by decide +kernel
theorem i_52_54 : am_ins 52 54 = some (.iconst 2, 0, 0, .int 2) := by decide +kernel
theorem i_52_55 : am_ins 52 55 = some (.if_icmp .ne 26, 81, 0, .null) := by decide +kernel
theorem i_52_58 : am_ins 52 58 = some (.aload_n 0, 0, 0, .null) := by decide +kernel
theorem i_52_59 : am_ins 52 59 = some (.getfield 37, 5, 14, .null) := by decide +kernel
theorem i_52_62 : am_ins 52 62 = some (.iload_n 1, 1, 0, .null) := by decide +kernel
theorem i_52_63 : am_ins 52 63 = some (.iaload, 0, 0, .null) := by decide +kernel
theorem i_52_64 : am_ins 52 64 = some (.iload_n 3, 3, 0, .null) := by decide +kernel
theorem i_52_65 : am_ins 52 65 = some (.if_icmp .eq 19, 84, 0, .null) := by decide +kernel
theorem i_52_68 : am_ins 52 68 = some (.goto 13, 81, 0, .null) := by decide +kernel
theorem i_52_71 : am_ins 52 71 = some (.aload_n 0, 0, 0, .null) := by decide +kernel
theorem i_52_72 : am_ins 52 72 = some (.getfield 34, 5, 13, .null) := by decide +kernel
theorem i_52_75 : am_ins 52 75 = some (.iload_n 1, 1, 0, .null) := by decide +kernel
theorem i_52_76 : am_ins 52 76 = some (.iaload, 0, 0, .null) := by decide +kernel
theorem i_52_77 : am_ins 52 77 = some (.iconst 1, 0, 0, .int 1) := by decide +kernel
theorem i_52_78 : am_ins 52 78 = some (.if_icmp .eq 6, 84, 0, .null) := by decide +kernel
theorem i_52_81 : am_ins 52 81 = some (.bipush (-5), 0, 0, .int (-5)) := by decide +kernel
theorem i_52_83 : am_ins 52 83 = some (.ireturn, 0, 0, .null) := by decide +kernel
theorem i_52_84 : am_ins 52 84 = some (.iload_n 2, 2, 0, .null) := by decide +kernel
theorem i_52_85 : am_ins 52 85 = some (.iconst 2, 0, 0, .int 2) := by decide +kernel
theorem i_52_86 : am_ins 52 86 = some (.if_icmp .ne 12, 98, 0, .null) := by decide +kernel
theorem i_52_89 : am_ins 52 89 = some (.aload_n 0, 0, 0, .null) := by decide +kernel
theorem i_52_90 : am_ins 52 90 = some (.iload_n 1, 1, 0, .null) := by decide +kernel
theorem i_52_91 : am_ins 52 91 = some (.iconst 3, 0, 0, .int 3) := by decide +kernel
theorem i_52_92 : am_ins 52 92 = some (.invokevirtual 107, 51, 2, .null) := by decide +kernel
theorem i_52_95 : am_ins 52 95 = some (.goto 33, 128, 0, .null) := by decide +kernel
theorem i_52_98 : am_ins 52 98 = some (.aload_n 0, 0, 0, .null) := by decide +kernel
theorem i_52_99 : am_ins 52 99 = some (.getfield 34, 5, 13, .null) := by decide +kernel
theorem i_52_102 : am_ins 52 102 = some (.iload_n 1, 1, 0, .null) := by decide +kernel
theorem i_52_103 : am_ins 52 103 = some (.iload_n 2, 2, 0, .null) := by decide +kernel
theorem i_52_104 : am_ins 52 104 = some (.ifCond .ne 7, 111, 0, .null) := by decide +kernel
theorem i_52_107 : am_ins 52 107 = some (.iconst 2, 0, 0, .int 2) := by decide +kernel
theorem i_52_108 : am_ins 52 108 = some (.goto 4, 112, 0, .null) := by decide +kernel
theorem i_52_111 : am_ins 52 111 = some (.iconst 1, 0, 0, .int 1) := by decide +kernel
theorem i_52_112 : am_ins 52 112 = some (.iastore, 0, 0, .null) := by decide +kernel
theorem i_52_113 : am_ins 52 113 = some (.aload_n 0, 0, 0, .null) := by decide +kernel
theorem i_52_114 : am_ins 52 114 = some (.getfield 37, 5, 14, .null) := by decide +kernel
theorem i_52_117 : am_ins 52 117 = some (.iload_n 1, 1, 0, .null) := by decide +kernel
theorem i_52_118 : am_ins 52 118 = some (.iload_n 2, 2, 0, .null) := by decide +kernel
theorem i_52_119 : am_ins 52 119 = some (.ifCond .ne 7, 126, 0, .null) := by decide +kernel
theorem i_52_122 : am_ins 52 122 = some (.iload_n 3, 3, 0, .null) := by decide +kernel
theorem i_52_123 : am_ins 52 123 = some (.goto 4, 127, 0, .null) := by decide +kernel
theorem i_52_126 : am_ins 52 126 = some (.iconst (-1), 0, 0, .int (-1)) := by decide +kernel
theorem i_52_127 : am_ins 52 127 = some (.iastore, 0, 0, .null) := by decide +kernel
theorem i_52_128 : am_ins 52 128 = some (.aload_n 0, 0, 0, .null) := by decide +kernel
theorem i_52_129 : am_ins 52 129 = some (.getfield 34, 5, 13, .null) := by decide +kernel
theorem i_52_132 : am_ins 52 132 = some (.iload_n 1, 1, 0, .null) := by decide +kernel
theorem i_52_133 : am_ins 52 133 = some (.iaload, 0, 0, .null) := by decide +kernel
theorem i_52_134 : am_ins 52 134 = some (.ireturn, 0, 0, .null) := by decide +kernel
theorem i_53_0 : am_ins 53 0 = some (.aload_n 0, 0, 0, .null) := by decide +kernel
theorem i_53_1 : am_ins 53 1 = some (.iconst 0, 0, 0, .int 0) := by decide +kernel
theorem i_53_2 : am_ins 53 2 = some (.putfield 56, 5, 0, .null) := by decide +kernel
theorem i_53_5 : am_ins 53 5 = some (.aload_n 0, 0, 0, .null) := by decide +kernel
theorem i_53_6 : am_ins 53 6 = some (.iload_n 1, 1, 0, .null) := by decide +kernel
theorem i_53_7 : am_ins 53 7 = some (.invokevirtual 104, 38, 1, .null) := by decide +kernel
theorem i_53_10 : am_ins 53 10 = some (.ifCond .ne 6, 16, 0, .null) := by decide +kernel
theorem i_53_13 : am_ins 53 13 = some (.bipush (-2), 0, 0, .int (-2)) := by decide +kernel
theorem i_53_15 : am_ins 53 15 = some (.ireturn, 0, 0, .null) := by decide +kernel
theorem i_53_16 : am_ins 53 16 = some (.iload_n 2, 2, 0, .null) := by decide +kernel
theorem i_53_17 : am_ins 53 17 = some (.ifCond .lt 9, 26, 0, .null) := by decide +kernel
theorem i_53_20 : am_ins 53 20 = some (.iload_n 2, 2, 0, .null) := by decide +kernel
theorem i_53_21 : am_ins 53 21 = some (.bipush 99, 0, 0, .int 99) := by decide +kernel
theorem i_53_23 : am_ins 53 23 = some (.if_icmp .le 6, 29, 0, .null) := by decide +kernel
theorem i_53_26 : am_ins 53 26 = some (.bipush (-4), 0, 0, .int (-4)) := by decide +kernel
theorem i_53_28 : am_ins 53 28 = some (.ireturn, 0, 0, .null) := by decide +kernel
theorem i_53_29 : am_ins 53 29 = some (.aload_n 0, 0, 0, .null) := by decide +kernel
theorem i_53_30 : am_ins 53 30 = some (.getfield 34, 5, 13, .null) := by decide +kernel
theorem i_53_33 : am_ins 53 33 = some (.iload_n 1, 1, 0, .null) := by decide +kernel
theorem i_53_34 : am_ins 53 34 = some (.iaload, 0, 0, .null) := by decide +kernel
theorem i_53_35 : am_ins 53 35 = some (.iconst 1, 0, 0, .int 1) := by decide +kernel
theorem i_53_36 : am_ins 53 36 = some (.if_icmp .eq 6, 42, 0, .null) := by decide +kernel
theorem i_53_39 : am_ins 53 39 = some (.bipush (-5), 0, 0, .int (-5)) := by decide +kernel
theorem i_53_41 : am_ins 53 41 = some (.ireturn, 0, 0, .null) := by decide +kernel
theorem i_53_42 : am_ins 53 42 = some (.aload_n 0, 0, 0, .null) := by decide +kernel
theorem i_53_43 : am_ins 53 43 = some (.getfield 40, 5, 15, .null) := by decide +kernel
theorem i_53_46 : am_ins 53 46 = some (.iload_n 1, 1, 0, .null) := by decide +kernel
theorem i_53_47 : am_ins 53 47 = some (.iaload, 0, 0, .null) := by decide +kernel
theorem i_53_48 : am_ins 53 48 = some (.bipush 10, 0, 0, .int 10) := by decide +kernel
theorem i_53_50 : am_ins 53 50 = some (.if_icmp .ne 5, 55, 0, .null) := by decide +kernel
theorem i_53_53 : am_ins 53 53 = some (.iconst (-1), 0, 0, .int (-1)) := by decide +kernel
theorem i_53_54 : am_ins 53 54 = some (.ireturn, 0, 0, .null) := by decide +kernel
theorem i_53_55 : am_ins 53 55 = some (.aload_n 0, 0, 0, .null) := by decide +kernel
theorem i_53_56 : am_ins 53 56 = some (.iload_n 1, 1, 0, .null) := by decide +kernel
theorem i_53_57 : am_ins 53 57 = some (.iload_n 2, 2, 0, .null) := by decide +kernel
theorem i_53_58 : am_ins 53 58 = some (.invokevirtual 90, 46, 2, .null) := by decide +kernel
theorem i_53_61 : am_ins 53 61 = some (.aload_n 0, 0, 0, .null) := by decide +kernel
theorem i_53_62 : am_ins 53 62 = some (.getfield 40, 5, 15, .null) := by decide +kernel
theorem i_53_65 : am_ins 53 65 = some (.iload_n 1, 1, 0, .null) := by decide +kernel
theorem i_53_66 : am_ins 53 66 = some (.iaload, 0, 0, .null) := by decide +kernel
theorem i_53_67 : am_ins 53 67 = some (.ireturn, 0, 0, .null) := by decide +kernel
theorem i_54_0 : am_ins 54 0 = some (.aload_n 0, 0, 0, .null) := by decide +kernel
theorem i_54_1 : am_ins 54 1 = some (.iconst 0, 0, 0, .int 0) := by decide +kernel
theorem i_54_2 : am_ins 54 2 = some (.putfield 56, 5, 0, .null) := by decide +kernel
theorem i_54_5 : am_ins 54 5 = some (.aload_n 0, 0, 0, .null) := by decide +kernel
theorem i_54_6 : am_ins 54 6 = some (.iload_n 1, 1, 0, .null) := by decide +kernel
theorem i_54_7 : am_ins 54 7 = some (.invokevirtual 104, 38, 1, .null) := by decide +kernel
theorem i_54_10 : am_ins 54 10 = some (.ifCond .ne 6, 16, 0, .null) := by decide +kernel
theorem i_54_13 : am_ins 54 13 = some (.bipush (-2), 0, 0, .int (-2)) := by decide +kernel
theorem i_54_15 : am_ins 54 15 = some (.ireturn, 0, 0, .null) := by decide +kernel
theorem i_54_16 : am_ins 54 16 = some (.iload_n 2, 2, 0, .null) := by decide +kernel
theorem i_54_17 : am_ins 54 17 = some (.ifCond .eq 11, 28, 0, .null) := by decide +kernel
theorem i_54_20 : am_ins 54 20 = some (.aload_n 0, 0, 0, .null) := by decide +kernel
theorem i_54_21 : am_ins 54 21 = some (.iload_n 2, 2, 0, .null) := by decide +kernel
theorem i_54_22 : am_ins 54 22 = some (.invokevirtual 97, 36, 1, .null) := by decide +kernel
theorem i_54_25 : am_ins 54 25 = some (.ifCond .eq 14, 39, 0, .null) := by decide +kernel
theorem i_54_28 : am_ins 54 28 = some (.iload_n 3, 3, 0, .null) := by decide +kernel
theorem i_54_29 : am_ins 54 29 = some (.ifCond .lt 10, 39, 0, .null) := by decide +kernel
theorem i_54_32 : am_ins 54 32 = some (.iload_n 3, 3, 0, .null) := by decide +kernel
theorem i_54_33 : am_ins 54 33 = some (.sipush 9999, 0, 0, .int 9999) := by decide +kernel
theorem i_54_36 : am_ins 54 36 = some (.if_icmp .le 6, 42, 0, .null) := by decide +kernel
theorem i_54_39 : am_ins 54 39 = some (.bipush (-4), 0, 0, .int (-4)) := by decide +kernel
theorem i_54_41 : am_ins 54 41 = some (.ireturn, 0, 0, .null) := by decide +kernel
theorem i_54_42 : am_ins 54 42 = some (.aload_n 0, 0, 0, .null) := by decide +kernel
theorem i_54_43 : am_ins 54 43 = some (.getfield 34, 5, 13, .null) := by decide +kernel
theorem i_54_46 : am_ins 54 46 = some (.iload_n 1, 1, 0, .null) := by decide +kernel
theorem i_54_47 : am_ins 54 47 = some (.iaload, 0, 0, .null) := by decide +kernel
theorem i_54_48 : am_ins 54 48 = some (.iconst 1, 0, 0, .int 1) := by decide +kernel
theorem i_54_49 : am_ins 54 49 = some (.if_icmp .eq 6, 55, 0, .null) := by decide +kernel
theorem i_54_52 : am_ins 54 52 = some (.bipush (-5), 0, 0, .int (-5)) := by decide +kernel
theorem i_54_54 : am_ins 54 54 = some (.ireturn, 0, 0, .null) := by decide +kernel
theorem i_54_55 : am_ins 54 55 = some (.aload_n 0, 0, 0, .null) := by decide +kernel
theorem i_54_56 : am_ins 54 56 = some (.getfield 40, 5, 15, .null) := by decide +kernel
theorem i_54_59 : am_ins 54 59 = some (.iload_n 1, 1, 0, .null) := by decide +kernel
theorem i_54_60 : am_ins 54 60 = some (.iaload, 0, 0, .null) := by decide +kernel
theorem i_54_61 : am_ins 54 61 = some (.iconst 1, 0, 0, .int 1) := by decide +kernel
theorem i_54_62 : am_ins 54 62 = some (.if_icmp .ne 16, 78, 0, .null) := by decide +kernel
theorem i_54_65 : am_ins 54 65 = some (.aload_n 0, 0, 0, .null) := by decide +kernel
theorem i_54_66 : am_ins 54 66 = some (.getfield 31, 5, 12, .null) := by decide +kernel
theorem i_54_69 : am_ins 54 69 = some (.iload_n 1, 1, 0, .null) := by decide +kernel
theorem i_54_70 : am_ins 54 70 = some (.iaload, 0, 0, .null) := by decide +kernel
theorem i_54_71 : am_ins 54 71 = some (.ifCond .eq 7, 78, 0, .null) := by decide +kernel
theorem i_54_74 : am_ins 54 74 = some (.iconst 1, 0, 0, .int 1) := by decide +kernel
theorem i_54_75 : am_ins 54 75 = some (.goto 4, 79, 0, .null) := by decide +kernel
theorem i_54_78 : am_ins 54 78 = some (.iconst 0, 0, 0, .int 0) := by decide +kernel
theorem i_54_79 : am_ins 54 79 = some (.istore 4, 4, 0, .null) := by decide +kernel
theorem i_54_81 : am_ins 54 81 = some (.iload 4, 4, 0, .null) := by decide +kernel
theorem i_54_83 : am_ins 54 83 = some (.ifCond .ne 13, 96, 0, .null) := by decide +kernel
theorem i_54_86 : am_ins 54 86 = some (.iload_n 2, 2, 0, .null) := by decide +kernel
theorem i_54_87 : am_ins 54 87 = some (.ifCond .ne 7, 94, 0, .null) := by decide +kernel
theorem i_54_90 : am_ins 54 90 = some (.iload_n 3, 3, 0, .null) := by decide +kernel
theorem i_54_91 : am_ins 54 91 = some (.ifCond .eq 5, 96, 0, .null) := by decide +kernel
theorem i_54_94 : am_ins 54 94 = some (.iconst 0, 0, 0, .int 0) := by decide +kernel
theorem i_54_95 : am_ins 54 95 = some (.ireturn, 0, 0, .null) := by decide +kernel
theorem i_54_96 : am_ins 54 96 = some (.aload_n 0, 0, 0, .null) := by decide +kernel
theorem i_54_97 : am_ins 54 97 = some (.getfield 40, 5, 15, .null) := by decide +kernel
theorem i_54_100 : am_ins 54 100 = some (.iload_n 1, 1, 0, .null) := by decide +kernel
theorem i_54_101 : am_ins 54 101 = some (.iaload, 0, 0, .null) := by decide +kernel
theorem i_54_102 : am_ins 54 102 = some (.iconst 1, 0, 0, .int 1) := by decide +kernel
theorem i_54_103 : am_ins 54 103 = some (.if_icmp .le 15, 118, 0, .null) := by decide +kernel
theorem i_54_106 : am_ins 54 106 = some (.aload_n 0, 0, 0, .null) := by decide +kernel
theorem i_54_107 : am_ins 54 107 = some (.getfield 40, 5, 15, .null) := by decide +kernel
theorem i_54_110 : am_ins 54 110 = some (.iload_n 1, 1, 0, .null) := by decide +kernel
theorem i_54_111 : am_ins 54 111 = some (.dup2, 0, 0, .null) := by decide +kernel
theorem i_54_112 : am_ins 54 112 = some (.iaload, 0, 0, .null) := by decide +kernel
theorem i_54_113 : am_ins 54 113 = some (.iconst 1, 0, 0, .int 1) := by decide +kernel
theorem i_54_114 : am_ins 54 114 = some (.isub, 0, 0, .null) := by decide +kernel
theorem i_54_115 : am_ins 54 115 = some (.iastore, 0, 0, .null) := by decide +kernel
theorem i_54_116 : am_ins 54 116 = some (.iconst 1, 0, 0, .int 1) := by decide +kernel
theorem i_54_117 : am_ins 54 117 = some (.ireturn, 0, 0, .null) := by decide +kernel
theorem i_54_118 : am_ins 54 118 = some (.iload 4, 4, 0, .null) := by decide +kernel
theorem i_54_120 : am_ins 54 120 = some (.ifCond .eq 27, 147, 0, .null) := by decide +kernel
theorem i_54_123 : am_ins 54 123 = some (.aload_n 0, 0, 0, .null) := by decide +kernel
theorem i_54_124 : am_ins 54 124 = some (.getfield 19, 5, 8, .null) := by decide +kernel
theorem i_54_127 : am_ins 54 127 = some (.aload_n 0, 0, 0, .null) := by decide +kernel
theorem i_54_128 : am_ins 54 128 = some (.getfield 31, 5, 12, .null) := by decide +kernel
theorem i_54_131 : am_ins 54 131 = some (.iload_n 1, 1, 0, .null) := by decide +kernel
theorem i_54_132 : am_ins 54 132 = some (.iaload, 0, 0, .null) := by decide +kernel
theorem i_54_133 : am_ins 54 133 = some (.iload_n 2, 2, 0, .null) := by decide +kernel
theorem i_54_134 : am_ins 54 134 = some (.iastore, 0, 0, .null) := by decide +kernel
theorem i_54_135 : am_ins 54 135 = some (.aload_n 0, 0, 0, .null) := by decide +kernel
theorem i_54_136 : am_ins 54 136 = some (.getfield 22, 5, 9, .null) := by decide +kernel
theorem i_54_139 : am_ins 54 139 = some (.aload_n 0, 0, 0, .null) := by decide +kernel
theorem i_54_140 : am_ins 54 140 = some (.getfield 31, 5, 12, .null) := by decide +kernel
theorem i_54_143 : am_ins 54 143 = some (.iload_n 1, 1, 0, .null) := by decide +kernel
theorem i_54_144 : am_ins 54 144 = some (.iaload, 0, 0, .null) := by decide +kernel
theorem i_54_145 : am_ins 54 145 = some (.iload_n 3, 3, 0, .null) := by decide +kernel
theorem i_54_146 : am_ins 54 146 = some (.iastore, 0, 0, .null) := by decide +kernel
theorem i_54_147 : am_ins 54 147 = some (.aload_n 0, 0, 0, .null) := by decide +kernel
theorem i_54_148 : am_ins 54 148 = some (.iload_n 1, 1, 0, .null) := by decide +kernel
theorem i_54_149 : am_ins 54 149 = some (.iconst 3, 0, 0, .int 3) := by decide +kernel
theorem i_54_150 : am_ins 54 150 = some (.invokevirtual 107, 51, 2, .null) := by decide +kernel
theorem i_54_153 : am_ins 54 153 = some (.iconst 1, 0, 0, .int 1) := by decide +kernel
theorem i_54_154 : am_ins 54 154 = some (.ireturn, 0, 0, .null) := by decide +kernel
theorem i_55_0 : am_ins 55 0 = some (.aload_n 0, 0, 0, .null) := by decide +kernel
theorem i_55_1 : am_ins 55 1 = some (.iconst 0, 0, 0, .int 0) := by decide +kernel
theorem i_55_2 : am_ins 55 2 = some (.putfield 56, 5, 0, .null) := by decide +kernel
theorem i_55_5 : am_ins 55 5 = some (.aload_n 0, 0, 0, .null) := by decide +kernel
theorem i_55_6 : am_ins 55 6 = some (.iload_n 1, 1, 0, .null) := by decide +kernel
theorem i_55_7 : am_ins 55 7 = some (.invokevirtual 104, 38, 1, .null) := by decide +kernel
theorem i_55_10 : am_ins 55 10 = some (.ifCond .ne 6, 16, 0, .null) := by decide +kernel
theorem i_55_13 : am_ins 55 13 = some (.bipush (-2), 0, 0, .int (-2)) := by decide +kernel
theorem i_55_15 : am_ins 55 15 = some (.ireturn, 0, 0, .null) := by decide +kernel
theorem i_55_16 : am_ins 55 16 = some (.aload_n 0, 0, 0, .null) := by decide +kernel
theorem i_55_17 : am_ins 55 17 = some (.getfield 34, 5, 13, .null) := by decide +kernel
theorem i_55_20 : am_ins 55 20 = some (.iload_n 1, 1, 0, .null) := by decide +kernel
theorem i_55_21 : am_ins 55 21 = some (.iaload, 0, 0, .null) := by decide +kernel
theorem i_55_22 : am_ins 55 22 = some (.ifCond .eq 15, 37, 0, .null) := by decide +kernel
theorem i_55_25 : am_ins 55 25 = some (.aload_n 0, 0, 0, .null) := by decide +kernel
theorem i_55_26 : am_ins 55 26 = some (.getfield 34, 5, 13, .null) := by decide +kernel
theorem i_55_29 : am_ins 55 29 = some (.iload_n 1, 1, 0, .null) := by decide +kernel
theorem i_55_30 : am_ins 55 30 = some (.iaload, 0, 0, .null) := by decide +kernel
theorem i_55_31 : am_ins 55 31 = some (.iconst 2, 0, 0, .int 2) := by decide +kernel
theorem i_55_32 : am_ins 55 32 = some (.if_icmp .eq 5, 37, 0, .null) := by decide +kernel
theorem i_55_35 : am_ins 55 35 = some (.iconst 0, 0, 0, .int 0) := by decide +kernel
theorem i_55_36 : am_ins 55 36 = some (.ireturn, 0, 0, .null) := by decide +kernel
theorem i_55_37 : am_ins 55 37 = some (.aload_n 0, 0, 0, .null) := by decide +kernel
theorem i_55_38 : am_ins 55 38 = some (.iload_n 1, 1, 0, .null) := by decide +kernel
theorem i_55_39 : am_ins 55 39 = some (.iconst 5, 0, 0, .int 5) := by decide +kernel
theorem i_55_40 : am_ins 55 40 = some (.invokevirtual 107, 51, 2, .null) := by decide +kernel
theorem i_55_43 : am_ins 55 43 = some (.iconst 1, 0, 0, .int 1) := by decide +kernel
theorem i_55_44 : am_ins 55 44 = some (.ireturn, 0, 0, .null) := by decide +kernel
theorem i_56_0 : am_ins 56 0 = some (.aload_n 0, 0, 0, .null) := by decide +kernel
theorem i_56_1 : am_ins 56 1 = some (.iconst 0, 0, 0, .int 0) := by decide +kernel
theorem i_56_2 : am_ins 56 2 = some (.putfield 56, 5, 0, .null) := by decide +kernel
theorem i_56_5 : am_ins 56 5 = some (.aload_n 0, 0, 0, .null) := by decide +kernel
theorem i_56_6 : am_ins 56 6 = some (.iload_n 1, 1, 0, .null) := by decide +kernel
theorem i_56_7 : am_ins 56 7 = some (.invokevirtual 104, 38, 1, .null) := by decide +kernel
theorem i_56_10 : am_ins 56 10 = some (.ifCond .ne 6, 16, 0, .null) := by decide +kernel
theorem i_56_13 : am_ins 56 13 = some (.bipush (-2), 0, 0, .int (-2)) := by decide +kernel
theorem i_56_15 : am_ins 56 15 = some (.ireturn, 0, 0, .null) := by decide +kernel
theorem i_56_16 : am_ins 56 16 = some (.iload_n 2, 2, 0, .null) := by decide +kernel
theorem i_56_17 : am_ins 56 17 = some (.ifCond .lt 10, 27, 0, .null) := by decide +kernel
theorem i_56_20 : am_ins 56 20 = some (.iload_n 2, 2, 0, .null) := by decide +kernel
theorem i_56_21 : am_ins 56 21 = some (.sipush 10000, 0, 0, .int 10000) := by decide +kernel
theorem i_56_24 : am_ins 56 24 = some (.if_icmp .le 6, 30, 0, .null) := by decide +kernel
theorem i_56_27 : am_ins 56 27 = some (.bipush (-4), 0, 0, .int (-4)) := by decide +kernel
theorem i_56_29 : am_ins 56 29 = some (.ireturn, 0, 0, .null) := by decide +kernel
theorem i_56_30 : am_ins 56 30 = some (.aload_n 0, 0, 0, .null) := by decide +kernel
theorem i_56_31 : am_ins 56 31 = some (.iload_n 1, 1, 0, .null) := by decide +kernel
theorem i_56_32 : am_ins 56 32 = some (.invokevirtual 69, 39, 1, .null) := by decide +kernel
theorem i_56_35 : am_ins 56 35 = some (.ifCond .ne 6, 41, 0, .null) := by decide +kernel
theorem i_56_38 : am_ins 56 38 = some (.bipush (-5), 0, 0, .int (-5)) := by decide +kernel
theorem i_56_40 : am_ins 56 40 = some (.ireturn, 0, 0, .null) := by decide +kernel
theorem i_56_41 : am_ins 56 41 = some (.aload_n 0, 0, 0, .null) := by decide +kernel
theorem i_56_42 : am_ins 56 42 = some (.getfield 43, 5, 16, .null) := by decide +kernel
theorem i_56_45 : am_ins 56 45 = some (.iload_n 1, 1, 0, .null) := by decide +kernel
theorem i_56_46 : am_ins 56 46 = some (.iaload, 0, 0, .null) := by decide +kernel
theorem i_56_47 : am_ins 56 47 = some (.iload_n 2, 2, 0, .null) := by decide +kernel
theorem i_56_48 : am_ins 56 48 = some (.iadd, 0, 0, .null) := by decide +kernel
theorem i_56_49 : am_ins 56 49 = some (.sipush 30000, 0, 0, .int 30000) := by decide +kernel
theorem i_56_52 : am_ins 56 52 = some (.if_icmp .le 5, 57, 0, .null) := by decide +kernel
theorem i_56_55 : am_ins 56 55 = some (.iconst (-1), 0, 0, .int (-1)) := by decide +kernel
theorem i_56_56 : am_ins 56 56 = some (.ireturn, 0, 0, .null) := by decide +kernel
theorem i_56_57 : am_ins 56 57 = some (.aload_n 0, 0, 0, .null) := by decide +kernel
theorem i_56_58 : am_ins 56 58 = some (.getfield 43, 5, 16, .null) := by decide +kernel
theorem i_56_61 : am_ins 56 61 = some (.iload_n 1, 1, 0, .null) := by decide +kernel
theorem i_56_62 : am_ins 56 62 = some (.dup2, 0, 0, .null) := by decide +kernel
theorem i_56_63 : am_ins 56 63 = some (.iaload, 0, 0, .null) := by decide +kernel
theorem i_56_64 : am_ins 56 64 = some (.iload_n 2, 2, 0, .null) := by decide +kernel
theorem i_56_65 : am_ins 56 65 = some (.iadd, 0, 0, .null) := by decide +kernel
theorem i_56_66 : am_ins 56 66 = some (.iastore, 0, 0, .null) := by decide +kernel
theorem i_56_67 : am_ins 56 67 = some (.aload_n 0, 0, 0, .null) := by decide +kernel
theorem i_56_68 : am_ins 56 68 = some (.getfield 43, 5, 16, .null) := by decide +kernel
theorem i_56_71 : am_ins 56 71 = some (.iload_n 1, 1, 0, .null) := by decide +kernel
theorem i_56_72 : am_ins 56 72 = some (.iaload, 0, 0, .null) := by decide +kernel
theorem i_56_73 : am_ins 56 73 = some (.ireturn, 0, 0, .null) := by decide +kernel
theorem i_57_0 : am_ins 57 0 = some (.bipush 10, 0, 0, .int 10) := by decide +kernel
theorem i_57_2 : am_ins 57 2 = some (.iload_n 1, 1, 0, .null) := by decide +kernel
theorem i_57_3 : am_ins 57 3 = some (.aload_n 0, 0, 0, .null) := by decide +kernel
theorem i_57_4 : am_ins 57 4 = some (.getfield 40, 5, 15, .null) := by decide +kernel
theorem i_57_7 : am_ins 57 7 = some (.iload_n 1, 1, 0, .null) := by decide +kernel
theorem i_57_8 : am_ins 57 8 = some (.iaload, 0, 0, .null) := by decide +kernel
theorem i_57_9 : am_ins 57 9 = some (.invokestatic 84, 45, 2, .null) := by decide +kernel
theorem i_57_12 : am_ins 57 12 = some (.imul, 0, 0, .null) := by decide +kernel
theorem i_57_13 : am_ins 57 13 = some (.iload_n 2, 2, 0, .null) := by decide +kernel
theorem i_57_14 : am_ins 57 14 = some (.iadd, 0, 0, .null) := by decide +kernel
theorem i_57_15 : am_ins 57 15 = some (.ireturn, 0, 0, .null) := by decide +kernel
theorem i_58_0 : am_ins 58 0 = some (.aload_n 0, 0, 0, .null) := by decide +kernel
theorem i_58_1 : am_ins 58 1 = some (.iconst 0, 0, 0, .int 0) := by decide +kernel
theorem i_58_2 : am_ins 58 2 = some (.putfield 56, 5, 0, .null) := by decide +kernel
theorem i_58_5 : am_ins 58 5 = some (.aload_n 0, 0, 0, .null) := by decide +kernel
theorem i_58_6 : am_ins 58 6 = some (.iload_n 1, 1, 0, .null) := by decide +kernel
theorem i_58_7 : am_ins 58 7 = some (.invokevirtual 104, 38, 1, .null) := by decide +kernel
theorem i_58_10 : am_ins 58 10 = some (.ifCond .ne 6, 16, 0, .null) := by decide +kernel
theorem i_58_13 : am_ins 58 13 = some (.bipush (-2), 0, 0, .int (-2)) := by decide +kernel
theorem i_58_15 : am_ins 58 15 = some (.ireturn, 0, 0, .null) := by decide +kernel
theorem i_58_16 : am_ins 58 16 = some (.iload_n 2, 2, 0, .null) := by decide +kernel
theorem i_58_17 : am_ins 58 17 = some (.ifCond .lt 20, 37, 0, .null) := by decide +kernel
theorem i_58_20 : am_ins 58 20 = some (.iload_n 2, 2, 0, .null) := by decide +kernel
theorem i_58_21 : am_ins 58 21 = some (.bipush 9, 0, 0, .int 9) := by decide +kernel
theorem i_58_23 : am_ins 58 23 = some (.if_icmp .gt 14, 37, 0, .null) := by decide +kernel
theorem i_58_26 : am_ins 58 26 = some (.iload_n 3, 3, 0, .null) := by decide +kernel
theorem i_58_27 : am_ins 58 27 = some (.ifCond .lt 10, 37, 0, .null) := by decide +kernel
theorem i_58_30 : am_ins 58 30 = some (.iload_n 3, 3, 0, .null) := by decide +kernel
theorem i_58_31 : am_ins 58 31 = some (.sipush 9999, 0, 0, .int 9999) := by decide +kernel
theorem i_58_34 : am_ins 58 34 = some (.if_icmp .le 6, 40, 0, .null) := by decide +kernel
theorem i_58_37 : am_ins 58 37 = some (.bipush (-4), 0, 0, .int (-4)) := by decide +kernel
theorem i_58_39 : am_ins 58 39 = some (.ireturn, 0, 0, .null) := by decide +kernel
theorem i_58_40 : am_ins 58 40 = some (.aload_n 0, 0, 0, .null) := by decide +kernel
theorem i_58_41 : am_ins 58 41 = some (.getfield 34, 5, 13, .null) := by decide +kernel
theorem i_58_44 : am_ins 58 44 = some (.iload_n 1, 1, 0, .null) := by decide +kernel
theorem i_58_45 : am_ins 58 45 = some (.iaload, 0, 0, .null) := by decide +kernel
theorem i_58_46 : am_ins 58 46 = some (.iconst 1, 0, 0, .int 1) := by decide +kernel
theorem i_58_47 : am_ins 58 47 = some (.if_icmp .eq 6, 53, 0, .null) := by decide +kernel
theorem i_58_50 : am_ins 58 50 = some (.bipush (-5), 0, 0, .int (-5)) := by decide +kernel
theorem i_58_52 : am_ins 58 52 = some (.ireturn, 0, 0, .null) := by decide +kernel
theorem i_58_53 : am_ins 58 53 = some (.aload_n 0, 0, 0, .null) := by decide +kernel
theorem i_58_54 : am_ins 58 54 = some (.getfield 53, 5, 19, .null) := by decide +kernel
theorem i_58_57 : am_ins 58 57 = some (.aload_n 0, 0, 0, .null) := by decide +kernel
theorem i_58_58 : am_ins 58 58 = some (.iload_n 1, 1, 0, .null) := by decide +kernel
theorem i_58_59 : am_ins 58 59 = some (.iload_n 2, 2, 0, .null) := by decide +kernel
theorem i_58_60 : am_ins 58 60 = some (.invokevirtual 110, 57, 2, .null) := by decide +kernel
theorem i_58_63 : am_ins 58 63 = some (.iaload, 0, 0, .null) := by decide +kernel
theorem i_58_64 : am_ins 58 64 = some (.istore 4, 4, 0, .null) := by decide +kernel
theorem i_58_66 : am_ins 58 66 = some (.aload_n 0, 0, 0, .null) := by decide +kernel
theorem i_58_67 : am_ins 58 67 = some (.getfield 53, 5, 19, .null) := by decide +kernel
theorem i_58_70 : am_ins 58 70 = some (.aload_n 0, 0, 0, .null) := by decide +kernel
theorem i_58_71 : am_ins 58 71 = some (.iload_n 1, 1, 0, .null) := by decide +kernel
theorem i_58_72 : am_ins 58 72 = some (.iload_n 2, 2, 0, .null) := by decide +kernel
theorem i_58_73 : am_ins 58 73 = some (.invokevirtual 110, 57, 2, .null) := by decide +kernel
theorem i_58_76 : am_ins 58 76 = some (.iload_n 3, 3, 0, .null) := by decide +kernel
theorem i_58_77 : am_ins 58 77 = some (.iastore, 0, 0, .null) := by decide +kernel
theorem i_58_78 : am_ins 58 78 = some (.iload 4, 4, 0, .null) := by decide +kernel
theorem i_58_80 : am_ins 58 80 = some (.ireturn, 0, 0, .null) := by decide +kernel
theorem i_59_0 : am_ins 59 0 = some (.aload_n 0, 0, 0, .null) := by decide +kernel
theorem i_59_1 : am_ins 59 1 = some (.iconst 0, 0, 0, .int 0) := by decide +kernel
theorem i_59_2 : am_ins 59 2 = some (.putfield 56, 5, 0, .null) := by decide +kernel
theorem i_59_5 : am_ins 59 5 = some (.aload_n 0, 0, 0, .null) := by decide +kernel
theorem i_59_6 : am_ins 59 6 = some (.iload_n 1, 1, 0, .null) := by decide +kernel
theorem i_59_7 : am_ins 59 7 = some (.invokevirtual 104, 38, 1, .null) := by decide +kernel
theorem i_59_10 : am_ins 59 10 = some (.ifCond .ne 6, 16, 0, .null) := by decide +kernel
theorem i_59_13 : am_ins 59 13 = some (.bipush (-2), 0, 0, .int (-2)) := by decide +kernel
theorem i_59_15 : am_ins 59 15 = some (.ireturn, 0, 0, .null) := by decide +kernel
theorem i_59_16 : am_ins 59 16 = some (.iload_n 2, 2, 0, .null) := by decide +kernel
theorem i_59_17 : am_ins 59 17 = some (.ifCond .lt 9, 26, 0, .null) := by decide +kernel
theorem i_59_20 : am_ins 59 20 = some (.iload_n 2, 2, 0, .null) := by decide +kernel
theorem i_59_21 : am_ins 59 21 = some (.bipush 9, 0, 0, .int 9) := by decide +kernel
theorem i_59_23 : am_ins 59 23 = some (.if_icmp .le 6, 29, 0, .null) := by decide +kernel
theorem i_59_26 : am_ins 59 26 = some (.bipush (-4), 0, 0, .int (-4)) := by decide +kernel
theorem i_59_28 : am_ins 59 28 = some (.ireturn, 0, 0, .null) := by decide +kernel
theorem i_59_29 : am_ins 59 29 = some (.aload_n 0, 0, 0, .null) := by decide +kernel
theorem i_59_30 : am_ins 59 30 = some (.getfield 34, 5, 13, .null) := by decide +kernel
theorem i_59_33 : am_ins 59 33 = some (.iload_n 1, 1, 0, .null) := by decide +kernel
theorem i_59_34 : am_ins 59 34 = some (.iaload, 0, 0, .null) := by decide +kernel
theorem i_59_35 : am_ins 59 35 = some (.iconst 1, 0, 0, .int 1) := by decide +kernel
theorem i_59_36 : am_ins 59 36 = some (.if_icmp .eq 6, 42, 0, .null) := by decide +kernel
theorem i_59_39 : am_ins 59 39 = some (.bipush (-5), 0, 0, .int (-5)) := by decide +kernel
theorem i_59_41 : am_ins 59 41 = some (.ireturn, 0, 0, .null) := by decide +kernel
theorem i_59_42 : am_ins 59 42 = some (.aload_n 0, 0, 0, .null) := by decide +kernel
theorem i_59_43 : am_ins 59 43 = some (.getfield 53, 5, 19, .null) := by decide +kernel
theorem i_59_46 : am_ins 59 46 = some (.aload_n 0, 0, 0, .null) := by decide +kernel
theorem i_59_47 : am_ins 59 47 = some (.iload_n 1, 1, 0, .null) := by decide +kernel
theorem i_59_48 : am_ins 59 48 = some (.iload_n 2, 2, 0, .null) := by decide +kernel
theorem i_59_49 : am_ins 59 49 = some (.invokevirtual 110, 57, 2, .null) := by decide +kernel
theorem i_59_52 : am_ins 59 52 = some (.iaload, 0, 0, .null) := by decide +kernel
theorem i_59_53 : am_ins 59 53 = some (.istore_n 3, 3, 0, .null) := by decide +kernel
theorem i_59_54 : am_ins 59 54 = some (.iload_n 3, 3, 0, .null) := by decide +kernel
theorem i_59_55 : am_ins 59 55 = some (.ifCond .eq 7, 62, 0, .null) := by decide +kernel
theorem i_59_58 : am_ins 59 58 = some (.iload_n 3, 3, 0, .null) := by decide +kernel
theorem i_59_59 : am_ins 59 59 = some (.goto 14, 73, 0, .null) := by decide +kernel
theorem i_59_62 : am_ins 59 62 = some (.aload_n 0, 0, 0, .null) := by decide +kernel
theorem i_59_63 : am_ins 59 63 = some (.getfield 53, 5, 19, .null) := by decide +kernel
theorem i_59_66 : am_ins 59 66 = some (.aload_n 0, 0, 0, .null) := by decide +kernel
theorem i_59_67 : am_ins 59 67 = some (.iload_n 1, 1, 0, .null) := by decide +kernel
theorem i_59_68 : am_ins 59 68 = some (.iconst 0, 0, 0, .int 0) := by decide +kernel
theorem i_59_69 : am_ins 59 69 = some (.invokevirtual 110, 57, 2, .null) := by decide +kernel
theorem i_59_72 : am_ins 59 72 = some (.iaload, 0, 0, .null) := by decide +kernel
theorem i_59_73 : am_ins 59 73 = some (.istore 4, 4, 0, .null) := by decide +kernel
theorem i_59_75 : am_ins 59 75 = some (.iload 4, 4, 0, .null) := by decide +kernel
theorem i_59_77 : am_ins 59 77 = some (.ifCond .eq 6, 83, 0, .null) := by decide +kernel
theorem i_59_80 : am_ins 59 80 = some (.iload 4, 4, 0, .null) := by decide +kernel
theorem i_59_82 : am_ins 59 82 = some (.ireturn, 0, 0, .null) := by decide +kernel
theorem i_59_83 : am_ins 59 83 = some (.aload_n 0, 0, 0, .null) := by decide +kernel
theorem i_59_84 : am_ins 59 84 = some (.iload_n 1, 1, 0, .null) := by decide +kernel
theorem i_59_85 : am_ins 59 85 = some (.iconst 4, 0, 0, .int 4) := by decide +kernel
theorem i_59_86 : am_ins 59 86 = some (.invokevirtual 107, 51, 2, .null) := by decide +kernel
theorem i_59_89 : am_ins 59 89 = some (.sipush (-1000), 0, 0, .int (-1000)) := by decide +kernel
theorem i_59_92 : am_ins 59 92 = some (.iload_n 2, 2, 0, .null) := by decide +kernel
theorem i_59_93 : am_ins 59 93 = some (.isub, 0, 0, .null) := by decide +kernel
theorem i_59_94 : am_ins 59 94 = some (.ireturn, 0, 0, .null) := by decide +kernel
theorem i_60_0 : am_ins 60 0 = some (.aload_n 0, 0, 0, .null) := by decide +kernel
theorem i_60_1 : am_ins 60 1 = some (.iconst 0, 0, 0, .int 0) := by decide +kernel
theorem i_60_2 : am_ins 60 2 = some (.putfield 56, 5, 0, .null) := by decide +kernel
theorem i_60_5 : am_ins 60 5 = some (.aload_n 0, 0, 0, .null) := by decide +kernel
theorem i_60_6 : am_ins 60 6 = some (.iload_n 1, 1, 0, .null) := by decide +kernel
theorem i_60_7 : am_ins 60 7 = some (.invokevirtual 94, 37, 1, .null) := by decide +kernel
theorem i_60_10 : am_ins 60 10 = some (.ifCond .eq 12, 22, 0, .null) := by decide +kernel
theorem i_60_13 : am_ins 60 13 = some (.aload_n 0, 0, 0, .null) := by decide +kernel
theorem i_60_14 : am_ins 60 14 = some (.getfield 22, 5, 9, .null) := by decide +kernel
theorem i_60_17 : am_ins 60 17 = some (.iload_n 1, 1, 0, .null) := by decide +kernel
theorem i_60_18 : am_ins 60 18 = some (.iaload, 0, 0, .null) := by decide +kernel
theorem i_60_19 : am_ins 60 19 = some (.goto 5, 24, 0, .null) := by decide +kernel
theorem i_60_22 : am_ins 60 22 = some (.bipush (-2), 0, 0, .int (-2)) := by decide +kernel
theorem i_60_24 : am_ins 60 24 = some (.ireturn, 0, 0, .null) := by decide +kernel
theorem i_61_0 : am_ins 61 0 = some (.aload_n 0, 0, 0, .null) := by decide +kernel
theorem i_61_1 : am_ins 61 1 = some (.iconst 0, 0, 0, .int 0) := by decide +kernel
theorem i_61_2 : am_ins 61 2 = some (.putfield 56, 5, 0, .null) := by decide +kernel
theorem i_61_5 : am_ins 61 5 = some (.aload_n 0, 0, 0, .null) := by decide +kernel
theorem i_61_6 : am_ins 61 6 = some (.iload_n 1, 1, 0, .null) := by decide +kernel
theorem i_61_7 : am_ins 61 7 = some (.invokevirtual 104, 38, 1, .null) := by decide +kernel
theorem i_61_10 : am_ins 61 10 = some (.ifCond .eq 12, 22, 0, .null) := by decide +kernel
theorem i_61_13 : am_ins 61 13 = some (.aload_n 0, 0, 0, .null) := by decide +kernel
theorem i_61_14 : am_ins 61 14 = some (.getfield 34, 5, 13, .null) := by decide +kernel
theorem i_61_17 : am_ins 61 17 = some (.iload_n 1, 1, 0, .null) := by decide +kernel
theorem i_61_18 : am_ins 61 18 = some (.iaload, 0, 0, .null) := by decide +kernel
theorem i_61_19 : am_ins 61 19 = some (.goto 5, 24, 0, .null) := by decide +kernel
theorem i_61_22 : am_ins 61 22 = some (.bipush (-2), 0, 0, .int (-2)) := by decide +kernel
theorem i_61_24 : am_ins 61 24 = some (.ireturn, 0, 0, .null) := by decide +kernel
theorem i_62_0 : am_ins 62 0 = some (.aload_n 0, 0, 0, .null) := by decide +kernel
theorem i_62_1 : am_ins 62 1 = some (.iconst 0, 0, 0, .int 0) := by decide +kernel
theorem i_62_2 : am_ins 62 2 = some (.putfield 56, 5, 0, .null) := by decide +kernel
theorem i_62_5 : am_ins 62 5 = some (.aload_n 0, 0, 0, .null) := by decide +kernel
theorem i_62_6 : am_ins 62 6 = some (.iload_n 1, 1, 0, .null) := by decide +kernel
theorem i_62_7 : am_ins 62 7 = some (.invokevirtual 104, 38, 1, .null) := by decide +kernel
theorem i_62_10 : am_ins 62 10 = some (.ifCond .ne 5, 15, 0, .null) := by decide +kernel
theorem i_62_13 : am_ins 62 13 = some (.iconst (-1), 0, 0, .int (-1)) := by decide +kernel
theorem i_62_14 : am_ins 62 14 = some (.ireturn, 0, 0, .null) := by decide +kernel
theorem i_62_15 : am_ins 62 15 = some (.iload_n 2, 2, 0, .null) := by decide +kernel
theorem i_62_16 : am_ins 62 16 = some (.tableswitch 104 0 5 #[40, 47, 76, 83, 90, 97], 0, 40, .null) := by decide +kernel
theorem i_62_56 : am_ins 62 56 = some (.aload_n 0, 0, 0, .null) := by decide +kernel
theorem i_62_57 : am_ins 62 57 = some (.getfield 40, 5, 15, .null) := by decide +kernel
theorem i_62_60 : am_ins 62 60 = some (.iload_n 1, 1, 0, .null) := by decide +kernel
theorem i_62_61 : am_ins 62 61 = some (.iaload, 0, 0, .null) := by decide +kernel
theorem i_62_62 : am_ins 62 62 = some (.ireturn, 0, 0, .null) := by decide +kernel
theorem i_62_63 : am_ins 62 63 = some (.aload_n 0, 0, 0, .null) := by decide +kernel
theorem i_62_64 : am_ins 62 64 = some (.getfield 40, 5, 15, .null) := by decide +kernel
theorem i_62_67 : am_ins 62 67 = some (.iload_n 1, 1, 0, .null) := by decide +kernel
theorem i_62_68 : am_ins 62 68 = some (.iaload, 0, 0, .null) := by decide +kernel
theorem i_62_69 : am_ins 62 69 = some (.ifCond .ne 7, 76, 0, .null) := by decide +kernel
theorem i_62_72 : am_ins 62 72 = some (.iconst (-1), 0, 0, .int (-1)) := by decide +kernel
theorem i_62_73 : am_ins 62 73 = some (.goto 18, 91, 0, .null) := by decide +kernel
theorem i_62_76 : am_ins 62 76 = some (.aload_n 0, 0, 0, .null) := by decide +kernel
theorem i_62_77 : am_ins 62 77 = some (.getfield 50, 5, 18, .null) := by decide +kernel
theorem i_62_80 : am_ins 62 80 = some (.iload_n 1, 1, 0, .null) := by decide +kernel
theorem i_62_81 : am_ins 62 81 = some (.aload_n 0, 0, 0, .null) := by decide +kernel
theorem i_62_82 : am_ins 62 82 = some (.getfield 40, 5, 15, .null) := by decide +kernel
theorem i_62_85 : am_ins 62 85 = some (.iload_n 1, 1, 0, .null) := by decide +kernel
theorem i_62_86 : am_ins 62 86 = some (.iaload, 0, 0, .null) := by decide +kernel
theorem i_62_87 : am_ins 62 87 = some (.invokestatic 84, 45, 2, .null) := by decide +kernel
theorem i_62_90 : am_ins 62 90 = some (.iaload, 0, 0, .null) := by decide +kernel
theorem i_62_91 : am_ins 62 91 = some (.ireturn, 0, 0, .null) := by decide +kernel
theorem i_62_92 : am_ins 62 92 = some (.aload_n 0, 0, 0, .null) := by decide +kernel
theorem i_62_93 : am_ins 62 93 = some (.getfield 43, 5, 16, .null) := by decide +kernel
theorem i_62_96 : am_ins 62 96 = some (.iload_n 1, 1, 0, .null) := by decide +kernel
theorem i_62_97 : am_ins 62 97 = some (.iaload, 0, 0, .null) := by decide +kernel
theorem i_62_98 : am_ins 62 98 = some (.ireturn, 0, 0, .null) := by decide +kernel
theorem i_62_99 : am_ins 62 99 = some (.aload_n 0, 0, 0, .null) := by decide +kernel
theorem i_62_100 : am_ins 62 100 = some (.getfield 28, 5, 11, .null) := by decide +kernel
theorem i_62_103 : am_ins 62 103 = some (.iload_n 1, 1, 0, .null) := by decide +kernel
theorem i_62_104 : am_ins 62 104 = some (.iaload, 0, 0, .null) := by decide +kernel
theorem i_62_105 : am_ins 62 105 = some (.ireturn, 0, 0, .null) := by decide +kernel
theorem i_62_106 : am_ins 62 106 = some (.aload_n 0, 0, 0, .null) := by decide +kernel
theorem i_62_107 : am_ins 62 107 = some (.getfield 31, 5, 12, .null) := by decide +kernel
theorem i_62_110 : am_ins 62 110 = some (.iload_n 1, 1, 0, .null) := by decide +kernel
theorem i_62_111 : am_ins 62 111 = some (.iaload, 0, 0, .null) := by decide +kernel
theorem i_62_112 : am_ins 62 112 = some (.ireturn, 0, 0, .null) := by decide +kernel
theorem i_62_113 : am_ins 62 113 = some (.aload_n 0, 0, 0, .null) := by decide +kernel
theorem i_62_114 : am_ins 62 114 = some (.getfield 37, 5, 14, .null) := by decide +kernel
theorem i_62_117 : am_ins 62 117 = some (.iload_n 1, 1, 0, .null) := by decide +kernel
theorem i_62_118 : am_ins 62 118 = some (.iaload, 0, 0, .null) := by decide +kernel
theorem i_62_119 : am_ins 62 119 = some (.ireturn, 0, 0, .null) := by decide +kernel
theorem i_62_120 : am_ins 62 120 = some (.iconst (-1), 0, 0, .int (-1)) := by decide +kernel
theorem i_62_121 : am_ins 62 121 = some (.ireturn, 0, 0, .null) := by decide +kernel
theorem i_63_0 : am_ins 63 0 = some (.aload_n 0, 0, 0, .null) := by decide +kernel
theorem i_63_1 : am_ins 63 1 = some (.iconst 0, 0, 0, .int 0) := by decide +kernel
theorem i_63_2 : am_ins 63 2 = some (.putfield 56, 5, 0, .null) := by decide +kernel
theorem i_63_5 : am_ins 63 5 = some (.aload_n 0, 0, 0, .null) := by decide +kernel
theorem i_63_6 : am_ins 63 6 = some (.iload_n 1, 1, 0, .null) := by decide +kernel
theorem i_63_7 : am_ins 63 7 = some (.invokevirtual 94, 37, 1, .null) := by decide +kernel
theorem i_63_10 : am_ins 63 10 = some (.ifCond .eq 11, 21, 0, .null) := by decide +kernel
theorem i_63_13 : am_ins 63 13 = some (.aload_n 0, 0, 0, .null) := by decide +kernel
theorem i_63_14 : am_ins 63 14 = some (.iload_n 1, 1, 0, .null) := by decide +kernel
theorem i_63_15 : am_ins 63 15 = some (.invokevirtual 77, 43, 1, .null) := by decide +kernel
theorem i_63_18 : am_ins 63 18 = some (.goto 5, 23, 0, .null) := by decide +kernel
theorem i_63_21 : am_ins 63 21 = some (.bipush (-2), 0, 0, .int (-2)) := by decide +kernel
theorem i_63_23 : am_ins 63 23 = some (.ireturn, 0, 0, .null) := by decide +kernel
theorem i_64_0 : am_ins 64 0 = some (.aload_n 0, 0, 0, .null) := by decide +kernel
theorem i_64_1 : am_ins 64 1 = some (.iconst 0, 0, 0, .int 0) := by decide +kernel
theorem i_64_2 : am_ins 64 2 = some (.putfield 56, 5, 0, .null) := by decide +kernel
theorem i_64_5 : am_ins 64 5 = some (.iconst 0, 0, 0, .int 0) := by decide +kernel
theorem i_64_6 : am_ins 64 6 = some (.istore_n 2, 2, 0, .null) := by decide +kernel
theorem i_64_7 : am_ins 64 7 = some (.iconst 0, 0, 0, .int 0) := by decide +kernel
theorem i_64_8 : am_ins 64 8 = some (.istore_n 3, 3, 0, .null) := by decide +kernel
theorem i_64_9 : am_ins 64 9 = some (.iconst 0, 0, 0, .int 0) := by decide +kernel
theorem i_64_10 : am_ins 64 10 = some (.istore 4, 4, 0, .null) := by decide +kernel
theorem i_64_12 : am_ins 64 12 = some (.iconst 1, 0, 0, .int 1) := by decide +kernel
theorem i_64_13 : am_ins 64 13 = some (.istore 5, 5, 0, .null) := by decide +kernel
theorem i_64_15 : am_ins 64 15 = some (.iload 5, 5, 0, .null) := by decide +kernel
theorem i_64_17 : am_ins 64 17 = some (.aload_n 0, 0, 0, .null) := by decide +kernel
theorem i_64_18 : am_ins 64 18 = some (.getfield 66, 5, 3, .null) := by decide +kernel
theorem i_64_21 : am_ins 64 21 = some (.if_icmp .gt 56, 77, 0, .null) := by decide +kernel
theorem i_64_24 : am_ins 64 24 = some (.iload_n 2, 2, 0, .null) := by decide +kernel
theorem i_64_25 : am_ins 64 25 = some (.aload_n 0, 0, 0, .null) := by decide +kernel
theorem i_64_26 : am_ins 64 26 = some (.getfield 34, 5, 13, .null) := by decide +kernel
theorem i_64_29 : am_ins 64 29 = some (.iload 5, 5, 0, .null) := by decide +kernel
theorem i_64_31 : am_ins 64 31 = some (.iaload, 0, 0, .null) := by decide +kernel
theorem i_64_32 : am_ins 64 32 = some (.ifCond .ne 7, 39, 0, .null) := by decide +kernel
theorem i_64_35 : am_ins 64 35 = some (.iconst 1, 0, 0, .int 1) := by decide +kernel
theorem i_64_36 : am_ins 64 36 = some (.goto 4, 40, 0, .null) := by decide +kernel
theorem i_64_39 : am_ins 64 39 = some (.iconst 0, 0, 0, .int 0) := by decide +kernel
theorem i_64_40 : am_ins 64 40 = some (.iadd, 0, 0, .null) := by decide +kernel
theorem i_64_41 : am_ins 64 41 = some (.istore_n 2, 2, 0, .null) := by decide +kernel
theorem i_64_42 : am_ins 64 42 = some (.iload_n 3, 3, 0, .null) := by decide +kernel
theorem i_64_43 : am_ins 64 43 = some (.aload_n 0, 0, 0, .null) := by decide +kernel
theorem i_64_44 : am_ins 64 44 = some (.iload 5, 5, 0, .null) := by decide +kernel
theorem i_64_46 : am_ins 64 46 = some (.invokevirtual 69, 39, 1, .null) := by decide +kernel
theorem i_64_49 : am_ins 64 49 = some (.ifCond .eq 7, 56, 0, .null) := by decide +kernel
theorem i_64_52 : am_ins 64 52 = some (.iconst 1, 0, 0, .int 1) := by decide +kernel
theorem i_64_53 : am_ins 64 53 = some (.goto 4, 57, 0, .null) := by decide +kernel
theorem i_64_56 : am_ins 64 56 = some (.iconst 0, 0, 0, .int 0) := by decide +kernel
theorem i_64_57 : am_ins 64 57 = some (.iadd, 0, 0, .null) := by decide +kernel
theorem i_64_58 : am_ins 64 58 = some (.istore_n 3, 3, 0, .null) := by decide +kernel
theorem i_64_59 : am_ins 64 59 = some (.iload 4, 4, 0, .null) := by decide +kernel
theorem i_64_61 : am_ins 64 61 = some (.aload_n 0, 0, 0, .null) := by decide +kernel
theorem i_64_62 : am_ins 64 62 = some (.getfield 43, 5, 16, .null) := by decide +kernel
theorem i_64_65 : am_ins 64 65 = some (.iload 5, 5, 0, .null) := by decide +kernel
theorem i_64_67 : am_ins 64 67 = some (.iaload, 0, 0, .null) := by decide +kernel
theorem i_64_68 : am_ins 64 68 = some (.iadd, 0, 0, .null) := by decide +kernel
theorem i_64_69 : am_ins 64 69 = some (.istore 4, 4, 0, .null) := by decide +kernel
theorem i_64_71 : am_ins 64 71 = some (.iinc 5 1, 5, 0, .int 1) := by decide +kernel
theorem i_64_74 : am_ins 64 74 = some (.goto (-59), 15, 0, .null) := by decide +kernel
theorem i_64_77 : am_ins 64 77 = some (.iload_n 1, 1, 0, .null) := by decide +kernel
theorem i_64_78 : am_ins 64 78 = some (.tableswitch 60 0 5 #[38, 43, 48, 53, 55, 57], 0, 38, .null) := by decide +kernel
theorem i_64_116 : am_ins 64 116 = some (.aload_n 0, 0, 0, .null) := by decide +kernel
theorem i_64_117 : am_ins 64 117 = some (.getfield 60, 5, 1, .null) := by decide +kernel
theorem i_64_120 : am_ins 64 120 = some (.ireturn, 0, 0, .null) := by decide +kernel
theorem i_64_121 : am_ins 64 121 = some (.aload_n 0, 0, 0, .null) := by decide +kernel
theorem i_64_122 : am_ins 64 122 = some (.getfield 63, 5, 2, .null) := by decide +kernel
theorem i_64_125 : am_ins 64 125 = some (.ireturn, 0, 0, .null) := by decide +kernel
theorem i_64_126 : am_ins 64 126 = some (.aload_n 0, 0, 0, .null) := by decide +kernel
theorem i_64_127 : am_ins 64 127 = some (.getfield 66, 5, 3, .null) := by decide +kernel
theorem i_64_130 : am_ins 64 130 = some (.ireturn, 0, 0, .null) := by decide +kernel
theorem i_64_131 : am_ins 64 131 = some (.iload_n 2, 2, 0, .null) := by decide +kernel
theorem i_64_132 : am_ins 64 132 = some (.ireturn, 0, 0, .null) := by decide +kernel
theorem i_64_133 : am_ins 64 133 = some (.iload_n 3, 3, 0, .null) := by decide +kernel
theorem i_64_134 : am_ins 64 134 = some (.ireturn, 0, 0, .null) := by decide +kernel
theorem i_64_135 : am_ins 64 135 = some (.iload 4, 4, 0, .null) := by decide +kernel
theorem i_64_137 : am_ins 64 137 = some (.ireturn, 0, 0, .null) := by decide +kernel
theorem i_64_138 : am_ins 64 138 = some (.iload_n 1, 1, 0, .null) := by decide +kernel
theorem i_64_139 : am_ins 64 139 = some (.bipush 9, 0, 0, .int 9) := by decide +kernel
theorem i_64_141 : am_ins 64 141 = some (.if_icmp .le 20, 161, 0, .null) := by decide +kernel
theorem i_64_144 : am_ins 64 144 = some (.iload_n 1, 1, 0, .null) := by decide +kernel
theorem i_64_145 : am_ins 64 145 = some (.bipush 20, 0, 0, .int 20) := by decide +kernel
theorem i_64_147 : am_ins 64 147 = some (.if_icmp .ge 14, 161, 0, .null) := by decide +kernel
theorem i_64_150 : am_ins 64 150 = some (.aload_n 0, 0, 0, .null) := by decide +kernel
theorem i_64_151 : am_ins 64 151 = some (.iload_n 1, 1, 0, .null) := by decide +kernel
theorem i_64_152 : am_ins 64 152 = some (.bipush 10, 0, 0, .int 10) := by decide +kernel
theorem i_64_154 : am_ins 64 154 = some (.isub, 0, 0, .null) := by decide +kernel
theorem i_64_155 : am_ins 64 155 = some (.invokevirtual 81, 42, 1, .null) := by decide +kernel
theorem i_64_158 : am_ins 64 158 = some (.goto 4, 162, 0, .null) := by decide +kernel
theorem i_64_161 : am_ins 64 161 = some (.iconst (-1), 0, 0, .int (-1)) := by decide +kernel
theorem i_64_162 : am_ins 64 162 = some (.ireturn, 0, 0, .null) := by decide +kernel
