theorem i_65_0 : am_ins 65 0 = some (.aload_n 0, 0, 0, .null) := by decide +kernel
theorem i_65_1 : am_ins 65 1 = some (.invokespecial 1, 999, 0, .null) := by decide +kernel
theorem i_65_4 : am_ins 65 4 = some (.aload_n 0, 0, 0, .null) := by decide +kernel
theorem i_65_5 : am_ins 65 5 = some (.iload_n 1, 1, 0, .null) := by decide +kernel
theorem i_65_6 : am_ins 65 6 = some (.putfield 7, 1, 0, .null) := by decide +kernel
theorem i_65_9 : am_ins 65 9 = some (.aload_n 0, 0, 0, .null) := by decide +kernel
theorem i_65_10 : am_ins 65 10 = some (.iload_n 2, 2, 0, .null) := by decide +kernel
theorem i_65_11 : am_ins 65 11 = some (.putfield 13, 1, 1, .null) := by decide +kernel
theorem i_65_14 : am_ins 65 14 = some (.aload_n 0, 0, 0, .null) := by decide +kernel
theorem i_65_15 : am_ins 65 15 = some (.iload_n 3, 3, 0, .null) := by decide +kernel
theorem i_65_16 : am_ins 65 16 = some (.putfield 16, 1, 2, .null) := by decide +kernel
theorem i_65_19 : am_ins 65 19 = some (.aload_n 0, 0, 0, .null) := by decide +kernel
theorem i_65_20 : am_ins 65 20 = some (.iload 4, 4, 0, .null) := by decide +kernel
theorem i_65_22 : am_ins 65 22 = some (.putfield 19, 1, 3, .null) := by decide +kernel
theorem i_65_25 : am_ins 65 25 = some (.return_, 0, 0, .null) := by decide +kernel
theorem i_66_0 : am_ins 66 0 = some (.aload_n 0, 0, 0, .null) := by decide +kernel
theorem i_66_1 : am_ins 66 1 = some (.invokespecial 3, 999, 0, .null) := by decide +kernel
theorem i_66_4 : am_ins 66 4 = some (.aload_n 0, 0, 0, .null) := by decide +kernel
theorem i_66_5 : am_ins 66 5 = some (.iload_n 1, 1, 0, .null) := by decide +kernel
theorem i_66_6 : am_ins 66 6 = some (.putfield 9, 3, 0, .null) := by decide +kernel
theorem i_66_9 : am_ins 66 9 = some (.aload_n 0, 0, 0, .null) := by decide +kernel
theorem i_66_10 : am_ins 66 10 = some (.iload_n 2, 2, 0, .null) := by decide +kernel
theorem i_66_11 : am_ins 66 11 = some (.putfield 15, 3, 1, .null) := by decide +kernel
theorem i_66_14 : am_ins 66 14 = some (.aload_n 0, 0, 0, .null) := by decide +kernel
theorem i_66_15 : am_ins 66 15 = some (.aload_n 3, 3, 0, .null) := by decide +kernel
theorem i_66_16 : am_ins 66 16 = some (.putfield 18, 3, 2, .null) := by decide +kernel
theorem i_66_19 : am_ins 66 19 = some (.aload_n 0, 0, 0, .null) := by decide +kernel
theorem i_66_20 : am_ins 66 20 = some (.bipush 10, 0, 0, .int 10) := by decide +kernel
theorem i_66_22 : am_ins 66 22 = some (.newarray .int, 100, 0, .null) := by decide +kernel
theorem i_66_24 : am_ins 66 24 = some (.putfield 22, 3, 3, .null) := by decide +kernel
theorem i_66_27 : am_ins 66 27 = some (.return_, 0, 0, .null) := by decide +kernel
theorem i_67_0 : am_ins 67 0 = some (.aload_n 0, 0, 0, .null) := by decide +kernel
theorem i_67_1 : am_ins 67 1 = some (.getfield 22, 3, 3, .null) := by decide +kernel
theorem i_67_4 : am_ins 67 4 = some (.iload_n 1, 1, 0, .null) := by decide +kernel
theorem i_67_5 : am_ins 67 5 = some (.iaload, 0, 0, .null) := by decide +kernel
theorem i_67_6 : am_ins 67 6 = some (.ifCond .eq 12, 18, 0, .null) := by decide +kernel
theorem i_67_9 : am_ins 67 9 = some (.aload_n 0, 0, 0, .null) := by decide +kernel
theorem i_67_10 : am_ins 67 10 = some (.getfield 22, 3, 3, .null) := by decide +kernel
theorem i_67_13 : am_ins 67 13 = some (.iload_n 1, 1, 0, .null) := by decide +kernel
theorem i_67_14 : am_ins 67 14 = some (.iaload, 0, 0, .null) := by decide +kernel
theorem i_67_15 : am_ins 67 15 = some (.goto 9, 24, 0, .null) := by decide +kernel
theorem i_67_18 : am_ins 67 18 = some (.aload_n 0, 0, 0, .null) := by decide +kernel
theorem i_67_19 : am_ins 67 19 = some (.getfield 22, 3, 3, .null) := by decide +kernel
theorem i_67_22 : am_ins 67 22 = some (.iconst 0, 0, 0, .int 0) := by decide +kernel
theorem i_67_23 : am_ins 67 23 = some (.iaload, 0, 0, .null) := by decide +kernel
theorem i_67_24 : am_ins 67 24 = some (.ireturn, 0, 0, .null) := by decide +kernel
theorem i_68_0 : am_ins 68 0 = some (.aload_n 0, 0, 0, .null) := by decide +kernel
theorem i_68_1 : am_ins 68 1 = some (.invokespecial 3, 999, 0, .null) := by decide +kernel
theorem i_68_4 : am_ins 68 4 = some (.aload_n 0, 0, 0, .null) := by decide +kernel
theorem i_68_5 : am_ins 68 5 = some (.iload_n 1, 1, 0, .null) := by decide +kernel
theorem i_68_6 : am_ins 68 6 = some (.putfield 9, 4, 0, .null) := by decide +kernel
theorem i_68_9 : am_ins 68 9 = some (.aload_n 0, 0, 0, .null) := by decide +kernel
theorem i_68_10 : am_ins 68 10 = some (.aload_n 2, 2, 0, .null) := by decide +kernel
theorem i_68_11 : am_ins 68 11 = some (.putfield 15, 4, 1, .null) := by decide +kernel
theorem i_68_14 : am_ins 68 14 = some (.aload_n 0, 0, 0, .null) := by decide +kernel
theorem i_68_15 : am_ins 68 15 = some (.aload_n 3, 3, 0, .null) := by decide +kernel
theorem i_68_16 : am_ins 68 16 = some (.putfield 19, 4, 2, .null) := by decide +kernel
theorem i_68_19 : am_ins 68 19 = some (.aload_n 0, 0, 0, .null) := by decide +kernel
theorem i_68_20 : am_ins 68 20 = some (.lload 4, 4, 0, .null) := by decide +kernel
theorem i_68_22 : am_ins 68 22 = some (.putfield 23, 4, 3, .null) := by decide +kernel
theorem i_68_25 : am_ins 68 25 = some (.aload_n 0, 0, 0, .null) := by decide +kernel
theorem i_68_26 : am_ins 68 26 = some (.iconst 0, 0, 0, .int 0) := by decide +kernel
theorem i_68_27 : am_ins 68 27 = some (.putfield 27, 4, 4, .null) := by decide +kernel
theorem i_68_30 : am_ins 68 30 = some (.aload_n 0, 0, 0, .null) := by decide +kernel
theorem i_68_31 : am_ins 68 31 = some (.iconst (-1), 0, 0, .int (-1)) := by decide +kernel
theorem i_68_32 : am_ins 68 32 = some (.putfield 30, 4, 5, .null) := by decide +kernel
theorem i_68_35 : am_ins 68 35 = some (.aload_n 0, 0, 0, .null) := by decide +kernel
theorem i_68_36 : am_ins 68 36 = some (.new 33, 3, 0, .null) := by decide +kernel
theorem i_68_39 : am_ins 68 39 = some (.dup, 0, 0, .null) := by decide +kernel
theorem i_68_40 : am_ins 68 40 = some (.aload_n 2, 2, 0, .null) := by decide +kernel
theorem i_68_41 : am_ins 68 41 = some (.getfield 35, 1, 1, .null) := by decide +kernel
theorem i_68_44 : am_ins 68 44 = some (.iconst 1, 0, 0, .int 1) := by decide +kernel
theorem i_68_45 : am_ins 68 45 = some (.aconst_null, 0, 0, .null) := by decide +kernel
theorem i_68_46 : am_ins 68 46 = some (.invokespecial 40, 66, 3, .null) := by decide +kernel
theorem i_68_49 : am_ins 68 49 = some (.putfield 43, 4, 7, .null) := by decide +kernel
theorem i_68_52 : am_ins 68 52 = some (.return_, 0, 0, .null) := by decide +kernel
theorem i_69_0 : am_ins 69 0 = some (.aload_n 0, 0, 0, .null) := by decide +kernel
theorem i_69_1 : am_ins 69 1 = some (.getfield 27, 4, 4, .null) := by decide +kernel
theorem i_69_4 : am_ins 69 4 = some (.iconst 1, 0, 0, .int 1) := by decide +kernel
theorem i_69_5 : am_ins 69 5 = some (.if_icmp .eq 11, 16, 0, .null) := by decide +kernel
theorem i_69_8 : am_ins 69 8 = some (.aload_n 0, 0, 0, .null) := by decide +kernel
theorem i_69_9 : am_ins 69 9 = some (.getfield 27, 4, 4, .null) := by decide +kernel
theorem i_69_12 : am_ins 69 12 = some (.iconst 2, 0, 0, .int 2) := by decide +kernel
theorem i_69_13 : am_ins 69 13 = some (.if_icmp .ne 7, 20, 0, .null) := by decide +kernel
theorem i_69_16 : am_ins 69 16 = some (.iconst 1, 0, 0, .int 1) := by decide +kernel
theorem i_69_17 : am_ins 69 17 = some (.goto 4, 21, 0, .null) := by decide +kernel
theorem i_69_20 : am_ins 69 20 = some (.iconst 0, 0, 0, .int 0) := by decide +kernel
theorem i_69_21 : am_ins 69 21 = some (.ireturn, 0, 0, .null) := by decide +kernel
theorem i_70_0 : am_ins 70 0 = some (.aload_n 0, 0, 0, .null) := by decide +kernel
theorem i_70_1 : am_ins 70 1 = some (.invokespecial 1, 999, 0, .null) := by decide +kernel
theorem i_70_4 : am_ins 70 4 = some (.aload_n 0, 0, 0, .null) := by decide +kernel
theorem i_70_5 : am_ins 70 5 = some (.iload_n 1, 1, 0, .null) := by decide +kernel
theorem i_70_6 : am_ins 70 6 = some (.putfield 7, 2, 0, .null) := by decide +kernel
theorem i_70_9 : am_ins 70 9 = some (.return_, 0, 0, .null) := by decide +kernel
