theorem dX4_writePage_103 : decode cX4_writePage 103 = .ok (.iload 5, 2) := by decide +kernel
theorem dX4_writePage_105 : decode cX4_writePage 105 = .ok (.aload_n 3, 1) := by decide +kernel
theorem dX4_writePage_106 : decode cX4_writePage 106 = .ok (.invokevirtual 57, 3) := by decide +kernel
theorem dX4_writePage_109 : decode cX4_writePage 109 = .ok (.goto 25, 3) := by decide +kernel
theorem dX4_writePage_112 : decode cX4_writePage 112 = .ok (.aload_n 0, 1) := by decide +kernel
theorem dX4_writePage_113 : decode cX4_writePage 113 = .ok (.aload_n 1, 1) := by decide +kernel
theorem dX4_writePage_114 : decode cX4_writePage 114 = .ok (.iload 5, 2) := by decide +kernel
theorem dX4_writePage_116 : decode cX4_writePage 116 = .ok (.aload_n 3, 1) := by decide +kernel
theorem dX4_writePage_117 : decode cX4_writePage 117 = .ok (.invokevirtual 60, 3) := by decide +kernel
theorem dX4_writePage_120 : decode cX4_writePage 120 = .ok (.goto 14, 3) := by decide +kernel
theorem dX4_writePage_123 : decode cX4_writePage 123 = .ok (.aload_n 0, 1) := by decide +kernel
theorem dX4_writePage_124 : decode cX4_writePage 124 = .ok (.aload_n 1, 1) := by decide +kernel
theorem dX4_writePage_125 : decode cX4_writePage 125 = .ok (.iload 5, 2) := by decide +kernel
theorem dX4_writePage_127 : decode cX4_writePage 127 = .ok (.aload_n 3, 1) := by decide +kernel
theorem dX4_writePage_128 : decode cX4_writePage 128 = .ok (.getfield 46, 3) := by decide +kernel
theorem dX4_writePage_131 : decode cX4_writePage 131 = .ok (.invokevirtual 63, 3) := by decide +kernel
theorem dX4_writePage_134 : decode cX4_writePage 134 = .ok (.return_, 1) := by decide +kernel
theorem dX4_writeNumber_0 : decode cX4_writeNumber 0 = .ok (.iload_n 2, 1) := by decide +kernel
theorem dX4_writeNumber_1 : decode cX4_writeNumber 1 = .ok (.iconst 1, 1) := by decide +kernel
theorem dX4_writeNumber_2 : decode cX4_writeNumber 2 = .ok (.isub, 1) := by decide +kernel
theorem dX4_writeNumber_3 : decode cX4_writeNumber 3 = .ok (.istore_n 3, 1) := by decide +kernel
theorem dX4_writeNumber_4 : decode cX4_writeNumber 4 = .ok (.iload_n 3, 1) := by decide +kernel
theorem dX4_writeNumber_5 : decode cX4_writeNumber 5 = .ok (.ifCond .lt 35, 3) := by decide +kernel
theorem dX4_writeNumber_8 : decode cX4_writeNumber 8 = .ok (.aload_n 0, 1) := by decide +kernel
theorem dX4_writeNumber_9 : decode cX4_writeNumber 9 = .ok (.getfield 14, 3) := by decide +kernel
theorem dX4_writeNumber_12 : decode cX4_writeNumber 12 = .ok (.aload_n 0, 1) := by decide +kernel
theorem dX4_writeNumber_13 : decode cX4_writeNumber 13 = .ok (.getfield 38, 3) := by decide +kernel
theorem dX4_writeNumber_16 : decode cX4_writeNumber 16 = .ok (.iload_n 1, 1) := by decide +kernel
theorem dX4_writeNumber_17 : decode cX4_writeNumber 17 = .ok (.iload_n 3, 1) := by decide +kernel
theorem dX4_writeNumber_18 : decode cX4_writeNumber 18 = .ok (.ishr, 1) := by decide +kernel
theorem dX4_writeNumber_19 : decode cX4_writeNumber 19 = .ok (.iconst 1, 1) := by decide +kernel
theorem dX4_writeNumber_20 : decode cX4_writeNumber 20 = .ok (.iand, 1) := by decide +kernel
theorem dX4_writeNumber_21 : decode cX4_writeNumber 21 = .ok (.invokevirtual 66, 3) := by decide +kernel
theorem dX4_writeNumber_24 : decode cX4_writeNumber 24 = .ok (.aload_n 0, 1) := by decide +kernel
theorem dX4_writeNumber_25 : decode cX4_writeNumber 25 = .ok (.dup, 1) := by decide +kernel
theorem dX4_writeNumber_26 : decode cX4_writeNumber 26 = .ok (.getfield 38, 3) := by decide +kernel
theorem dX4_writeNumber_29 : decode cX4_writeNumber 29 = .ok (.iconst 1, 1) := by decide +kernel
theorem dX4_writeNumber_30 : decode cX4_writeNumber 30 = .ok (.iadd, 1) := by decide +kernel
theorem dX4_writeNumber_31 : decode cX4_writeNumber 31 = .ok (.putfield 38, 3) := by decide +kernel
theorem dX4_writeNumber_34 : decode cX4_writeNumber 34 = .ok (.iinc 3 (-1), 3) := by decide +kernel
theorem dX4_writeNumber_37 : decode cX4_writeNumber 37 = .ok (.goto (-33), 3) := by decide +kernel
theorem dX4_writeNumber_40 : decode cX4_writeNumber 40 = .ok (.return_, 1) := by decide +kernel
theorem dX4_writePlain_0 : decode cX4_writePlain 0 = .ok (.iconst 0, 1) := by decide +kernel
theorem dX4_writePlain_1 : decode cX4_writePlain 1 = .ok (.istore 4, 2) := by decide +kernel
theorem dX4_writePlain_3 : decode cX4_writePlain 3 = .ok (.iload 4, 2) := by decide +kernel
theorem dX4_writePlain_5 : decode cX4_writePlain 5 = .ok (.iload_n 3, 1) := by decide +kernel
theorem dX4_writePlain_6 : decode cX4_writePlain 6 = .ok (.if_icmp .ge 23, 3) := by decide +kernel
theorem dX4_writePlain_9 : decode cX4_writePlain 9 = .ok (.aload_n 0, 1) := by decide +kernel
theorem dX4_writePlain_10 : decode cX4_writePlain 10 = .ok (.aload_n 1, 1) := by decide +kernel
theorem dX4_writePlain_11 : decode cX4_writePlain 11 = .ok (.iload_n 2, 1) := by decide +kernel
theorem dX4_writePlain_12 : decode cX4_writePlain 12 = .ok (.iload 4, 2) := by decide +kernel
theorem dX4_writePlain_14 : decode cX4_writePlain 14 = .ok (.iadd, 1) := by decide +kernel
theorem dX4_writePlain_15 : decode cX4_writePlain 15 = .ok (.invokevirtual 69, 3) := by decide +kernel
theorem dX4_writePlain_18 : decode cX4_writePlain 18 = .ok (.bipush 10, 2) := by decide +kernel
theorem dX4_writePlain_20 : decode cX4_writePlain 20 = .ok (.invokevirtual 42, 3) := by decide +kernel
theorem dX4_writePlain_23 : decode cX4_writePlain 23 = .ok (.iinc 4 1, 3) := by decide +kernel
theorem dX4_writePlain_26 : decode cX4_writePlain 26 = .ok (.goto (-23), 3) := by decide +kernel
theorem dX4_writePlain_29 : decode cX4_writePlain 29 = .ok (.return_, 1) := by decide +kernel
theorem dX4_writeWords_0 : decode cX4_writeWords 0 = .ok (.aload_n 0, 1) := by decide +kernel
theorem dX4_writeWords_1 : decode cX4_writeWords 1 = .ok (.aload_n 3, 1) := by decide +kernel
theorem dX4_writeWords_2 : decode cX4_writeWords 2 = .ok (.getfield 72, 3) := by decide +kernel
theorem dX4_writeWords_5 : decode cX4_writeWords 5 = .ok (.iconst 4, 1) := by decide +kernel
theorem dX4_writeWords_6 : decode cX4_writeWords 6 = .ok (.invokevirtual 42, 3) := by decide +kernel
theorem dX4_writeWords_9 : decode cX4_writeWords 9 = .ok (.iconst 0, 1) := by decide +kernel
theorem dX4_writeWords_10 : decode cX4_writeWords 10 = .ok (.istore 4, 2) := by decide +kernel
theorem dX4_writeWords_12 : decode cX4_writeWords 12 = .ok (.iload 4, 2) := by decide +kernel
theorem dX4_writeWords_14 : decode cX4_writeWords 14 = .ok (.aload_n 3, 1) := by decide +kernel
theorem dX4_writeWords_15 : decode cX4_writeWords 15 = .ok (.getfield 72, 3) := by decide +kernel
theorem dX4_writeWords_18 : decode cX4_writeWords 18 = .ok (.if_icmp .ge 21, 3) := by decide +kernel
theorem dX4_writeWords_21 : decode cX4_writeWords 21 = .ok (.aload_n 0, 1) := by decide +kernel
theorem dX4_writeWords_22 : decode cX4_writeWords 22 = .ok (.aload_n 3, 1) := by decide +kernel
theorem dX4_writeWords_23 : decode cX4_writeWords 23 = .ok (.iload 4, 2) := by decide +kernel
theorem dX4_writeWords_25 : decode cX4_writeWords 25 = .ok (.invokevirtual 75, 3) := by decide +kernel
theorem dX4_writeWords_28 : decode cX4_writeWords 28 = .ok (.bipush 10, 2) := by decide +kernel
theorem dX4_writeWords_30 : decode cX4_writeWords 30 = .ok (.invokevirtual 42, 3) := by decide +kernel
theorem dX4_writeWords_33 : decode cX4_writeWords 33 = .ok (.iinc 4 1, 3) := by decide +kernel
theorem dX4_writeWords_36 : decode cX4_writeWords 36 = .ok (.goto (-24), 3) := by decide +kernel
theorem dX4_writeWords_39 : decode cX4_writeWords 39 = .ok (.iconst 0, 1) := by decide +kernel
theorem dX4_writeWords_40 : decode cX4_writeWords 40 = .ok (.istore 4, 2) := by decide +kernel
theorem dX4_writeWords_42 : decode cX4_writeWords 42 = .ok (.iload 4, 2) := by decide +kernel
theorem dX4_writeWords_44 : decode cX4_writeWords 44 = .ok (.aload_n 3, 1) := by decide +kernel
theorem dX4_writeWords_45 : decode cX4_writeWords 45 = .ok (.getfield 46, 3) := by decide +kernel
theorem dX4_writeWords_48 : decode cX4_writeWords 48 = .ok (.if_icmp .ge 33, 3) := by decide +kernel
theorem dX4_writeWords_51 : decode cX4_writeWords 51 = .ok (.aload_n 3, 1) := by decide +kernel
theorem dX4_writeWords_52 : decode cX4_writeWords 52 = .ok (.aload_n 1, 1) := by decide +kernel
theorem dX4_writeWords_53 : decode cX4_writeWords 53 = .ok (.iload_n 2, 1) := by decide +kernel
theorem dX4_writeWords_54 : decode cX4_writeWords 54 = .ok (.iload 4, 2) := by decide +kernel
theorem dX4_writeWords_56 : decode cX4_writeWords 56 = .ok (.iadd, 1) := by decide +kernel
theorem dX4_writeWords_57 : decode cX4_writeWords 57 = .ok (.invokevirtual 69, 3) := by decide +kernel
theorem dX4_writeWords_60 : decode cX4_writeWords 60 = .ok (.invokevirtual 78, 3) := by decide +kernel
theorem dX4_writeWords_63 : decode cX4_writeWords 63 = .ok (.istore 5, 2) := by decide +kernel
theorem dX4_writeWords_65 : decode cX4_writeWords 65 = .ok (.aload_n 0, 1) := by decide +kernel
theorem dX4_writeWords_66 : decode cX4_writeWords 66 = .ok (.iload 5, 2) := by decide +kernel
theorem dX4_writeWords_68 : decode cX4_writeWords 68 = .ok (.aload_n 3, 1) := by decide +kernel
theorem dX4_writeWords_69 : decode cX4_writeWords 69 = .ok (.getfield 81, 3) := by decide +kernel
theorem dX4_writeWords_72 : decode cX4_writeWords 72 = .ok (.invokevirtual 42, 3) := by decide +kernel
theorem dX4_writeWords_75 : decode cX4_writeWords 75 = .ok (.iinc 4 1, 3) := by decide +kernel
theorem dX4_writeWords_78 : decode cX4_writeWords 78 = .ok (.goto (-36), 3) := by decide +kernel
theorem dX4_writeWords_81 : decode cX4_writeWords 81 = .ok (.return_, 1) := by decide +kernel
theorem dX4_writeRuns_0 : decode cX4_writeRuns 0 = .ok (.iload_n 2, 1) := by decide +kernel
theorem dX4_writeRuns_1 : decode cX4_writeRuns 1 = .ok (.istore 4, 2) := by decide +kernel
theorem dX4_writeRuns_3 : decode cX4_writeRuns 3 = .ok (.iload_n 2, 1) := by decide +kernel
theorem dX4_writeRuns_4 : decode cX4_writeRuns 4 = .ok (.istore 5, 2) := by decide +kernel
theorem dX4_writeRuns_6 : decode cX4_writeRuns 6 = .ok (.iload 5, 2) := by decide +kernel
theorem dX4_writeRuns_8 : decode cX4_writeRuns 8 = .ok (.iload_n 2, 1) := by decide +kernel
theorem dX4_writeRuns_9 : decode cX4_writeRuns 9 = .ok (.iload_n 3, 1) := by decide +kernel
theorem dX4_writeRuns_10 : decode cX4_writeRuns 10 = .ok (.iadd, 1) := by decide +kernel
theorem dX4_writeRuns_11 : decode cX4_writeRuns 11 = .ok (.if_icmp .ge 66, 3) := by decide +kernel
theorem dX4_writeRuns_14 : decode cX4_writeRuns 14 = .ok (.aload_n 1, 1) := by decide +kernel
theorem dX4_writeRuns_15 : decode cX4_writeRuns 15 = .ok (.iload 5, 2) := by decide +kernel
theorem dX4_writeRuns_17 : decode cX4_writeRuns 17 = .ok (.invokevirtual 69, 3) := by decide +kernel
theorem dX4_writeRuns_20 : decode cX4_writeRuns 20 = .ok (.istore 6, 2) := by decide +kernel
theorem dX4_writeRuns_22 : decode cX4_writeRuns 22 = .ok (.iload 5, 2) := by decide +kernel
theorem dX4_writeRuns_24 : decode cX4_writeRuns 24 = .ok (.iload_n 2, 1) := by decide +kernel
theorem dX4_writeRuns_25 : decode cX4_writeRuns 25 = .ok (.iload_n 3, 1) := by decide +kernel
theorem dX4_writeRuns_26 : decode cX4_writeRuns 26 = .ok (.iadd, 1) := by decide +kernel
theorem dX4_writeRuns_27 : decode cX4_writeRuns 27 = .ok (.iconst 1, 1) := by decide +kernel
theorem dX4_writeRuns_28 : decode cX4_writeRuns 28 = .ok (.isub, 1) := by decide +kernel
theorem dX4_writeRuns_29 : decode cX4_writeRuns 29 = .ok (.if_icmp .eq 16, 3) := by decide +kernel
theorem dX4_writeRuns_32 : decode cX4_writeRuns 32 = .ok (.aload_n 1, 1) := by decide +kernel
theorem dX4_writeRuns_33 : decode cX4_writeRuns 33 = .ok (.iload 5, 2) := by decide +kernel
theorem dX4_writeRuns_35 : decode cX4_writeRuns 35 = .ok (.iconst 1, 1) := by decide +kernel
theorem dX4_writeRuns_36 : decode cX4_writeRuns 36 = .ok (.iadd, 1) := by decide +kernel
theorem dX4_writeRuns_37 : decode cX4_writeRuns 37 = .ok (.invokevirtual 69, 3) := by decide +kernel
theorem dX4_writeRuns_40 : decode cX4_writeRuns 40 = .ok (.iload 6, 2) := by decide +kernel
theorem dX4_writeRuns_42 : decode cX4_writeRuns 42 = .ok (.if_icmp .eq 29, 3) := by decide +kernel
theorem dX4_writeRuns_45 : decode cX4_writeRuns 45 = .ok (.aload_n 0, 1) := by decide +kernel
theorem dX4_writeRuns_46 : decode cX4_writeRuns 46 = .ok (.iload 6, 2) := by decide +kernel
theorem dX4_writeRuns_48 : decode cX4_writeRuns 48 = .ok (.bipush 10, 2) := by decide +kernel
theorem dX4_writeRuns_50 : decode cX4_writeRuns 50 = .ok (.invokevirtual 42, 3) := by decide +kernel
theorem dX4_writeRuns_53 : decode cX4_writeRuns 53 = .ok (.aload_n 0, 1) := by decide +kernel
theorem dX4_writeRuns_54 : decode cX4_writeRuns 54 = .ok (.iload 5, 2) := by decide +kernel
theorem dX4_writeRuns_56 : decode cX4_writeRuns 56 = .ok (.iconst 1, 1) := by decide +kernel
theorem dX4_writeRuns_57 : decode cX4_writeRuns 57 = .ok (.iadd, 1) := by decide +kernel
theorem dX4_writeRuns_58 : decode cX4_writeRuns 58 = .ok (.iload 4, 2) := by decide +kernel
theorem dX4_writeRuns_60 : decode cX4_writeRuns 60 = .ok (.isub, 1) := by decide +kernel
theorem dX4_writeRuns_61 : decode cX4_writeRuns 61 = .ok (.iconst 4, 1) := by decide +kernel
theorem dX4_writeRuns_62 : decode cX4_writeRuns 62 = .ok (.invokevirtual 42, 3) := by decide +kernel
theorem dX4_writeRuns_65 : decode cX4_writeRuns 65 = .ok (.iload 5, 2) := by decide +kernel
theorem dX4_writeRuns_67 : decode cX4_writeRuns 67 = .ok (.iconst 1, 1) := by decide +kernel
theorem dX4_writeRuns_68 : decode cX4_writeRuns 68 = .ok (.iadd, 1) := by decide +kernel
theorem dX4_writeRuns_69 : decode cX4_writeRuns 69 = .ok (.istore 4, 2) := by decide +kernel
theorem dX4_writeRuns_71 : decode cX4_writeRuns 71 = .ok (.iinc 5 1, 3) := by decide +kernel
theorem dX4_writeRuns_74 : decode cX4_writeRuns 74 = .ok (.goto (-68), 3) := by decide +kernel
theorem dX4_writeRuns_77 : decode cX4_writeRuns 77 = .ok (.return_, 1) := by decide +kernel
theorem dX4_writeSmall_0 : decode cX4_writeSmall 0 = .ok (.aload_n 0, 1) := by decide +kernel
theorem dX4_writeSmall_1 : decode cX4_writeSmall 1 = .ok (.aload_n 3, 1) := by decide +kernel
theorem dX4_writeSmall_2 : decode cX4_writeSmall 2 = .ok (.getfield 84, 3) := by decide +kernel
theorem dX4_writeSmall_5 : decode cX4_writeSmall 5 = .ok (.bipush 10, 2) := by decide +kernel
theorem dX4_writeSmall_7 : decode cX4_writeSmall 7 = .ok (.invokevirtual 42, 3) := by decide +kernel
theorem dX4_writeSmall_10 : decode cX4_writeSmall 10 = .ok (.aload_n 0, 1) := by decide +kernel
theorem dX4_writeSmall_11 : decode cX4_writeSmall 11 = .ok (.aload_n 3, 1) := by decide +kernel
theorem dX4_writeSmall_12 : decode cX4_writeSmall 12 = .ok (.getfield 87, 3) := by decide +kernel
theorem dX4_writeSmall_15 : decode cX4_writeSmall 15 = .ok (.iconst 4, 1) := by decide +kernel
theorem dX4_writeSmall_16 : decode cX4_writeSmall 16 = .ok (.invokevirtual 42, 3) := by decide +kernel
theorem dX4_writeSmall_19 : decode cX4_writeSmall 19 = .ok (.iconst 0, 1) := by decide +kernel
theorem dX4_writeSmall_20 : decode cX4_writeSmall 20 = .ok (.istore 4, 2) := by decide +kernel
theorem dX4_writeSmall_22 : decode cX4_writeSmall 22 = .ok (.iload 4, 2) := by decide +kernel
theorem dX4_writeSmall_24 : decode cX4_writeSmall 24 = .ok (.aload_n 3, 1) := by decide +kernel
theorem dX4_writeSmall_25 : decode cX4_writeSmall 25 = .ok (.getfield 46, 3) := by decide +kernel
theorem dX4_writeSmall_28 : decode cX4_writeSmall 28 = .ok (.if_icmp .ge 30, 3) := by decide +kernel
theorem dX4_writeSmall_31 : decode cX4_writeSmall 31 = .ok (.aload_n 0, 1) := by decide +kernel
theorem dX4_writeSmall_32 : decode cX4_writeSmall 32 = .ok (.aload_n 1, 1) := by decide +kernel
theorem dX4_writeSmall_33 : decode cX4_writeSmall 33 = .ok (.iload_n 2, 1) := by decide +kernel
theorem dX4_writeSmall_34 : decode cX4_writeSmall 34 = .ok (.iload 4, 2) := by decide +kernel
theorem dX4_writeSmall_36 : decode cX4_writeSmall 36 = .ok (.iadd, 1) := by decide +kernel
theorem dX4_writeSmall_37 : decode cX4_writeSmall 37 = .ok (.invokevirtual 69, 3) := by decide +kernel
theorem dX4_writeSmall_40 : decode cX4_writeSmall 40 = .ok (.aload_n 3, 1) := by decide +kernel
theorem dX4_writeSmall_41 : decode cX4_writeSmall 41 = .ok (.getfield 84, 3) := by decide +kernel
theorem dX4_writeSmall_44 : decode cX4_writeSmall 44 = .ok (.isub, 1) := by decide +kernel
theorem dX4_writeSmall_45 : decode cX4_writeSmall 45 = .ok (.aload_n 3, 1) := by decide +kernel
theorem dX4_writeSmall_46 : decode cX4_writeSmall 46 = .ok (.getfield 87, 3) := by decide +kernel
theorem dX4_writeSmall_49 : decode cX4_writeSmall 49 = .ok (.invokevirtual 42, 3) := by decide +kernel
theorem dX4_writeSmall_52 : decode cX4_writeSmall 52 = .ok (.iinc 4 1, 3) := by decide +kernel
theorem dX4_writeSmall_55 : decode cX4_writeSmall 55 = .ok (.goto (-33), 3) := by decide +kernel
theorem dX4_writeSmall_58 : decode cX4_writeSmall 58 = .ok (.return_, 1) := by decide +kernel
theorem dX4_writeSteps_0 : decode cX4_writeSteps 0 = .ok (.aload_n 0, 1) := by decide +kernel
theorem dX4_writeSteps_1 : decode cX4_writeSteps 1 = .ok (.aload_n 1, 1) := by decide +kernel
theorem dX4_writeSteps_2 : decode cX4_writeSteps 2 = .ok (.iload_n 2, 1) := by decide +kernel
theorem dX4_writeSteps_3 : decode cX4_writeSteps 3 = .ok (.invokevirtual 69, 3) := by decide +kernel
theorem dX4_writeSteps_6 : decode cX4_writeSteps 6 = .ok (.bipush 10, 2) := by decide +kernel
theorem dX4_writeSteps_8 : decode cX4_writeSteps 8 = .ok (.invokevirtual 42, 3) := by decide +kernel
theorem dX4_writeSteps_11 : decode cX4_writeSteps 11 = .ok (.aload_n 0, 1) := by decide +kernel
theorem dX4_writeSteps_12 : decode cX4_writeSteps 12 = .ok (.aload_n 3, 1) := by decide +kernel
theorem dX4_writeSteps_13 : decode cX4_writeSteps 13 = .ok (.getfield 90, 3) := by decide +kernel
theorem dX4_writeSteps_16 : decode cX4_writeSteps 16 = .ok (.iconst 4, 1) := by decide +kernel
theorem dX4_writeSteps_17 : decode cX4_writeSteps 17 = .ok (.invokevirtual 42, 3) := by decide +kernel
theorem dX4_writeSteps_20 : decode cX4_writeSteps 20 = .ok (.iload_n 2, 1) := by decide +kernel
theorem dX4_writeSteps_21 : decode cX4_writeSteps 21 = .ok (.iconst 1, 1) := by decide +kernel
theorem dX4_writeSteps_22 : decode cX4_writeSteps 22 = .ok (.iadd, 1) := by decide +kernel
theorem dX4_writeSteps_23 : decode cX4_writeSteps 23 = .ok (.istore 4, 2) := by decide +kernel
theorem dX4_writeSteps_25 : decode cX4_writeSteps 25 = .ok (.iload 4, 2) := by decide +kernel
theorem dX4_writeSteps_27 : decode cX4_writeSteps 27 = .ok (.iload_n 2, 1) := by decide +kernel
theorem dX4_writeSteps_28 : decode cX4_writeSteps 28 = .ok (.aload_n 3, 1) := by decide +kernel
theorem dX4_writeSteps_29 : decode cX4_writeSteps 29 = .ok (.getfield 46, 3) := by decide +kernel
theorem dX4_writeSteps_32 : decode cX4_writeSteps 32 = .ok (.iadd, 1) := by decide +kernel
theorem dX4_writeSteps_33 : decode cX4_writeSteps 33 = .ok (.if_icmp .ge 32, 3) := by decide +kernel
theorem dX4_writeSteps_36 : decode cX4_writeSteps 36 = .ok (.aload_n 0, 1) := by decide +kernel
theorem dX4_writeSteps_37 : decode cX4_writeSteps 37 = .ok (.aload_n 1, 1) := by decide +kernel
theorem dX4_writeSteps_38 : decode cX4_writeSteps 38 = .ok (.iload 4, 2) := by decide +kernel
theorem dX4_writeSteps_40 : decode cX4_writeSteps 40 = .ok (.invokevirtual 69, 3) := by decide +kernel
theorem dX4_writeSteps_43 : decode cX4_writeSteps 43 = .ok (.aload_n 1, 1) := by decide +kernel
theorem dX4_writeSteps_44 : decode cX4_writeSteps 44 = .ok (.iload 4, 2) := by decide +kernel
theorem dX4_writeSteps_46 : decode cX4_writeSteps 46 = .ok (.iconst 1, 1) := by decide +kernel
theorem dX4_writeSteps_47 : decode cX4_writeSteps 47 = .ok (.isub, 1) := by decide +kernel
theorem dX4_writeSteps_48 : decode cX4_writeSteps 48 = .ok (.invokevirtual 69, 3) := by decide +kernel
theorem dX4_writeSteps_51 : decode cX4_writeSteps 51 = .ok (.isub, 1) := by decide +kernel
theorem dX4_writeSteps_52 : decode cX4_writeSteps 52 = .ok (.aload_n 3, 1) := by decide +kernel
theorem dX4_writeSteps_53 : decode cX4_writeSteps 53 = .ok (.getfield 90, 3) := by decide +kernel
theorem dX4_writeSteps_56 : decode cX4_writeSteps 56 = .ok (.invokevirtual 42, 3) := by decide +kernel
theorem dX4_writeSteps_59 : decode cX4_writeSteps 59 = .ok (.iinc 4 1, 3) := by decide +kernel
theorem dX4_writeSteps_62 : decode cX4_writeSteps 62 = .ok (.goto (-37), 3) := by decide +kernel
theorem dX4_writeSteps_65 : decode cX4_writeSteps 65 = .ok (.return_, 1) := by decide +kernel
theorem dX5_init_0 : decode cX5_init 0 = .ok (.aload_n 0, 1) := by decide +kernel
theorem dX5_init_1 : decode cX5_init 1 = .ok (.invokespecial 1, 3) := by decide +kernel
theorem dX5_init_4 : decode cX5_init 4 = .ok (.aload_n 0, 1) := by decide +kernel
theorem dX5_init_5 : decode cX5_init 5 = .ok (.iload_n 1, 1) := by decide +kernel
theorem dX5_init_6 : decode cX5_init 6 = .ok (.ifCond .le 7, 3) := by decide +kernel
theorem dX5_init_9 : decode cX5_init 9 = .ok (.iload_n 1, 1) := by decide +kernel
theorem dX5_init_10 : decode cX5_init 10 = .ok (.goto 4, 3) := by decide +kernel
theorem dX5_init_13 : decode cX5_init 13 = .ok (.iconst 0, 1) := by decide +kernel
theorem dX5_init_14 : decode cX5_init 14 = .ok (.newarray .int, 2) := by decide +kernel
theorem dX5_init_16 : decode cX5_init 16 = .ok (.putfield 7, 3) := by decide +kernel
theorem dX5_init_19 : decode cX5_init 19 = .ok (.return_, 1) := by decide +kernel
theorem dX5_get_0 : decode cX5_get 0 = .ok (.iload_n 1, 1) := by decide +kernel
theorem dX5_get_1 : decode cX5_get 1 = .ok (.ifCond .lt 21, 3) := by decide +kernel
theorem dX5_get_4 : decode cX5_get 4 = .ok (.iload_n 1, 1) := by decide +kernel
theorem dX5_get_5 : decode cX5_get 5 = .ok (.aload_n 0, 1) := by decide +kernel
theorem dX5_get_6 : decode cX5_get 6 = .ok (.getfield 7, 3) := by decide +kernel
theorem dX5_get_9 : decode cX5_get 9 = .ok (.arraylength, 1) := by decide +kernel
theorem dX5_get_10 : decode cX5_get 10 = .ok (.if_icmp .ge 12, 3) := by decide +kernel
theorem dX5_get_13 : decode cX5_get 13 = .ok (.aload_n 0, 1) := by decide +kernel
theorem dX5_get_14 : decode cX5_get 14 = .ok (.getfield 7, 3) := by decide +kernel
theorem dX5_get_17 : decode cX5_get 17 = .ok (.iload_n 1, 1) := by decide +kernel
theorem dX5_get_18 : decode cX5_get 18 = .ok (.iaload, 1) := by decide +kernel
theorem dX5_get_19 : decode cX5_get 19 = .ok (.goto 4, 3) := by decide +kernel
theorem dX5_get_22 : decode cX5_get 22 = .ok (.iconst 0, 1) := by decide +kernel
theorem dX5_get_23 : decode cX5_get 23 = .ok (.ireturn, 1) := by decide +kernel
theorem dX5_set_0 : decode cX5_set 0 = .ok (.iload_n 1, 1) := by decide +kernel
theorem dX5_set_1 : decode cX5_set 1 = .ok (.ifCond .lt 19, 3) := by decide +kernel
theorem dX5_set_4 : decode cX5_set 4 = .ok (.iload_n 1, 1) := by decide +kernel
theorem dX5_set_5 : decode cX5_set 5 = .ok (.aload_n 0, 1) := by decide +kernel
theorem dX5_set_6 : decode cX5_set 6 = .ok (.getfield 7, 3) := by decide +kernel
theorem dX5_set_9 : decode cX5_set 9 = .ok (.arraylength, 1) := by decide +kernel
theorem dX5_set_10 : decode cX5_set 10 = .ok (.if_icmp .ge 10, 3) := by decide +kernel
theorem dX5_set_13 : decode cX5_set 13 = .ok (.aload_n 0, 1) := by decide +kernel
theorem dX5_set_14 : decode cX5_set 14 = .ok (.getfield 7, 3) := by decide +kernel
theorem dX5_set_17 : decode cX5_set 17 = .ok (.iload_n 1, 1) := by decide +kernel
theorem dX5_set_18 : decode cX5_set 18 = .ok (.iload_n 2, 1) := by decide +kernel
theorem dX5_set_19 : decode cX5_set 19 = .ok (.iastore, 1) := by decide +kernel
theorem dX5_set_20 : decode cX5_set 20 = .ok (.return_, 1) := by decide +kernel
theorem dX5_insertAt_0 : decode cX5_insertAt 0 = .ok (.aload_n 0, 1) := by decide +kernel
theorem dX5_insertAt_1 : decode cX5_insertAt 1 = .ok (.getfield 7, 3) := by decide +kernel
theorem dX5_insertAt_4 : decode cX5_insertAt 4 = .ok (.arraylength, 1) := by decide +kernel
theorem dX5_insertAt_5 : decode cX5_insertAt 5 = .ok (.iconst 1, 1) := by decide +kernel
theorem dX5_insertAt_6 : decode cX5_insertAt 6 = .ok (.isub, 1) := by decide +kernel
theorem dX5_insertAt_7 : decode cX5_insertAt 7 = .ok (.istore_n 3, 1) := by decide +kernel
theorem dX5_insertAt_8 : decode cX5_insertAt 8 = .ok (.iload_n 3, 1) := by decide +kernel
theorem dX5_insertAt_9 : decode cX5_insertAt 9 = .ok (.iload_n 1, 1) := by decide +kernel
theorem dX5_insertAt_10 : decode cX5_insertAt 10 = .ok (.if_icmp .le 21, 3) := by decide +kernel
theorem dX5_insertAt_13 : decode cX5_insertAt 13 = .ok (.aload_n 0, 1) := by decide +kernel
theorem dX5_insertAt_14 : decode cX5_insertAt 14 = .ok (.iload_n 3, 1) := by decide +kernel
theorem dX5_insertAt_15 : decode cX5_insertAt 15 = .ok (.aload_n 0, 1) := by decide +kernel
theorem dX5_insertAt_16 : decode cX5_insertAt 16 = .ok (.iload_n 3, 1) := by decide +kernel
theorem dX5_insertAt_17 : decode cX5_insertAt 17 = .ok (.iconst 1, 1) := by decide +kernel
theorem dX5_insertAt_18 : decode cX5_insertAt 18 = .ok (.isub, 1) := by decide +kernel
theorem dX5_insertAt_19 : decode cX5_insertAt 19 = .ok (.invokevirtual 13, 3) := by decide +kernel
theorem dX5_insertAt_22 : decode cX5_insertAt 22 = .ok (.invokevirtual 17, 3) := by decide +kernel
theorem dX5_insertAt_25 : decode cX5_insertAt 25 = .ok (.iinc 3 (-1), 3) := by decide +kernel
theorem dX5_insertAt_28 : decode cX5_insertAt 28 = .ok (.goto (-20), 3) := by decide +kernel
theorem dX5_insertAt_31 : decode cX5_insertAt 31 = .ok (.aload_n 0, 1) := by decide +kernel
theorem dX5_insertAt_32 : decode cX5_insertAt 32 = .ok (.iload_n 1, 1) := by decide +kernel
theorem dX5_insertAt_33 : decode cX5_insertAt 33 = .ok (.iload_n 2, 1) := by decide +kernel
theorem dX5_insertAt_34 : decode cX5_insertAt 34 = .ok (.invokevirtual 17, 3) := by decide +kernel
theorem dX5_insertAt_37 : decode cX5_insertAt 37 = .ok (.return_, 1) := by decide +kernel
theorem dX5_removeAt_0 : decode cX5_removeAt 0 = .ok (.iload_n 1, 1) := by decide +kernel
theorem dX5_removeAt_1 : decode cX5_removeAt 1 = .ok (.iconst 1, 1) := by decide +kernel
theorem dX5_removeAt_2 : decode cX5_removeAt 2 = .ok (.iadd, 1) := by decide +kernel
theorem dX5_removeAt_3 : decode cX5_removeAt 3 = .ok (.istore_n 2, 1) := by decide +kernel
theorem dX5_removeAt_4 : decode cX5_removeAt 4 = .ok (.iload_n 2, 1) := by decide +kernel
theorem dX5_removeAt_5 : decode cX5_removeAt 5 = .ok (.aload_n 0, 1) := by decide +kernel
theorem dX5_removeAt_6 : decode cX5_removeAt 6 = .ok (.getfield 7, 3) := by decide +kernel
theorem dX5_removeAt_9 : decode cX5_removeAt 9 = .ok (.arraylength, 1) := by decide +kernel
theorem dX5_removeAt_10 : decode cX5_removeAt 10 = .ok (.if_icmp .ge 21, 3) := by decide +kernel
theorem dX5_removeAt_13 : decode cX5_removeAt 13 = .ok (.aload_n 0, 1) := by decide +kernel
theorem dX5_removeAt_14 : decode cX5_removeAt 14 = .ok (.iload_n 2, 1) := by decide +kernel
theorem dX5_removeAt_15 : decode cX5_removeAt 15 = .ok (.iconst 1, 1) := by decide +kernel
theorem dX5_removeAt_16 : decode cX5_removeAt 16 = .ok (.isub, 1) := by decide +kernel
theorem dX5_removeAt_17 : decode cX5_removeAt 17 = .ok (.aload_n 0, 1) := by decide +kernel
theorem dX5_removeAt_18 : decode cX5_removeAt 18 = .ok (.iload_n 2, 1) := by decide +kernel
theorem dX5_removeAt_19 : decode cX5_removeAt 19 = .ok (.invokevirtual 13, 3) := by decide +kernel
theorem dX5_removeAt_22 : decode cX5_removeAt 22 = .ok (.invokevirtual 17, 3) := by decide +kernel
theorem dX5_removeAt_25 : decode cX5_removeAt 25 = .ok (.iinc 2 1, 3) := by decide +kernel
theorem dX5_removeAt_28 : decode cX5_removeAt 28 = .ok (.goto (-24), 3) := by decide +kernel
theorem dX5_removeAt_31 : decode cX5_removeAt 31 = .ok (.return_, 1) := by decide +kernel
theorem dX5_copyFrom_0 : decode cX5_copyFrom 0 = .ok (.iconst 0, 1) := by decide +kernel
theorem dX5_copyFrom_1 : decode cX5_copyFrom 1 = .ok (.istore_n 2, 1) := by decide +kernel
theorem dX5_copyFrom_2 : decode cX5_copyFrom 2 = .ok (.iload_n 2, 1) := by decide +kernel
theorem dX5_copyFrom_3 : decode cX5_copyFrom 3 = .ok (.aload_n 0, 1) := by decide +kernel
theorem dX5_copyFrom_4 : decode cX5_copyFrom 4 = .ok (.getfield 7, 3) := by decide +kernel
theorem dX5_copyFrom_7 : decode cX5_copyFrom 7 = .ok (.arraylength, 1) := by decide +kernel
theorem dX5_copyFrom_8 : decode cX5_copyFrom 8 = .ok (.if_icmp .ge 20, 3) := by decide +kernel
theorem dX5_copyFrom_11 : decode cX5_copyFrom 11 = .ok (.aload_n 0, 1) := by decide +kernel
theorem dX5_copyFrom_12 : decode cX5_copyFrom 12 = .ok (.getfield 7, 3) := by decide +kernel
theorem dX5_copyFrom_15 : decode cX5_copyFrom 15 = .ok (.iload_n 2, 1) := by decide +kernel
theorem dX5_copyFrom_16 : decode cX5_copyFrom 16 = .ok (.aload_n 1, 1) := by decide +kernel
theorem dX5_copyFrom_17 : decode cX5_copyFrom 17 = .ok (.iload_n 2, 1) := by decide +kernel
theorem dX5_copyFrom_18 : decode cX5_copyFrom 18 = .ok (.invokevirtual 13, 3) := by decide +kernel
theorem dX5_copyFrom_21 : decode cX5_copyFrom 21 = .ok (.iastore, 1) := by decide +kernel
theorem dX5_copyFrom_22 : decode cX5_copyFrom 22 = .ok (.iinc 2 1, 3) := by decide +kernel
theorem dX5_copyFrom_25 : decode cX5_copyFrom 25 = .ok (.goto (-23), 3) := by decide +kernel
theorem dX5_copyFrom_28 : decode cX5_copyFrom 28 = .ok (.return_, 1) := by decide +kernel
theorem dX6_init_0 : decode cX6_init 0 = .ok (.aload_n 0, 1) := by decide +kernel
theorem dX6_init_1 : decode cX6_init 1 = .ok (.invokespecial 3, 3) := by decide +kernel
theorem dX6_init_4 : decode cX6_init 4 = .ok (.aload_n 0, 1) := by decide +kernel
theorem dX6_init_5 : decode cX6_init 5 = .ok (.new 9, 3) := by decide +kernel
theorem dX6_init_8 : decode cX6_init 8 = .ok (.dup, 1) := by decide +kernel
theorem dX6_init_9 : decode cX6_init 9 = .ok (.invokespecial 11, 3) := by decide +kernel
theorem dX6_init_12 : decode cX6_init 12 = .ok (.putfield 12, 3) := by decide +kernel
theorem dX6_init_15 : decode cX6_init 15 = .ok (.return_, 1) := by decide +kernel
theorem dX6_startFrom_0 : decode cX6_startFrom 0 = .ok (.aload_n 0, 1) := by decide +kernel
theorem dX6_startFrom_1 : decode cX6_startFrom 1 = .ok (.getfield 12, 3) := by decide +kernel
theorem dX6_startFrom_4 : decode cX6_startFrom 4 = .ok (.aload_n 1, 1) := by decide +kernel
theorem dX6_startFrom_5 : decode cX6_startFrom 5 = .ok (.invokevirtual 18, 3) := by decide +kernel
theorem dX6_startFrom_8 : decode cX6_startFrom 8 = .ok (.return_, 1) := by decide +kernel
theorem dX6_succeeds_0 : decode cX6_succeeds 0 = .ok (.iload_n 1, 1) := by decide +kernel
theorem dX6_succeeds_1 : decode cX6_succeeds 1 = .ok (.ldc 22, 2) := by decide +kernel
theorem dX6_succeeds_3 : decode cX6_succeeds 3 = .ok (.irem, 1) := by decide +kernel
theorem dX6_succeeds_4 : decode cX6_succeeds 4 = .ok (.istore_n 2, 1) := by decide +kernel
theorem dX6_succeeds_5 : decode cX6_succeeds 5 = .ok (.iload_n 2, 1) := by decide +kernel
theorem dX6_succeeds_6 : decode cX6_succeeds 6 = .ok (.sipush 10000, 3) := by decide +kernel
theorem dX6_succeeds_9 : decode cX6_succeeds 9 = .ok (.idiv, 1) := by decide +kernel
theorem dX6_succeeds_10 : decode cX6_succeeds 10 = .ok (.istore_n 3, 1) := by decide +kernel
theorem dX6_succeeds_11 : decode cX6_succeeds 11 = .ok (.iload_n 1, 1) := by decide +kernel
theorem dX6_succeeds_12 : decode cX6_succeeds 12 = .ok (.ldc 22, 2) := by decide +kernel
theorem dX6_succeeds_14 : decode cX6_succeeds 14 = .ok (.idiv, 1) := by decide +kernel
theorem dX6_succeeds_15 : decode cX6_succeeds 15 = .ok (.tableswitch 279 1 9 #[49, 67, 82, 108, 136, 158, 180, 201, 245], 49) := by decide +kernel
theorem dX6_succeeds_64 : decode cX6_succeeds 64 = .ok (.iload_n 3, 1) := by decide +kernel
theorem dX6_succeeds_65 : decode cX6_succeeds 65 = .ok (.ifCond .ne 15, 3) := by decide +kernel
theorem dX6_succeeds_68 : decode cX6_succeeds 68 = .ok (.aload_n 0, 1) := by decide +kernel
theorem dX6_succeeds_69 : decode cX6_succeeds 69 = .ok (.iload_n 2, 1) := by decide +kernel
theorem dX6_succeeds_70 : decode cX6_succeeds 70 = .ok (.invokevirtual 23, 3) := by decide +kernel
theorem dX6_succeeds_73 : decode cX6_succeeds 73 = .ok (.ifCond .eq 7, 3) := by decide +kernel
theorem dX6_succeeds_76 : decode cX6_succeeds 76 = .ok (.iconst 1, 1) := by decide +kernel
theorem dX6_succeeds_77 : decode cX6_succeeds 77 = .ok (.goto 4, 3) := by decide +kernel
theorem dX6_succeeds_80 : decode cX6_succeeds 80 = .ok (.iconst 0, 1) := by decide +kernel
theorem dX6_succeeds_81 : decode cX6_succeeds 81 = .ok (.ireturn, 1) := by decide +kernel
theorem dX6_succeeds_82 : decode cX6_succeeds 82 = .ok (.aload_n 0, 1) := by decide +kernel
theorem dX6_succeeds_83 : decode cX6_succeeds 83 = .ok (.iload_n 2, 1) := by decide +kernel
theorem dX6_succeeds_84 : decode cX6_succeeds 84 = .ok (.sipush 1000, 3) := by decide +kernel
theorem dX6_succeeds_87 : decode cX6_succeeds 87 = .ok (.idiv, 1) := by decide +kernel
theorem dX6_succeeds_88 : decode cX6_succeeds 88 = .ok (.iload_n 2, 1) := by decide +kernel
theorem dX6_succeeds_89 : decode cX6_succeeds 89 = .ok (.sipush 1000, 3) := by decide +kernel
theorem dX6_succeeds_92 : decode cX6_succeeds 92 = .ok (.irem, 1) := by decide +kernel
theorem dX6_succeeds_93 : decode cX6_succeeds 93 = .ok (.invokevirtual 27, 3) := by decide +kernel
theorem dX6_succeeds_96 : decode cX6_succeeds 96 = .ok (.ireturn, 1) := by decide +kernel
theorem dX6_succeeds_97 : decode cX6_succeeds 97 = .ok (.iload_n 2, 1) := by decide +kernel
theorem dX6_succeeds_98 : decode cX6_succeeds 98 = .ok (.sipush 1000, 3) := by decide +kernel
theorem dX6_succeeds_101 : decode cX6_succeeds 101 = .ok (.irem, 1) := by decide +kernel
theorem dX6_succeeds_102 : decode cX6_succeeds 102 = .ok (.ifCond .ne 19, 3) := by decide +kernel
theorem dX6_succeeds_105 : decode cX6_succeeds 105 = .ok (.aload_n 0, 1) := by decide +kernel
theorem dX6_succeeds_106 : decode cX6_succeeds 106 = .ok (.iload_n 2, 1) := by decide +kernel
theorem dX6_succeeds_107 : decode cX6_succeeds 107 = .ok (.sipush 1000, 3) := by decide +kernel
theorem dX6_succeeds_110 : decode cX6_succeeds 110 = .ok (.idiv, 1) := by decide +kernel
theorem dX6_succeeds_111 : decode cX6_succeeds 111 = .ok (.invokevirtual 31, 3) := by decide +kernel
theorem dX6_succeeds_114 : decode cX6_succeeds 114 = .ok (.ifCond .eq 7, 3) := by decide +kernel
theorem dX6_succeeds_117 : decode cX6_succeeds 117 = .ok (.iconst 1, 1) := by decide +kernel
theorem dX6_succeeds_118 : decode cX6_succeeds 118 = .ok (.goto 4, 3) := by decide +kernel
theorem dX6_succeeds_121 : decode cX6_succeeds 121 = .ok (.iconst 0, 1) := by decide +kernel
theorem dX6_succeeds_122 : decode cX6_succeeds 122 = .ok (.ireturn, 1) := by decide +kernel
theorem dX6_succeeds_123 : decode cX6_succeeds 123 = .ok (.iload_n 2, 1) := by decide +kernel
theorem dX6_succeeds_124 : decode cX6_succeeds 124 = .ok (.bipush 100, 2) := by decide +kernel
theorem dX6_succeeds_126 : decode cX6_succeeds 126 = .ok (.irem, 1) := by decide +kernel
theorem dX6_succeeds_127 : decode cX6_succeeds 127 = .ok (.ifCond .ne 22, 3) := by decide +kernel
theorem dX6_succeeds_130 : decode cX6_succeeds 130 = .ok (.aload_n 0, 1) := by decide +kernel
theorem dX6_succeeds_131 : decode cX6_succeeds 131 = .ok (.iload_n 3, 1) := by decide +kernel
theorem dX6_succeeds_132 : decode cX6_succeeds 132 = .ok (.iload_n 2, 1) := by decide +kernel
theorem dX6_succeeds_133 : decode cX6_succeeds 133 = .ok (.bipush 100, 2) := by decide +kernel
theorem dX6_succeeds_135 : decode cX6_succeeds 135 = .ok (.idiv, 1) := by decide +kernel
theorem dX6_succeeds_136 : decode cX6_succeeds 136 = .ok (.bipush 100, 2) := by decide +kernel
theorem dX6_succeeds_138 : decode cX6_succeeds 138 = .ok (.irem, 1) := by decide +kernel
theorem dX6_succeeds_139 : decode cX6_succeeds 139 = .ok (.invokevirtual 34, 3) := by decide +kernel
theorem dX6_succeeds_142 : decode cX6_succeeds 142 = .ok (.ifCond .eq 7, 3) := by decide +kernel
theorem dX6_succeeds_145 : decode cX6_succeeds 145 = .ok (.iconst 1, 1) := by decide +kernel
theorem dX6_succeeds_146 : decode cX6_succeeds 146 = .ok (.goto 4, 3) := by decide +kernel
theorem dX6_succeeds_149 : decode cX6_succeeds 149 = .ok (.iconst 0, 1) := by decide +kernel
theorem dX6_succeeds_150 : decode cX6_succeeds 150 = .ok (.ireturn, 1) := by decide +kernel
theorem dX6_succeeds_151 : decode cX6_succeeds 151 = .ok (.iload_n 2, 1) := by decide +kernel
theorem dX6_succeeds_152 : decode cX6_succeeds 152 = .ok (.sipush 10000, 3) := by decide +kernel
theorem dX6_succeeds_155 : decode cX6_succeeds 155 = .ok (.irem, 1) := by decide +kernel
theorem dX6_succeeds_156 : decode cX6_succeeds 156 = .ok (.ifCond .ne 15, 3) := by decide +kernel
theorem dX6_succeeds_159 : decode cX6_succeeds 159 = .ok (.aload_n 0, 1) := by decide +kernel
theorem dX6_succeeds_160 : decode cX6_succeeds 160 = .ok (.iload_n 3, 1) := by decide +kernel
theorem dX6_succeeds_161 : decode cX6_succeeds 161 = .ok (.invokevirtual 37, 3) := by decide +kernel
theorem dX6_succeeds_164 : decode cX6_succeeds 164 = .ok (.ifCond .eq 7, 3) := by decide +kernel
theorem dX6_succeeds_167 : decode cX6_succeeds 167 = .ok (.iconst 1, 1) := by decide +kernel
theorem dX6_succeeds_168 : decode cX6_succeeds 168 = .ok (.goto 4, 3) := by decide +kernel
theorem dX6_succeeds_171 : decode cX6_succeeds 171 = .ok (.iconst 0, 1) := by decide +kernel
theorem dX6_succeeds_172 : decode cX6_succeeds 172 = .ok (.ireturn, 1) := by decide +kernel
theorem dX6_succeeds_173 : decode cX6_succeeds 173 = .ok (.iload_n 2, 1) := by decide +kernel
theorem dX6_succeeds_174 : decode cX6_succeeds 174 = .ok (.ifCond .ne 11, 3) := by decide +kernel
theorem dX6_succeeds_177 : decode cX6_succeeds 177 = .ok (.aload_n 0, 1) := by decide +kernel
theorem dX6_succeeds_178 : decode cX6_succeeds 178 = .ok (.getfield 12, 3) := by decide +kernel
theorem dX6_succeeds_181 : decode cX6_succeeds 181 = .ok (.invokevirtual 40, 3) := by decide +kernel
theorem dX6_succeeds_184 : decode cX6_succeeds 184 = .ok (.pop, 1) := by decide +kernel
theorem dX6_succeeds_185 : decode cX6_succeeds 185 = .ok (.iload_n 2, 1) := by decide +kernel
theorem dX6_succeeds_186 : decode cX6_succeeds 186 = .ok (.ifCond .ne 7, 3) := by decide +kernel
theorem dX6_succeeds_189 : decode cX6_succeeds 189 = .ok (.iconst 1, 1) := by decide +kernel
theorem dX6_succeeds_190 : decode cX6_succeeds 190 = .ok (.goto 4, 3) := by decide +kernel
theorem dX6_succeeds_193 : decode cX6_succeeds 193 = .ok (.iconst 0, 1) := by decide +kernel
theorem dX6_succeeds_194 : decode cX6_succeeds 194 = .ok (.ireturn, 1) := by decide +kernel
theorem dX6_succeeds_195 : decode cX6_succeeds 195 = .ok (.iload_n 3, 1) := by decide +kernel
theorem dX6_succeeds_196 : decode cX6_succeeds 196 = .ok (.ifCond .ne 18, 3) := by decide +kernel
theorem dX6_succeeds_199 : decode cX6_succeeds 199 = .ok (.aload_n 0, 1) := by decide +kernel
theorem dX6_succeeds_200 : decode cX6_succeeds 200 = .ok (.getfield 12, 3) := by decide +kernel
theorem dX6_succeeds_203 : decode cX6_succeeds 203 = .ok (.invokevirtual 44, 3) := by decide +kernel
theorem dX6_succeeds_206 : decode cX6_succeeds 206 = .ok (.iload_n 2, 1) := by decide +kernel
theorem dX6_succeeds_207 : decode cX6_succeeds 207 = .ok (.if_icmp .gt 7, 3) := by decide +kernel
theorem dX6_succeeds_210 : decode cX6_succeeds 210 = .ok (.iconst 1, 1) := by decide +kernel
theorem dX6_succeeds_211 : decode cX6_succeeds 211 = .ok (.goto 4, 3) := by decide +kernel
theorem dX6_succeeds_214 : decode cX6_succeeds 214 = .ok (.iconst 0, 1) := by decide +kernel
theorem dX6_succeeds_215 : decode cX6_succeeds 215 = .ok (.ireturn, 1) := by decide +kernel
theorem dX6_succeeds_216 : decode cX6_succeeds 216 = .ok (.iload_n 2, 1) := by decide +kernel
theorem dX6_succeeds_217 : decode cX6_succeeds 217 = .ok (.sipush 1000, 3) := by decide +kernel
theorem dX6_succeeds_220 : decode cX6_succeeds 220 = .ok (.irem, 1) := by decide +kernel
theorem dX6_succeeds_221 : decode cX6_succeeds 221 = .ok (.ifCond .ne 37, 3) := by decide +kernel
theorem dX6_succeeds_224 : decode cX6_succeeds 224 = .ok (.aload_n 0, 1) := by decide +kernel
theorem dX6_succeeds_225 : decode cX6_succeeds 225 = .ok (.getfield 12, 3) := by decide +kernel
theorem dX6_succeeds_228 : decode cX6_succeeds 228 = .ok (.iload_n 3, 1) := by decide +kernel
theorem dX6_succeeds_229 : decode cX6_succeeds 229 = .ok (.invokevirtual 47, 3) := by decide +kernel
theorem dX6_succeeds_232 : decode cX6_succeeds 232 = .ok (.ifCond .eq 26, 3) := by decide +kernel
theorem dX6_succeeds_235 : decode cX6_succeeds 235 = .ok (.aload_n 0, 1) := by decide +kernel
theorem dX6_succeeds_236 : decode cX6_succeeds 236 = .ok (.getfield 12, 3) := by decide +kernel
theorem dX6_succeeds_239 : decode cX6_succeeds 239 = .ok (.iload_n 3, 1) := by decide +kernel
theorem dX6_succeeds_240 : decode cX6_succeeds 240 = .ok (.invokevirtual 50, 3) := by decide +kernel
theorem dX6_succeeds_243 : decode cX6_succeeds 243 = .ok (.iload_n 2, 1) := by decide +kernel
theorem dX6_succeeds_244 : decode cX6_succeeds 244 = .ok (.sipush 1000, 3) := by decide +kernel
theorem dX6_succeeds_247 : decode cX6_succeeds 247 = .ok (.idiv, 1) := by decide +kernel
theorem dX6_succeeds_248 : decode cX6_succeeds 248 = .ok (.bipush 10, 2) := by decide +kernel
theorem dX6_succeeds_250 : decode cX6_succeeds 250 = .ok (.irem, 1) := by decide +kernel
theorem dX6_succeeds_251 : decode cX6_succeeds 251 = .ok (.if_icmp .ne 7, 3) := by decide +kernel
theorem dX6_succeeds_254 : decode cX6_succeeds 254 = .ok (.iconst 1, 1) := by decide +kernel
theorem dX6_succeeds_255 : decode cX6_succeeds 255 = .ok (.goto 4, 3) := by decide +kernel
theorem dX6_succeeds_258 : decode cX6_succeeds 258 = .ok (.iconst 0, 1) := by decide +kernel
theorem dX6_succeeds_259 : decode cX6_succeeds 259 = .ok (.ireturn, 1) := by decide +kernel
theorem dX6_succeeds_260 : decode cX6_succeeds 260 = .ok (.iload_n 3, 1) := by decide +kernel
theorem dX6_succeeds_261 : decode cX6_succeeds 261 = .ok (.ifCond .ne 31, 3) := by decide +kernel
theorem dX6_succeeds_264 : decode cX6_succeeds 264 = .ok (.iload_n 2, 1) := by decide +kernel
theorem dX6_succeeds_265 : decode cX6_succeeds 265 = .ok (.bipush 10, 2) := by decide +kernel
theorem dX6_succeeds_267 : decode cX6_succeeds 267 = .ok (.irem, 1) := by decide +kernel
theorem dX6_succeeds_268 : decode cX6_succeeds 268 = .ok (.ifCond .ne 24, 3) := by decide +kernel
theorem dX6_succeeds_271 : decode cX6_succeeds 271 = .ok (.aload_n 0, 1) := by decide +kernel
theorem dX6_succeeds_272 : decode cX6_succeeds 272 = .ok (.getfield 12, 3) := by decide +kernel
theorem dX6_succeeds_275 : decode cX6_succeeds 275 = .ok (.iload_n 2, 1) := by decide +kernel
theorem dX6_succeeds_276 : decode cX6_succeeds 276 = .ok (.bipush 10, 2) := by decide +kernel
theorem dX6_succeeds_278 : decode cX6_succeeds 278 = .ok (.idiv, 1) := by decide +kernel
theorem dX6_succeeds_279 : decode cX6_succeeds 279 = .ok (.invokevirtual 54, 3) := by decide +kernel
theorem dX6_succeeds_282 : decode cX6_succeeds 282 = .ok (.sipush (-9999), 3) := by decide +kernel
theorem dX6_succeeds_285 : decode cX6_succeeds 285 = .ok (.if_icmp .eq 7, 3) := by decide +kernel
theorem dX6_succeeds_288 : decode cX6_succeeds 288 = .ok (.iconst 1, 1) := by decide +kernel
theorem dX6_succeeds_289 : decode cX6_succeeds 289 = .ok (.goto 4, 3) := by decide +kernel
theorem dX6_succeeds_292 : decode cX6_succeeds 292 = .ok (.iconst 0, 1) := by decide +kernel
theorem dX6_succeeds_293 : decode cX6_succeeds 293 = .ok (.ireturn, 1) := by decide +kernel
theorem dX6_succeeds_294 : decode cX6_succeeds 294 = .ok (.iconst 0, 1) := by decide +kernel
theorem dX6_succeeds_295 : decode cX6_succeeds 295 = .ok (.ireturn, 1) := by decide +kernel
theorem dX6_addsValue_0 : decode cX6_addsValue 0 = .ok (.iload_n 1, 1) := by decide +kernel
theorem dX6_addsValue_1 : decode cX6_addsValue 1 = .ok (.invokestatic 57, 3) := by decide +kernel
theorem dX6_addsValue_4 : decode cX6_addsValue 4 = .ok (.ifCond .eq 13, 3) := by decide +kernel
theorem dX6_addsValue_7 : decode cX6_addsValue 7 = .ok (.aload_n 0, 1) := by decide +kernel
theorem dX6_addsValue_8 : decode cX6_addsValue 8 = .ok (.getfield 12, 3) := by decide +kernel
theorem dX6_addsValue_11 : decode cX6_addsValue 11 = .ok (.invokevirtual 60, 3) := by decide +kernel
theorem dX6_addsValue_14 : decode cX6_addsValue 14 = .ok (.ifCond .ne 5, 3) := by decide +kernel
theorem dX6_addsValue_17 : decode cX6_addsValue 17 = .ok (.iconst 0, 1) := by decide +kernel
theorem dX6_addsValue_18 : decode cX6_addsValue 18 = .ok (.ireturn, 1) := by decide +kernel
theorem dX6_addsValue_19 : decode cX6_addsValue 19 = .ok (.aload_n 0, 1) := by decide +kernel
theorem dX6_addsValue_20 : decode cX6_addsValue 20 = .ok (.getfield 12, 3) := by decide +kernel
theorem dX6_addsValue_23 : decode cX6_addsValue 23 = .ok (.iload_n 1, 1) := by decide +kernel
theorem dX6_addsValue_24 : decode cX6_addsValue 24 = .ok (.invokevirtual 64, 3) := by decide +kernel
theorem dX6_addsValue_27 : decode cX6_addsValue 27 = .ok (.pop, 1) := by decide +kernel
theorem dX6_addsValue_28 : decode cX6_addsValue 28 = .ok (.iconst 1, 1) := by decide +kernel
theorem dX6_addsValue_29 : decode cX6_addsValue 29 = .ok (.ireturn, 1) := by decide +kernel
theorem dX6_putsValue_0 : decode cX6_putsValue 0 = .ok (.aload_n 0, 1) := by decide +kernel
theorem dX6_putsValue_1 : decode cX6_putsValue 1 = .ok (.getfield 12, 3) := by decide +kernel
theorem dX6_putsValue_4 : decode cX6_putsValue 4 = .ok (.iload_n 1, 1) := by decide +kernel
theorem dX6_putsValue_5 : decode cX6_putsValue 5 = .ok (.invokevirtual 67, 3) := by decide +kernel
theorem dX6_putsValue_8 : decode cX6_putsValue 8 = .ok (.ifCond .eq 10, 3) := by decide +kernel
theorem dX6_putsValue_11 : decode cX6_putsValue 11 = .ok (.iload_n 2, 1) := by decide +kernel
theorem dX6_putsValue_12 : decode cX6_putsValue 12 = .ok (.invokestatic 57, 3) := by decide +kernel
theorem dX6_putsValue_15 : decode cX6_putsValue 15 = .ok (.ifCond .ne 5, 3) := by decide +kernel
theorem dX6_putsValue_18 : decode cX6_putsValue 18 = .ok (.iconst 0, 1) := by decide +kernel
theorem dX6_putsValue_19 : decode cX6_putsValue 19 = .ok (.ireturn, 1) := by decide +kernel
theorem dX6_putsValue_20 : decode cX6_putsValue 20 = .ok (.aload_n 0, 1) := by decide +kernel
theorem dX6_putsValue_21 : decode cX6_putsValue 21 = .ok (.getfield 12, 3) := by decide +kernel
theorem dX6_putsValue_24 : decode cX6_putsValue 24 = .ok (.iload_n 1, 1) := by decide +kernel
theorem dX6_putsValue_25 : decode cX6_putsValue 25 = .ok (.iload_n 2, 1) := by decide +kernel
theorem dX6_putsValue_26 : decode cX6_putsValue 26 = .ok (.invokevirtual 70, 3) := by decide +kernel
theorem dX6_putsValue_29 : decode cX6_putsValue 29 = .ok (.pop, 1) := by decide +kernel
theorem dX6_putsValue_30 : decode cX6_putsValue 30 = .ok (.iconst 1, 1) := by decide +kernel
theorem dX6_putsValue_31 : decode cX6_putsValue 31 = .ok (.ireturn, 1) := by decide +kernel
theorem dX6_removesValue_0 : decode cX6_removesValue 0 = .ok (.aload_n 0, 1) := by decide +kernel
theorem dX6_removesValue_1 : decode cX6_removesValue 1 = .ok (.getfield 12, 3) := by decide +kernel
theorem dX6_removesValue_4 : decode cX6_removesValue 4 = .ok (.iload_n 1, 1) := by decide +kernel
theorem dX6_removesValue_5 : decode cX6_removesValue 5 = .ok (.invokevirtual 67, 3) := by decide +kernel
theorem dX6_removesValue_8 : decode cX6_removesValue 8 = .ok (.ifCond .ne 5, 3) := by decide +kernel
theorem dX6_removesValue_11 : decode cX6_removesValue 11 = .ok (.iconst 0, 1) := by decide +kernel
theorem dX6_removesValue_12 : decode cX6_removesValue 12 = .ok (.ireturn, 1) := by decide +kernel
theorem dX6_removesValue_13 : decode cX6_removesValue 13 = .ok (.aload_n 0, 1) := by decide +kernel
theorem dX6_removesValue_14 : decode cX6_removesValue 14 = .ok (.getfield 12, 3) := by decide +kernel
theorem dX6_removesValue_17 : decode cX6_removesValue 17 = .ok (.iload_n 1, 1) := by decide +kernel
theorem dX6_removesValue_18 : decode cX6_removesValue 18 = .ok (.invokevirtual 74, 3) := by decide +kernel
theorem dX6_removesValue_21 : decode cX6_removesValue 21 = .ok (.pop, 1) := by decide +kernel
theorem dX6_removesValue_22 : decode cX6_removesValue 22 = .ok (.iconst 1, 1) := by decide +kernel
theorem dX6_removesValue_23 : decode cX6_removesValue 23 = .ok (.ireturn, 1) := by decide +kernel
theorem dX6_cutsPage_0 : decode cX6_cutsPage 0 = .ok (.aload_n 0, 1) := by decide +kernel
theorem dX6_cutsPage_1 : decode cX6_cutsPage 1 = .ok (.getfield 12, 3) := by decide +kernel
theorem dX6_cutsPage_4 : decode cX6_cutsPage 4 = .ok (.iload_n 1, 1) := by decide +kernel
theorem dX6_cutsPage_5 : decode cX6_cutsPage 5 = .ok (.invokevirtual 47, 3) := by decide +kernel
theorem dX6_cutsPage_8 : decode cX6_cutsPage 8 = .ok (.ifCond .eq 25, 3) := by decide +kernel
theorem dX6_cutsPage_11 : decode cX6_cutsPage 11 = .ok (.aload_n 0, 1) := by decide +kernel
theorem dX6_cutsPage_12 : decode cX6_cutsPage 12 = .ok (.getfield 12, 3) := by decide +kernel
theorem dX6_cutsPage_15 : decode cX6_cutsPage 15 = .ok (.iload_n 1, 1) := by decide +kernel
theorem dX6_cutsPage_16 : decode cX6_cutsPage 16 = .ok (.iload_n 2, 1) := by decide +kernel
theorem dX6_cutsPage_17 : decode cX6_cutsPage 17 = .ok (.invokevirtual 77, 3) := by decide +kernel
theorem dX6_cutsPage_20 : decode cX6_cutsPage 20 = .ok (.ifCond .eq 13, 3) := by decide +kernel
theorem dX6_cutsPage_23 : decode cX6_cutsPage 23 = .ok (.aload_n 0, 1) := by decide +kernel
theorem dX6_cutsPage_24 : decode cX6_cutsPage 24 = .ok (.getfield 12, 3) := by decide +kernel
theorem dX6_cutsPage_27 : decode cX6_cutsPage 27 = .ok (.invokevirtual 80, 3) := by decide +kernel
theorem dX6_cutsPage_30 : decode cX6_cutsPage 30 = .ok (.ifCond .eq 5, 3) := by decide +kernel
theorem dX6_cutsPage_33 : decode cX6_cutsPage 33 = .ok (.iconst 0, 1) := by decide +kernel
theorem dX6_cutsPage_34 : decode cX6_cutsPage 34 = .ok (.ireturn, 1) := by decide +kernel
theorem dX6_cutsPage_35 : decode cX6_cutsPage 35 = .ok (.aload_n 0, 1) := by decide +kernel
theorem dX6_cutsPage_36 : decode cX6_cutsPage 36 = .ok (.getfield 12, 3) := by decide +kernel
theorem dX6_cutsPage_39 : decode cX6_cutsPage 39 = .ok (.iload_n 1, 1) := by decide +kernel
theorem dX6_cutsPage_40 : decode cX6_cutsPage 40 = .ok (.iload_n 2, 1) := by decide +kernel
theorem dX6_cutsPage_41 : decode cX6_cutsPage 41 = .ok (.invokevirtual 83, 3) := by decide +kernel
theorem dX6_cutsPage_44 : decode cX6_cutsPage 44 = .ok (.iconst 1, 1) := by decide +kernel
theorem dX6_cutsPage_45 : decode cX6_cutsPage 45 = .ok (.ireturn, 1) := by decide +kernel
theorem dX6_mergesPages_0 : decode cX6_mergesPages 0 = .ok (.aload_n 0, 1) := by decide +kernel
theorem dX6_mergesPages_1 : decode cX6_mergesPages 1 = .ok (.getfield 12, 3) := by decide +kernel
theorem dX6_mergesPages_4 : decode cX6_mergesPages 4 = .ok (.iload_n 1, 1) := by decide +kernel
theorem dX6_mergesPages_5 : decode cX6_mergesPages 5 = .ok (.invokevirtual 87, 3) := by decide +kernel
theorem dX6_mergesPages_8 : decode cX6_mergesPages 8 = .ok (.ifCond .ne 5, 3) := by decide +kernel
theorem dX6_mergesPages_11 : decode cX6_mergesPages 11 = .ok (.iconst 0, 1) := by decide +kernel
theorem dX6_mergesPages_12 : decode cX6_mergesPages 12 = .ok (.ireturn, 1) := by decide +kernel
theorem dX6_mergesPages_13 : decode cX6_mergesPages 13 = .ok (.aload_n 0, 1) := by decide +kernel
theorem dX6_mergesPages_14 : decode cX6_mergesPages 14 = .ok (.getfield 12, 3) := by decide +kernel
theorem dX6_mergesPages_17 : decode cX6_mergesPages 17 = .ok (.iload_n 1, 1) := by decide +kernel
theorem dX6_mergesPages_18 : decode cX6_mergesPages 18 = .ok (.invokevirtual 90, 3) := by decide +kernel
theorem dX6_mergesPages_21 : decode cX6_mergesPages 21 = .ok (.iconst 1, 1) := by decide +kernel
theorem dX6_mergesPages_22 : decode cX6_mergesPages 22 = .ok (.ireturn, 1) := by decide +kernel
theorem dX7_init_0 : decode cX7_init 0 = .ok (.aload_n 0, 1) := by decide +kernel
theorem dX7_init_1 : decode cX7_init 1 = .ok (.invokespecial 1, 3) := by decide +kernel
theorem dX7_init_4 : decode cX7_init 4 = .ok (.aload_n 0, 1) := by decide +kernel
theorem dX7_init_5 : decode cX7_init 5 = .ok (.iload_n 1, 1) := by decide +kernel
theorem dX7_init_6 : decode cX7_init 6 = .ok (.ifCond .le 7, 3) := by decide +kernel
theorem dX7_init_9 : decode cX7_init 9 = .ok (.iload_n 1, 1) := by decide +kernel
theorem dX7_init_10 : decode cX7_init 10 = .ok (.goto 4, 3) := by decide +kernel
theorem dX7_init_13 : decode cX7_init 13 = .ok (.iconst 0, 1) := by decide +kernel
theorem dX7_init_14 : decode cX7_init 14 = .ok (.anewarray 7, 3) := by decide +kernel
theorem dX7_init_17 : decode cX7_init 17 = .ok (.putfield 9, 3) := by decide +kernel
theorem dX7_init_20 : decode cX7_init 20 = .ok (.iconst 0, 1) := by decide +kernel
theorem dX7_init_21 : decode cX7_init 21 = .ok (.istore_n 2, 1) := by decide +kernel
theorem dX7_init_22 : decode cX7_init 22 = .ok (.iload_n 2, 1) := by decide +kernel
theorem dX7_init_23 : decode cX7_init 23 = .ok (.aload_n 0, 1) := by decide +kernel
theorem dX7_init_24 : decode cX7_init 24 = .ok (.getfield 9, 3) := by decide +kernel
theorem dX7_init_27 : decode cX7_init 27 = .ok (.arraylength, 1) := by decide +kernel
theorem dX7_init_28 : decode cX7_init 28 = .ok (.if_icmp .ge 22, 3) := by decide +kernel
theorem dX7_init_31 : decode cX7_init 31 = .ok (.aload_n 0, 1) := by decide +kernel
theorem dX7_init_32 : decode cX7_init 32 = .ok (.getfield 9, 3) := by decide +kernel
theorem dX7_init_35 : decode cX7_init 35 = .ok (.iload_n 2, 1) := by decide +kernel
theorem dX7_init_36 : decode cX7_init 36 = .ok (.new 7, 3) := by decide +kernel
theorem dX7_init_39 : decode cX7_init 39 = .ok (.dup, 1) := by decide +kernel
theorem dX7_init_40 : decode cX7_init 40 = .ok (.invokespecial 15, 3) := by decide +kernel
theorem dX7_init_43 : decode cX7_init 43 = .ok (.aastore, 1) := by decide +kernel
theorem dX7_init_44 : decode cX7_init 44 = .ok (.iinc 2 1, 3) := by decide +kernel
theorem dX7_init_47 : decode cX7_init 47 = .ok (.goto (-25), 3) := by decide +kernel
theorem dX7_init_50 : decode cX7_init 50 = .ok (.aload_n 0, 1) := by decide +kernel
theorem dX7_init_51 : decode cX7_init 51 = .ok (.new 16, 3) := by decide +kernel
theorem dX7_init_54 : decode cX7_init 54 = .ok (.dup, 1) := by decide +kernel
theorem dX7_init_55 : decode cX7_init 55 = .ok (.iload_n 1, 1) := by decide +kernel
theorem dX7_init_56 : decode cX7_init 56 = .ok (.invokespecial 18, 3) := by decide +kernel
theorem dX7_init_59 : decode cX7_init 59 = .ok (.putfield 21, 3) := by decide +kernel
theorem dX7_init_62 : decode cX7_init 62 = .ok (.return_, 1) := by decide +kernel
theorem dX7_isFilled_0 : decode cX7_isFilled 0 = .ok (.aload_n 0, 1) := by decide +kernel
theorem dX7_isFilled_1 : decode cX7_isFilled 1 = .ok (.getfield 21, 3) := by decide +kernel
theorem dX7_isFilled_4 : decode cX7_isFilled 4 = .ok (.iload_n 1, 1) := by decide +kernel
theorem dX7_isFilled_5 : decode cX7_isFilled 5 = .ok (.invokevirtual 25, 3) := by decide +kernel
theorem dX7_isFilled_8 : decode cX7_isFilled 8 = .ok (.iconst 1, 1) := by decide +kernel
theorem dX7_isFilled_9 : decode cX7_isFilled 9 = .ok (.if_icmp .ne 7, 3) := by decide +kernel
theorem dX7_isFilled_12 : decode cX7_isFilled 12 = .ok (.iconst 1, 1) := by decide +kernel
theorem dX7_isFilled_13 : decode cX7_isFilled 13 = .ok (.goto 4, 3) := by decide +kernel
theorem dX7_isFilled_16 : decode cX7_isFilled 16 = .ok (.iconst 0, 1) := by decide +kernel
theorem dX7_isFilled_17 : decode cX7_isFilled 17 = .ok (.ireturn, 1) := by decide +kernel
theorem dX7_store_0 : decode cX7_store 0 = .ok (.aload_n 0, 1) := by decide +kernel
theorem dX7_store_1 : decode cX7_store 1 = .ok (.iload_n 1, 1) := by decide +kernel
theorem dX7_store_2 : decode cX7_store 2 = .ok (.invokevirtual 29, 3) := by decide +kernel
theorem dX7_store_5 : decode cX7_store 5 = .ok (.astore_n 3, 1) := by decide +kernel
theorem dX7_store_6 : decode cX7_store 6 = .ok (.aload_n 3, 1) := by decide +kernel
theorem dX7_store_7 : decode cX7_store 7 = .ok (.ifnull 17, 3) := by decide +kernel
theorem dX7_store_10 : decode cX7_store 10 = .ok (.aload_n 3, 1) := by decide +kernel
theorem dX7_store_11 : decode cX7_store 11 = .ok (.aload_n 2, 1) := by decide +kernel
theorem dX7_store_12 : decode cX7_store 12 = .ok (.invokevirtual 33, 3) := by decide +kernel
theorem dX7_store_15 : decode cX7_store 15 = .ok (.aload_n 0, 1) := by decide +kernel
theorem dX7_store_16 : decode cX7_store 16 = .ok (.getfield 21, 3) := by decide +kernel
theorem dX7_store_19 : decode cX7_store 19 = .ok (.iload_n 1, 1) := by decide +kernel
theorem dX7_store_20 : decode cX7_store 20 = .ok (.iconst 1, 1) := by decide +kernel
theorem dX7_store_21 : decode cX7_store 21 = .ok (.invokevirtual 37, 3) := by decide +kernel
theorem dX7_store_24 : decode cX7_store 24 = .ok (.return_, 1) := by decide +kernel
theorem dX7_fetch_0 : decode cX7_fetch 0 = .ok (.aload_n 0, 1) := by decide +kernel
theorem dX7_fetch_1 : decode cX7_fetch 1 = .ok (.iload_n 1, 1) := by decide +kernel
theorem dX7_fetch_2 : decode cX7_fetch 2 = .ok (.invokevirtual 29, 3) := by decide +kernel
theorem dX7_fetch_5 : decode cX7_fetch 5 = .ok (.astore_n 3, 1) := by decide +kernel
theorem dX7_fetch_6 : decode cX7_fetch 6 = .ok (.aload_n 3, 1) := by decide +kernel
theorem dX7_fetch_7 : decode cX7_fetch 7 = .ok (.ifnull 8, 3) := by decide +kernel
theorem dX7_fetch_10 : decode cX7_fetch 10 = .ok (.aload_n 2, 1) := by decide +kernel
theorem dX7_fetch_11 : decode cX7_fetch 11 = .ok (.aload_n 3, 1) := by decide +kernel
theorem dX7_fetch_12 : decode cX7_fetch 12 = .ok (.invokevirtual 33, 3) := by decide +kernel
theorem dX7_fetch_15 : decode cX7_fetch 15 = .ok (.return_, 1) := by decide +kernel
theorem dX7_columnAt_0 : decode cX7_columnAt 0 = .ok (.iload_n 1, 1) := by decide +kernel
theorem dX7_columnAt_1 : decode cX7_columnAt 1 = .ok (.ifCond .lt 21, 3) := by decide +kernel
theorem dX7_columnAt_4 : decode cX7_columnAt 4 = .ok (.iload_n 1, 1) := by decide +kernel
theorem dX7_columnAt_5 : decode cX7_columnAt 5 = .ok (.aload_n 0, 1) := by decide +kernel
theorem dX7_columnAt_6 : decode cX7_columnAt 6 = .ok (.getfield 9, 3) := by decide +kernel
theorem dX7_columnAt_9 : decode cX7_columnAt 9 = .ok (.arraylength, 1) := by decide +kernel
theorem dX7_columnAt_10 : decode cX7_columnAt 10 = .ok (.if_icmp .ge 12, 3) := by decide +kernel
theorem dX7_columnAt_13 : decode cX7_columnAt 13 = .ok (.aload_n 0, 1) := by decide +kernel
theorem dX7_columnAt_14 : decode cX7_columnAt 14 = .ok (.getfield 9, 3) := by decide +kernel
theorem dX7_columnAt_17 : decode cX7_columnAt 17 = .ok (.iload_n 1, 1) := by decide +kernel
theorem dX7_columnAt_18 : decode cX7_columnAt 18 = .ok (.aaload, 1) := by decide +kernel
theorem dX7_columnAt_19 : decode cX7_columnAt 19 = .ok (.goto 4, 3) := by decide +kernel
theorem dX7_columnAt_22 : decode cX7_columnAt 22 = .ok (.aconst_null, 1) := by decide +kernel
theorem dX7_columnAt_23 : decode cX7_columnAt 23 = .ok (.areturn, 1) := by decide +kernel
theorem dX8_init_0 : decode cX8_init 0 = .ok (.aload_n 0, 1) := by decide +kernel
theorem dX8_init_1 : decode cX8_init 1 = .ok (.invokespecial 1, 3) := by decide +kernel
theorem dX8_init_4 : decode cX8_init 4 = .ok (.aload_n 0, 1) := by decide +kernel
theorem dX8_init_5 : decode cX8_init 5 = .ok (.new 7, 3) := by decide +kernel
theorem dX8_init_8 : decode cX8_init 8 = .ok (.dup, 1) := by decide +kernel
theorem dX8_init_9 : decode cX8_init 9 = .ok (.invokespecial 9, 3) := by decide +kernel
theorem dX8_init_12 : decode cX8_init 12 = .ok (.putfield 10, 3) := by decide +kernel
theorem dX8_init_15 : decode cX8_init 15 = .ok (.aload_n 0, 1) := by decide +kernel
theorem dX8_init_16 : decode cX8_init 16 = .ok (.new 16, 3) := by decide +kernel
theorem dX8_init_19 : decode cX8_init 19 = .ok (.dup, 1) := by decide +kernel
theorem dX8_init_20 : decode cX8_init 20 = .ok (.invokespecial 18, 3) := by decide +kernel
theorem dX8_init_23 : decode cX8_init 23 = .ok (.putfield 19, 3) := by decide +kernel
theorem dX8_init_26 : decode cX8_init 26 = .ok (.aload_n 0, 1) := by decide +kernel
theorem dX8_init_27 : decode cX8_init 27 = .ok (.new 23, 3) := by decide +kernel
theorem dX8_init_30 : decode cX8_init 30 = .ok (.dup, 1) := by decide +kernel
theorem dX8_init_31 : decode cX8_init 31 = .ok (.invokespecial 25, 3) := by decide +kernel
theorem dX8_init_34 : decode cX8_init 34 = .ok (.putfield 26, 3) := by decide +kernel
theorem dX8_init_37 : decode cX8_init 37 = .ok (.aload_n 0, 1) := by decide +kernel
theorem dX8_init_38 : decode cX8_init 38 = .ok (.new 30, 3) := by decide +kernel
theorem dX8_init_41 : decode cX8_init 41 = .ok (.dup, 1) := by decide +kernel
theorem dX8_init_42 : decode cX8_init 42 = .ok (.invokespecial 32, 3) := by decide +kernel
theorem dX8_init_45 : decode cX8_init 45 = .ok (.putfield 33, 3) := by decide +kernel
theorem dX8_init_48 : decode cX8_init 48 = .ok (.aload_n 0, 1) := by decide +kernel
theorem dX8_init_49 : decode cX8_init 49 = .ok (.new 37, 3) := by decide +kernel
theorem dX8_init_52 : decode cX8_init 52 = .ok (.dup, 1) := by decide +kernel
theorem dX8_init_53 : decode cX8_init 53 = .ok (.iconst 2, 1) := by decide +kernel
theorem dX8_init_54 : decode cX8_init 54 = .ok (.invokespecial 39, 3) := by decide +kernel
theorem dX8_init_57 : decode cX8_init 57 = .ok (.putfield 42, 3) := by decide +kernel
theorem dX8_init_60 : decode cX8_init 60 = .ok (.aload_n 0, 1) := by decide +kernel
theorem dX8_init_61 : decode cX8_init 61 = .ok (.new 7, 3) := by decide +kernel
theorem dX8_init_64 : decode cX8_init 64 = .ok (.dup, 1) := by decide +kernel
theorem dX8_init_65 : decode cX8_init 65 = .ok (.invokespecial 9, 3) := by decide +kernel
theorem dX8_init_68 : decode cX8_init 68 = .ok (.putfield 46, 3) := by decide +kernel
theorem dX8_init_71 : decode cX8_init 71 = .ok (.aload_n 0, 1) := by decide +kernel
theorem dX8_init_72 : decode cX8_init 72 = .ok (.new 49, 3) := by decide +kernel
theorem dX8_init_75 : decode cX8_init 75 = .ok (.dup, 1) := by decide +kernel
theorem dX8_init_76 : decode cX8_init 76 = .ok (.invokespecial 51, 3) := by decide +kernel
theorem dX8_init_79 : decode cX8_init 79 = .ok (.putfield 52, 3) := by decide +kernel
theorem dX8_init_82 : decode cX8_init 82 = .ok (.aload_n 0, 1) := by decide +kernel
theorem dX8_init_83 : decode cX8_init 83 = .ok (.new 56, 3) := by decide +kernel
theorem dX8_init_86 : decode cX8_init 86 = .ok (.dup, 1) := by decide +kernel
theorem dX8_init_87 : decode cX8_init 87 = .ok (.invokespecial 58, 3) := by decide +kernel
theorem dX8_init_90 : decode cX8_init 90 = .ok (.putfield 59, 3) := by decide +kernel
theorem dX8_init_93 : decode cX8_init 93 = .ok (.aload_n 0, 1) := by decide +kernel
theorem dX8_init_94 : decode cX8_init 94 = .ok (.new 63, 3) := by decide +kernel
theorem dX8_init_97 : decode cX8_init 97 = .ok (.dup, 1) := by decide +kernel
theorem dX8_init_98 : decode cX8_init 98 = .ok (.bipush 121, 2) := by decide +kernel
theorem dX8_init_100 : decode cX8_init 100 = .ok (.invokespecial 65, 3) := by decide +kernel
theorem dX8_init_103 : decode cX8_init 103 = .ok (.putfield 66, 3) := by decide +kernel
theorem dX8_init_106 : decode cX8_init 106 = .ok (.aload_n 0, 1) := by decide +kernel
theorem dX8_init_107 : decode cX8_init 107 = .ok (.new 63, 3) := by decide +kernel
theorem dX8_init_110 : decode cX8_init 110 = .ok (.dup, 1) := by decide +kernel
theorem dX8_init_111 : decode cX8_init 111 = .ok (.iconst 3, 1) := by decide +kernel
theorem dX8_init_112 : decode cX8_init 112 = .ok (.invokespecial 65, 3) := by decide +kernel
theorem dX8_init_115 : decode cX8_init 115 = .ok (.putfield 70, 3) := by decide +kernel
theorem dX8_init_118 : decode cX8_init 118 = .ok (.return_, 1) := by decide +kernel
theorem dX8_append_0 : decode cX8_append 0 = .ok (.iload_n 1, 1) := by decide +kernel
theorem dX8_append_1 : decode cX8_append 1 = .ok (.ifCond .lt 10, 3) := by decide +kernel
theorem dX8_append_4 : decode cX8_append 4 = .ok (.iload_n 1, 1) := by decide +kernel
theorem dX8_append_5 : decode cX8_append 5 = .ok (.sipush 255, 3) := by decide +kernel
theorem dX8_append_8 : decode cX8_append 8 = .ok (.if_icmp .le 13, 3) := by decide +kernel
theorem dX8_append_11 : decode cX8_append 11 = .ok (.new 73, 3) := by decide +kernel
theorem dX8_append_14 : decode cX8_append 14 = .ok (.dup, 1) := by decide +kernel
theorem dX8_append_15 : decode cX8_append 15 = .ok (.ldc 75, 2) := by decide +kernel
theorem dX8_append_17 : decode cX8_append 17 = .ok (.invokespecial 77, 3) := by decide +kernel
theorem dX8_append_20 : decode cX8_append 20 = .ok (.athrow, 1) := by decide +kernel
theorem dX8_append_21 : decode cX8_append 21 = .ok (.aload_n 0, 1) := by decide +kernel
theorem dX8_append_22 : decode cX8_append 22 = .ok (.getfield 19, 3) := by decide +kernel
theorem dX8_append_25 : decode cX8_append 25 = .ok (.invokevirtual 80, 3) := by decide +kernel
theorem dX8_append_28 : decode cX8_append 28 = .ok (.ifCond .eq 13, 3) := by decide +kernel
theorem dX8_append_31 : decode cX8_append 31 = .ok (.new 84, 3) := by decide +kernel
theorem dX8_append_34 : decode cX8_append 34 = .ok (.dup, 1) := by decide +kernel
theorem dX8_append_35 : decode cX8_append 35 = .ok (.ldc 86, 2) := by decide +kernel
theorem dX8_append_37 : decode cX8_append 37 = .ok (.invokespecial 88, 3) := by decide +kernel
theorem dX8_append_40 : decode cX8_append 40 = .ok (.athrow, 1) := by decide +kernel
theorem dX8_append_41 : decode cX8_append 41 = .ok (.aload_n 0, 1) := by decide +kernel
theorem dX8_append_42 : decode cX8_append 42 = .ok (.getfield 19, 3) := by decide +kernel
theorem dX8_append_45 : decode cX8_append 45 = .ok (.iload_n 1, 1) := by decide +kernel
theorem dX8_append_46 : decode cX8_append 46 = .ok (.invokevirtual 89, 3) := by decide +kernel
theorem dX8_append_49 : decode cX8_append 49 = .ok (.ireturn, 1) := by decide +kernel
theorem dX8_clearText_0 : decode cX8_clearText 0 = .ok (.aload_n 0, 1) := by decide +kernel
theorem dX8_clearText_1 : decode cX8_clearText 1 = .ok (.getfield 19, 3) := by decide +kernel
theorem dX8_clearText_4 : decode cX8_clearText 4 = .ok (.invokevirtual 93, 3) := by decide +kernel
theorem dX8_clearText_7 : decode cX8_clearText 7 = .ok (.ireturn, 1) := by decide +kernel
theorem dX8_errorPosition_0 : decode cX8_errorPosition 0 = .ok (.aload_n 0, 1) := by decide +kernel
theorem dX8_errorPosition_1 : decode cX8_errorPosition 1 = .ok (.getfield 19, 3) := by decide +kernel
theorem dX8_errorPosition_4 : decode cX8_errorPosition 4 = .ok (.invokevirtual 97, 3) := by decide +kernel
theorem dX8_errorPosition_7 : decode cX8_errorPosition 7 = .ok (.ireturn, 1) := by decide +kernel
theorem dX8_about_0 : decode cX8_about 0 = .ok (.iload_n 1, 1) := by decide +kernel
theorem dX8_about_1 : decode cX8_about 1 = .ok (.tableswitch 126 0 8 #[51, 59, 67, 75, 83, 94, 102, 110, 118], 51) := by decide +kernel
theorem dX8_about_52 : decode cX8_about 52 = .ok (.aload_n 0, 1) := by decide +kernel
theorem dX8_about_53 : decode cX8_about 53 = .ok (.getfield 10, 3) := by decide +kernel
theorem dX8_about_56 : decode cX8_about 56 = .ok (.getfield 100, 3) := by decide +kernel
theorem dX8_about_59 : decode cX8_about 59 = .ok (.ireturn, 1) := by decide +kernel
theorem dX8_about_60 : decode cX8_about 60 = .ok (.aload_n 0, 1) := by decide +kernel
theorem dX8_about_61 : decode cX8_about 61 = .ok (.getfield 10, 3) := by decide +kernel
theorem dX8_about_64 : decode cX8_about 64 = .ok (.getfield 104, 3) := by decide +kernel
theorem dX8_about_67 : decode cX8_about 67 = .ok (.ireturn, 1) := by decide +kernel
theorem dX8_about_68 : decode cX8_about 68 = .ok (.aload_n 0, 1) := by decide +kernel
theorem dX8_about_69 : decode cX8_about 69 = .ok (.getfield 10, 3) := by decide +kernel
theorem dX8_about_72 : decode cX8_about 72 = .ok (.getfield 107, 3) := by decide +kernel
theorem dX8_about_75 : decode cX8_about 75 = .ok (.ireturn, 1) := by decide +kernel
theorem dX8_about_76 : decode cX8_about 76 = .ok (.aload_n 0, 1) := by decide +kernel
theorem dX8_about_77 : decode cX8_about 77 = .ok (.getfield 10, 3) := by decide +kernel
theorem dX8_about_80 : decode cX8_about 80 = .ok (.invokevirtual 110, 3) := by decide +kernel
theorem dX8_about_83 : decode cX8_about 83 = .ok (.ireturn, 1) := by decide +kernel
theorem dX8_about_84 : decode cX8_about 84 = .ok (.bipush 10, 2) := by decide +kernel
theorem dX8_about_86 : decode cX8_about 86 = .ok (.aload_n 0, 1) := by decide +kernel
theorem dX8_about_87 : decode cX8_about 87 = .ok (.getfield 10, 3) := by decide +kernel
theorem dX8_about_90 : decode cX8_about 90 = .ok (.getfield 100, 3) := by decide +kernel
theorem dX8_about_93 : decode cX8_about 93 = .ok (.imul, 1) := by decide +kernel
theorem dX8_about_94 : decode cX8_about 94 = .ok (.ireturn, 1) := by decide +kernel
theorem dX8_about_95 : decode cX8_about 95 = .ok (.aload_n 0, 1) := by decide +kernel
theorem dX8_about_96 : decode cX8_about 96 = .ok (.getfield 10, 3) := by decide +kernel
theorem dX8_about_99 : decode cX8_about 99 = .ok (.invokevirtual 113, 3) := by decide +kernel
theorem dX8_about_102 : decode cX8_about 102 = .ok (.ireturn, 1) := by decide +kernel
theorem dX8_about_103 : decode cX8_about 103 = .ok (.aload_n 0, 1) := by decide +kernel
theorem dX8_about_104 : decode cX8_about 104 = .ok (.getfield 10, 3) := by decide +kernel
theorem dX8_about_107 : decode cX8_about 107 = .ok (.invokevirtual 116, 3) := by decide +kernel
theorem dX8_about_110 : decode cX8_about 110 = .ok (.ireturn, 1) := by decide +kernel
theorem dX8_about_111 : decode cX8_about 111 = .ok (.aload_n 0, 1) := by decide +kernel
theorem dX8_about_112 : decode cX8_about 112 = .ok (.getfield 10, 3) := by decide +kernel
theorem dX8_about_115 : decode cX8_about 115 = .ok (.invokevirtual 119, 3) := by decide +kernel
theorem dX8_about_118 : decode cX8_about 118 = .ok (.ireturn, 1) := by decide +kernel
theorem dX8_about_119 : decode cX8_about 119 = .ok (.aload_n 0, 1) := by decide +kernel
theorem dX8_about_120 : decode cX8_about 120 = .ok (.getfield 10, 3) := by decide +kernel
theorem dX8_about_123 : decode cX8_about 123 = .ok (.invokevirtual 122, 3) := by decide +kernel
theorem dX8_about_126 : decode cX8_about 126 = .ok (.ireturn, 1) := by decide +kernel
theorem dX8_about_127 : decode cX8_about 127 = .ok (.new 73, 3) := by decide +kernel
theorem dX8_about_130 : decode cX8_about 130 = .ok (.dup, 1) := by decide +kernel
theorem dX8_about_131 : decode cX8_about 131 = .ok (.ldc 125, 2) := by decide +kernel
theorem dX8_about_133 : decode cX8_about 133 = .ok (.invokespecial 77, 3) := by decide +kernel
theorem dX8_about_136 : decode cX8_about 136 = .ok (.athrow, 1) := by decide +kernel
theorem dX8_at_0 : decode cX8_at 0 = .ok (.aload_n 0, 1) := by decide +kernel
theorem dX8_at_1 : decode cX8_at 1 = .ok (.getfield 10, 3) := by decide +kernel
theorem dX8_at_4 : decode cX8_at 4 = .ok (.iload_n 1, 1) := by decide +kernel
theorem dX8_at_5 : decode cX8_at 5 = .ok (.invokevirtual 127, 3) := by decide +kernel
theorem dX8_at_8 : decode cX8_at 8 = .ok (.ifCond .ne 13, 3) := by decide +kernel
theorem dX8_at_11 : decode cX8_at 11 = .ok (.new 131, 3) := by decide +kernel
theorem dX8_at_14 : decode cX8_at 14 = .ok (.dup, 1) := by decide +kernel
theorem dX8_at_15 : decode cX8_at 15 = .ok (.ldc 133, 2) := by decide +kernel
theorem dX8_at_17 : decode cX8_at 17 = .ok (.invokespecial 135, 3) := by decide +kernel
theorem dX8_at_20 : decode cX8_at 20 = .ok (.athrow, 1) := by decide +kernel
theorem dX8_at_21 : decode cX8_at 21 = .ok (.aload_n 0, 1) := by decide +kernel
theorem dX8_at_22 : decode cX8_at 22 = .ok (.getfield 10, 3) := by decide +kernel
theorem dX8_at_25 : decode cX8_at 25 = .ok (.iload_n 1, 1) := by decide +kernel
theorem dX8_at_26 : decode cX8_at 26 = .ok (.invokevirtual 136, 3) := by decide +kernel
theorem dX8_at_29 : decode cX8_at 29 = .ok (.ireturn, 1) := by decide +kernel
theorem dX8_page_0 : decode cX8_page 0 = .ok (.aload_n 0, 1) := by decide +kernel
theorem dX8_page_1 : decode cX8_page 1 = .ok (.getfield 10, 3) := by decide +kernel
theorem dX8_page_4 : decode cX8_page 4 = .ok (.iload_n 1, 1) := by decide +kernel
theorem dX8_page_5 : decode cX8_page 5 = .ok (.invokevirtual 139, 3) := by decide +kernel
theorem dX8_page_8 : decode cX8_page 8 = .ok (.ifCond .ne 13, 3) := by decide +kernel
theorem dX8_page_11 : decode cX8_page 11 = .ok (.new 131, 3) := by decide +kernel
theorem dX8_page_14 : decode cX8_page 14 = .ok (.dup, 1) := by decide +kernel
theorem dX8_page_15 : decode cX8_page 15 = .ok (.ldc 142, 2) := by decide +kernel
theorem dX8_page_17 : decode cX8_page 17 = .ok (.invokespecial 135, 3) := by decide +kernel
theorem dX8_page_20 : decode cX8_page 20 = .ok (.athrow, 1) := by decide +kernel
theorem dX8_page_21 : decode cX8_page 21 = .ok (.iload_n 2, 1) := by decide +kernel
theorem dX8_page_22 : decode cX8_page 22 = .ok (.ifCond .lt 9, 3) := by decide +kernel
theorem dX8_page_25 : decode cX8_page 25 = .ok (.iload_n 2, 1) := by decide +kernel
theorem dX8_page_26 : decode cX8_page 26 = .ok (.bipush 8, 2) := by decide +kernel
theorem dX8_page_28 : decode cX8_page 28 = .ok (.if_icmp .le 13, 3) := by decide +kernel
theorem dX8_page_31 : decode cX8_page 31 = .ok (.new 73, 3) := by decide +kernel
theorem dX8_page_34 : decode cX8_page 34 = .ok (.dup, 1) := by decide +kernel
theorem dX8_page_35 : decode cX8_page 35 = .ok (.ldc 125, 2) := by decide +kernel
theorem dX8_page_37 : decode cX8_page 37 = .ok (.invokespecial 77, 3) := by decide +kernel
theorem dX8_page_40 : decode cX8_page 40 = .ok (.athrow, 1) := by decide +kernel
theorem dX8_page_41 : decode cX8_page 41 = .ok (.aload_n 0, 1) := by decide +kernel
theorem dX8_page_42 : decode cX8_page 42 = .ok (.getfield 10, 3) := by decide +kernel
theorem dX8_page_45 : decode cX8_page 45 = .ok (.iload_n 1, 1) := by decide +kernel
theorem dX8_page_46 : decode cX8_page 46 = .ok (.invokevirtual 144, 3) := by decide +kernel
theorem dX8_page_49 : decode cX8_page 49 = .ok (.astore_n 3, 1) := by decide +kernel
theorem dX8_page_50 : decode cX8_page 50 = .ok (.iload_n 2, 1) := by decide +kernel
theorem dX8_page_51 : decode cX8_page 51 = .ok (.tableswitch 105 0 7 #[45, 54, 59, 72, 85, 90, 95, 100], 45) := by decide +kernel
theorem dX8_page_96 : decode cX8_page 96 = .ok (.aload_n 0, 1) := by decide +kernel
theorem dX8_page_97 : decode cX8_page 97 = .ok (.getfield 10, 3) := by decide +kernel
theorem dX8_page_100 : decode cX8_page 100 = .ok (.iload_n 1, 1) := by decide +kernel
theorem dX8_page_101 : decode cX8_page 101 = .ok (.invokevirtual 148, 3) := by decide +kernel
theorem dX8_page_104 : decode cX8_page 104 = .ok (.ireturn, 1) := by decide +kernel
theorem dX8_page_105 : decode cX8_page 105 = .ok (.aload_n 3, 1) := by decide +kernel
theorem dX8_page_106 : decode cX8_page 106 = .ok (.getfield 151, 3) := by decide +kernel
theorem dX8_page_109 : decode cX8_page 109 = .ok (.ireturn, 1) := by decide +kernel
theorem dX8_page_110 : decode cX8_page 110 = .ok (.aload_n 3, 1) := by decide +kernel
theorem dX8_page_111 : decode cX8_page 111 = .ok (.aload_n 0, 1) := by decide +kernel
theorem dX8_page_112 : decode cX8_page 112 = .ok (.getfield 10, 3) := by decide +kernel
theorem dX8_page_115 : decode cX8_page 115 = .ok (.iload_n 1, 1) := by decide +kernel
theorem dX8_page_116 : decode cX8_page 116 = .ok (.invokevirtual 154, 3) := by decide +kernel
theorem dX8_page_119 : decode cX8_page 119 = .ok (.invokevirtual 157, 3) := by decide +kernel
theorem dX8_page_122 : decode cX8_page 122 = .ok (.ireturn, 1) := by decide +kernel
theorem dX8_page_123 : decode cX8_page 123 = .ok (.aload_n 3, 1) := by decide +kernel
theorem dX8_page_124 : decode cX8_page 124 = .ok (.aload_n 0, 1) := by decide +kernel
theorem dX8_page_125 : decode cX8_page 125 = .ok (.getfield 10, 3) := by decide +kernel
theorem dX8_page_128 : decode cX8_page 128 = .ok (.iload_n 1, 1) := by decide +kernel
theorem dX8_page_129 : decode cX8_page 129 = .ok (.invokevirtual 154, 3) := by decide +kernel
theorem dX8_page_132 : decode cX8_page 132 = .ok (.invokevirtual 160, 3) := by decide +kernel
theorem dX8_page_135 : decode cX8_page 135 = .ok (.ireturn, 1) := by decide +kernel
theorem dX8_page_136 : decode cX8_page 136 = .ok (.aload_n 3, 1) := by decide +kernel
theorem dX8_page_137 : decode cX8_page 137 = .ok (.getfield 163, 3) := by decide +kernel
theorem dX8_page_140 : decode cX8_page 140 = .ok (.ireturn, 1) := by decide +kernel
theorem dX8_page_141 : decode cX8_page 141 = .ok (.aload_n 3, 1) := by decide +kernel
theorem dX8_page_142 : decode cX8_page 142 = .ok (.getfield 166, 3) := by decide +kernel
theorem dX8_page_145 : decode cX8_page 145 = .ok (.ireturn, 1) := by decide +kernel
theorem dX8_page_146 : decode cX8_page 146 = .ok (.aload_n 3, 1) := by decide +kernel
theorem dX8_page_147 : decode cX8_page 147 = .ok (.getfield 169, 3) := by decide +kernel
theorem dX8_page_150 : decode cX8_page 150 = .ok (.ireturn, 1) := by decide +kernel
theorem dX8_page_151 : decode cX8_page 151 = .ok (.aload_n 3, 1) := by decide +kernel
theorem dX8_page_152 : decode cX8_page 152 = .ok (.getfield 172, 3) := by decide +kernel
theorem dX8_page_155 : decode cX8_page 155 = .ok (.ireturn, 1) := by decide +kernel
theorem dX8_page_156 : decode cX8_page 156 = .ok (.aload_n 0, 1) := by decide +kernel
theorem dX8_page_157 : decode cX8_page 157 = .ok (.getfield 10, 3) := by decide +kernel
theorem dX8_page_160 : decode cX8_page 160 = .ok (.iload_n 1, 1) := by decide +kernel
theorem dX8_page_161 : decode cX8_page 161 = .ok (.invokevirtual 154, 3) := by decide +kernel
theorem dX8_page_164 : decode cX8_page 164 = .ok (.ireturn, 1) := by decide +kernel
theorem dX8_bit_0 : decode cX8_bit 0 = .ok (.aload_n 0, 1) := by decide +kernel
theorem dX8_bit_1 : decode cX8_bit 1 = .ok (.getfield 10, 3) := by decide +kernel
theorem dX8_bit_4 : decode cX8_bit 4 = .ok (.iload_n 1, 1) := by decide +kernel
theorem dX8_bit_5 : decode cX8_bit 5 = .ok (.invokevirtual 139, 3) := by decide +kernel
theorem dX8_bit_8 : decode cX8_bit 8 = .ok (.ifCond .ne 13, 3) := by decide +kernel
theorem dX8_bit_11 : decode cX8_bit 11 = .ok (.new 131, 3) := by decide +kernel
theorem dX8_bit_14 : decode cX8_bit 14 = .ok (.dup, 1) := by decide +kernel
theorem dX8_bit_15 : decode cX8_bit 15 = .ok (.ldc 142, 2) := by decide +kernel
theorem dX8_bit_17 : decode cX8_bit 17 = .ok (.invokespecial 135, 3) := by decide +kernel
theorem dX8_bit_20 : decode cX8_bit 20 = .ok (.athrow, 1) := by decide +kernel
theorem dX8_bit_21 : decode cX8_bit 21 = .ok (.iload_n 2, 1) := by decide +kernel
theorem dX8_bit_22 : decode cX8_bit 22 = .ok (.ifCond .ge 13, 3) := by decide +kernel
theorem dX8_bit_25 : decode cX8_bit 25 = .ok (.new 73, 3) := by decide +kernel
theorem dX8_bit_28 : decode cX8_bit 28 = .ok (.dup, 1) := by decide +kernel
theorem dX8_bit_29 : decode cX8_bit 29 = .ok (.ldc 175, 2) := by decide +kernel
theorem dX8_bit_31 : decode cX8_bit 31 = .ok (.invokespecial 77, 3) := by decide +kernel
theorem dX8_bit_34 : decode cX8_bit 34 = .ok (.athrow, 1) := by decide +kernel
theorem dX8_bit_35 : decode cX8_bit 35 = .ok (.aload_n 0, 1) := by decide +kernel
theorem dX8_bit_36 : decode cX8_bit 36 = .ok (.getfield 26, 3) := by decide +kernel
theorem dX8_bit_39 : decode cX8_bit 39 = .ok (.aload_n 0, 1) := by decide +kernel
theorem dX8_bit_40 : decode cX8_bit 40 = .ok (.getfield 10, 3) := by decide +kernel
theorem dX8_bit_43 : decode cX8_bit 43 = .ok (.iload_n 1, 1) := by decide +kernel
theorem dX8_bit_44 : decode cX8_bit 44 = .ok (.invokevirtual 177, 3) := by decide +kernel
theorem dX8_bit_47 : decode cX8_bit 47 = .ok (.iload_n 2, 1) := by decide +kernel
theorem dX8_bit_48 : decode cX8_bit 48 = .ok (.aload_n 0, 1) := by decide +kernel
theorem dX8_bit_49 : decode cX8_bit 49 = .ok (.getfield 26, 3) := by decide +kernel
theorem dX8_bit_52 : decode cX8_bit 52 = .ok (.getfield 181, 3) := by decide +kernel
theorem dX8_bit_55 : decode cX8_bit 55 = .ok (.if_icmp .ge 17, 3) := by decide +kernel
theorem dX8_bit_58 : decode cX8_bit 58 = .ok (.aload_n 0, 1) := by decide +kernel
theorem dX8_bit_59 : decode cX8_bit 59 = .ok (.getfield 26, 3) := by decide +kernel
theorem dX8_bit_62 : decode cX8_bit 62 = .ok (.getfield 184, 3) := by decide +kernel
theorem dX8_bit_65 : decode cX8_bit 65 = .ok (.iload_n 2, 1) := by decide +kernel
theorem dX8_bit_66 : decode cX8_bit 66 = .ok (.invokevirtual 187, 3) := by decide +kernel
theorem dX8_bit_69 : decode cX8_bit 69 = .ok (.goto 6, 3) := by decide +kernel
theorem dX8_bit_72 : decode cX8_bit 72 = .ok (.sipush (-9999), 3) := by decide +kernel
theorem dX8_bit_75 : decode cX8_bit 75 = .ok (.ireturn, 1) := by decide +kernel
theorem dX8_size_0 : decode cX8_size 0 = .ok (.aload_n 0, 1) := by decide +kernel
theorem dX8_size_1 : decode cX8_size 1 = .ok (.getfield 10, 3) := by decide +kernel
theorem dX8_size_4 : decode cX8_size 4 = .ok (.iload_n 1, 1) := by decide +kernel
theorem dX8_size_5 : decode cX8_size 5 = .ok (.invokevirtual 139, 3) := by decide +kernel
theorem dX8_size_8 : decode cX8_size 8 = .ok (.ifCond .ne 13, 3) := by decide +kernel
theorem dX8_size_11 : decode cX8_size 11 = .ok (.new 131, 3) := by decide +kernel
theorem dX8_size_14 : decode cX8_size 14 = .ok (.dup, 1) := by decide +kernel
theorem dX8_size_15 : decode cX8_size 15 = .ok (.ldc 142, 2) := by decide +kernel
theorem dX8_size_17 : decode cX8_size 17 = .ok (.invokespecial 135, 3) := by decide +kernel
theorem dX8_size_20 : decode cX8_size 20 = .ok (.athrow, 1) := by decide +kernel
theorem dX8_size_21 : decode cX8_size 21 = .ok (.iload_n 2, 1) := by decide +kernel
theorem dX8_size_22 : decode cX8_size 22 = .ok (.invokestatic 190, 3) := by decide +kernel
theorem dX8_size_25 : decode cX8_size 25 = .ok (.ifCond .ne 13, 3) := by decide +kernel
theorem dX8_size_28 : decode cX8_size 28 = .ok (.new 73, 3) := by decide +kernel
theorem dX8_size_31 : decode cX8_size 31 = .ok (.dup, 1) := by decide +kernel
theorem dX8_size_32 : decode cX8_size 32 = .ok (.ldc 193, 2) := by decide +kernel
theorem dX8_size_34 : decode cX8_size 34 = .ok (.invokespecial 77, 3) := by decide +kernel
theorem dX8_size_37 : decode cX8_size 37 = .ok (.athrow, 1) := by decide +kernel
theorem dX8_size_38 : decode cX8_size 38 = .ok (.aload_n 0, 1) := by decide +kernel
theorem dX8_size_39 : decode cX8_size 39 = .ok (.getfield 10, 3) := by decide +kernel
theorem dX8_size_42 : decode cX8_size 42 = .ok (.iload_n 1, 1) := by decide +kernel
theorem dX8_size_43 : decode cX8_size 43 = .ok (.invokevirtual 144, 3) := by decide +kernel
theorem dX8_size_46 : decode cX8_size 46 = .ok (.iload_n 2, 1) := by decide +kernel
theorem dX8_size_47 : decode cX8_size 47 = .ok (.invokevirtual 195, 3) := by decide +kernel
theorem dX8_size_50 : decode cX8_size 50 = .ok (.ireturn, 1) := by decide +kernel
theorem dX8_scan_0 : decode cX8_scan 0 = .ok (.iload_n 1, 1) := by decide +kernel
theorem dX8_scan_1 : decode cX8_scan 1 = .ok (.invokestatic 198, 3) := by decide +kernel
theorem dX8_scan_4 : decode cX8_scan 4 = .ok (.ifCond .ne 13, 3) := by decide +kernel
theorem dX8_scan_7 : decode cX8_scan 7 = .ok (.new 73, 3) := by decide +kernel
theorem dX8_scan_10 : decode cX8_scan 10 = .ok (.dup, 1) := by decide +kernel
theorem dX8_scan_11 : decode cX8_scan 11 = .ok (.ldc 201, 2) := by decide +kernel
theorem dX8_scan_13 : decode cX8_scan 13 = .ok (.invokespecial 77, 3) := by decide +kernel
theorem dX8_scan_16 : decode cX8_scan 16 = .ok (.athrow, 1) := by decide +kernel
theorem dX8_scan_17 : decode cX8_scan 17 = .ok (.iload_n 2, 1) := by decide +kernel
theorem dX8_scan_18 : decode cX8_scan 18 = .ok (.ifCond .eq 14, 3) := by decide +kernel
theorem dX8_scan_21 : decode cX8_scan 21 = .ok (.aload_n 0, 1) := by decide +kernel
theorem dX8_scan_22 : decode cX8_scan 22 = .ok (.getfield 10, 3) := by decide +kernel
theorem dX8_scan_25 : decode cX8_scan 25 = .ok (.iload_n 1, 1) := by decide +kernel
theorem dX8_scan_26 : decode cX8_scan 26 = .ok (.invokevirtual 203, 3) := by decide +kernel
theorem dX8_scan_29 : decode cX8_scan 29 = .ok (.goto 11, 3) := by decide +kernel
theorem dX8_scan_32 : decode cX8_scan 32 = .ok (.aload_n 0, 1) := by decide +kernel
theorem dX8_scan_33 : decode cX8_scan 33 = .ok (.getfield 10, 3) := by decide +kernel
theorem dX8_scan_36 : decode cX8_scan 36 = .ok (.iload_n 1, 1) := by decide +kernel
theorem dX8_scan_37 : decode cX8_scan 37 = .ok (.invokevirtual 206, 3) := by decide +kernel
theorem dX8_scan_40 : decode cX8_scan 40 = .ok (.ireturn, 1) := by decide +kernel
theorem dX8_sum_0 : decode cX8_sum 0 = .ok (.aload_n 0, 1) := by decide +kernel
theorem dX8_sum_1 : decode cX8_sum 1 = .ok (.getfield 10, 3) := by decide +kernel
theorem dX8_sum_4 : decode cX8_sum 4 = .ok (.iload_n 1, 1) := by decide +kernel
theorem dX8_sum_5 : decode cX8_sum 5 = .ok (.invokevirtual 127, 3) := by decide +kernel
theorem dX8_sum_8 : decode cX8_sum 8 = .ok (.ifCond .eq 14, 3) := by decide +kernel
theorem dX8_sum_11 : decode cX8_sum 11 = .ok (.aload_n 0, 1) := by decide +kernel
theorem dX8_sum_12 : decode cX8_sum 12 = .ok (.getfield 10, 3) := by decide +kernel
theorem dX8_sum_15 : decode cX8_sum 15 = .ok (.iload_n 2, 1) := by decide +kernel
theorem dX8_sum_16 : decode cX8_sum 16 = .ok (.invokevirtual 127, 3) := by decide +kernel
theorem dX8_sum_19 : decode cX8_sum 19 = .ok (.ifCond .ne 13, 3) := by decide +kernel
theorem dX8_sum_22 : decode cX8_sum 22 = .ok (.new 131, 3) := by decide +kernel
theorem dX8_sum_25 : decode cX8_sum 25 = .ok (.dup, 1) := by decide +kernel
theorem dX8_sum_26 : decode cX8_sum 26 = .ok (.ldc 133, 2) := by decide +kernel
theorem dX8_sum_28 : decode cX8_sum 28 = .ok (.invokespecial 135, 3) := by decide +kernel
theorem dX8_sum_31 : decode cX8_sum 31 = .ok (.athrow, 1) := by decide +kernel
theorem dX8_sum_32 : decode cX8_sum 32 = .ok (.iconst 0, 1) := by decide +kernel
theorem dX8_sum_33 : decode cX8_sum 33 = .ok (.istore_n 3, 1) := by decide +kernel
theorem dX8_sum_34 : decode cX8_sum 34 = .ok (.iload_n 1, 1) := by decide +kernel
theorem dX8_sum_35 : decode cX8_sum 35 = .ok (.istore 4, 2) := by decide +kernel
theorem dX8_sum_37 : decode cX8_sum 37 = .ok (.iload 4, 2) := by decide +kernel
theorem dX8_sum_39 : decode cX8_sum 39 = .ok (.iload_n 2, 1) := by decide +kernel
theorem dX8_sum_40 : decode cX8_sum 40 = .ok (.if_icmp .gt 21, 3) := by decide +kernel
theorem dX8_sum_43 : decode cX8_sum 43 = .ok (.iload_n 3, 1) := by decide +kernel
theorem dX8_sum_44 : decode cX8_sum 44 = .ok (.aload_n 0, 1) := by decide +kernel
theorem dX8_sum_45 : decode cX8_sum 45 = .ok (.getfield 10, 3) := by decide +kernel
theorem dX8_sum_48 : decode cX8_sum 48 = .ok (.iload 4, 2) := by decide +kernel
theorem dX8_sum_50 : decode cX8_sum 50 = .ok (.invokevirtual 136, 3) := by decide +kernel
theorem dX8_sum_53 : decode cX8_sum 53 = .ok (.iadd, 1) := by decide +kernel
theorem dX8_sum_54 : decode cX8_sum 54 = .ok (.istore_n 3, 1) := by decide +kernel
theorem dX8_sum_55 : decode cX8_sum 55 = .ok (.iinc 4 1, 3) := by decide +kernel
theorem dX8_sum_58 : decode cX8_sum 58 = .ok (.goto (-21), 3) := by decide +kernel
theorem dX8_sum_61 : decode cX8_sum 61 = .ok (.iload_n 3, 1) := by decide +kernel
theorem dX8_sum_62 : decode cX8_sum 62 = .ok (.ireturn, 1) := by decide +kernel
theorem dX8_add_0 : decode cX8_add 0 = .ok (.iload_n 1, 1) := by decide +kernel
theorem dX8_add_1 : decode cX8_add 1 = .ok (.invokestatic 198, 3) := by decide +kernel
theorem dX8_add_4 : decode cX8_add 4 = .ok (.ifCond .ne 13, 3) := by decide +kernel
theorem dX8_add_7 : decode cX8_add 7 = .ok (.new 73, 3) := by decide +kernel
theorem dX8_add_10 : decode cX8_add 10 = .ok (.dup, 1) := by decide +kernel
theorem dX8_add_11 : decode cX8_add 11 = .ok (.ldc 201, 2) := by decide +kernel
theorem dX8_add_13 : decode cX8_add 13 = .ok (.invokespecial 77, 3) := by decide +kernel
theorem dX8_add_16 : decode cX8_add 16 = .ok (.athrow, 1) := by decide +kernel
theorem dX8_add_17 : decode cX8_add 17 = .ok (.aload_n 0, 1) := by decide +kernel
theorem dX8_add_18 : decode cX8_add 18 = .ok (.getfield 10, 3) := by decide +kernel
theorem dX8_add_21 : decode cX8_add 21 = .ok (.invokevirtual 209, 3) := by decide +kernel
theorem dX8_add_24 : decode cX8_add 24 = .ok (.ifCond .ne 13, 3) := by decide +kernel
theorem dX8_add_27 : decode cX8_add 27 = .ok (.new 84, 3) := by decide +kernel
theorem dX8_add_30 : decode cX8_add 30 = .ok (.dup, 1) := by decide +kernel
theorem dX8_add_31 : decode cX8_add 31 = .ok (.ldc 212, 2) := by decide +kernel
theorem dX8_add_33 : decode cX8_add 33 = .ok (.invokespecial 88, 3) := by decide +kernel
theorem dX8_add_36 : decode cX8_add 36 = .ok (.athrow, 1) := by decide +kernel
theorem dX8_add_37 : decode cX8_add 37 = .ok (.aload_n 0, 1) := by decide +kernel
theorem dX8_add_38 : decode cX8_add 38 = .ok (.getfield 33, 3) := by decide +kernel
theorem dX8_add_41 : decode cX8_add 41 = .ok (.aload_n 0, 1) := by decide +kernel
theorem dX8_add_42 : decode cX8_add 42 = .ok (.getfield 10, 3) := by decide +kernel
theorem dX8_add_45 : decode cX8_add 45 = .ok (.invokevirtual 214, 3) := by decide +kernel
theorem dX8_add_48 : decode cX8_add 48 = .ok (.aload_n 0, 1) := by decide +kernel
theorem dX8_add_49 : decode cX8_add 49 = .ok (.getfield 10, 3) := by decide +kernel
theorem dX8_add_52 : decode cX8_add 52 = .ok (.iload_n 1, 1) := by decide +kernel
theorem dX8_add_53 : decode cX8_add 53 = .ok (.invokevirtual 218, 3) := by decide +kernel
theorem dX8_add_56 : decode cX8_add 56 = .ok (.ireturn, 1) := by decide +kernel
theorem dX8_put_0 : decode cX8_put 0 = .ok (.aload_n 0, 1) := by decide +kernel
theorem dX8_put_1 : decode cX8_put 1 = .ok (.getfield 10, 3) := by decide +kernel
theorem dX8_put_4 : decode cX8_put 4 = .ok (.iload_n 1, 1) := by decide +kernel
theorem dX8_put_5 : decode cX8_put 5 = .ok (.invokevirtual 127, 3) := by decide +kernel
theorem dX8_put_8 : decode cX8_put 8 = .ok (.ifCond .ne 13, 3) := by decide +kernel
theorem dX8_put_11 : decode cX8_put 11 = .ok (.new 131, 3) := by decide +kernel
theorem dX8_put_14 : decode cX8_put 14 = .ok (.dup, 1) := by decide +kernel
theorem dX8_put_15 : decode cX8_put 15 = .ok (.ldc 133, 2) := by decide +kernel
theorem dX8_put_17 : decode cX8_put 17 = .ok (.invokespecial 135, 3) := by decide +kernel
theorem dX8_put_20 : decode cX8_put 20 = .ok (.athrow, 1) := by decide +kernel
theorem dX8_put_21 : decode cX8_put 21 = .ok (.iload_n 2, 1) := by decide +kernel
theorem dX8_put_22 : decode cX8_put 22 = .ok (.invokestatic 198, 3) := by decide +kernel
theorem dX8_put_25 : decode cX8_put 25 = .ok (.ifCond .ne 13, 3) := by decide +kernel
theorem dX8_put_28 : decode cX8_put 28 = .ok (.new 73, 3) := by decide +kernel
theorem dX8_put_31 : decode cX8_put 31 = .ok (.dup, 1) := by decide +kernel
theorem dX8_put_32 : decode cX8_put 32 = .ok (.ldc 201, 2) := by decide +kernel
theorem dX8_put_34 : decode cX8_put 34 = .ok (.invokespecial 77, 3) := by decide +kernel
theorem dX8_put_37 : decode cX8_put 37 = .ok (.athrow, 1) := by decide +kernel
theorem dX8_put_38 : decode cX8_put 38 = .ok (.aload_n 0, 1) := by decide +kernel
theorem dX8_put_39 : decode cX8_put 39 = .ok (.getfield 33, 3) := by decide +kernel
theorem dX8_put_42 : decode cX8_put 42 = .ok (.aload_n 0, 1) := by decide +kernel
theorem dX8_put_43 : decode cX8_put 43 = .ok (.getfield 10, 3) := by decide +kernel
theorem dX8_put_46 : decode cX8_put 46 = .ok (.invokevirtual 214, 3) := by decide +kernel
theorem dX8_put_49 : decode cX8_put 49 = .ok (.aload_n 0, 1) := by decide +kernel
theorem dX8_put_50 : decode cX8_put 50 = .ok (.getfield 10, 3) := by decide +kernel
theorem dX8_put_53 : decode cX8_put 53 = .ok (.iload_n 1, 1) := by decide +kernel
theorem dX8_put_54 : decode cX8_put 54 = .ok (.iload_n 2, 1) := by decide +kernel
theorem dX8_put_55 : decode cX8_put 55 = .ok (.invokevirtual 221, 3) := by decide +kernel
theorem dX8_put_58 : decode cX8_put 58 = .ok (.ireturn, 1) := by decide +kernel
theorem dX8_remove_0 : decode cX8_remove 0 = .ok (.aload_n 0, 1) := by decide +kernel
theorem dX8_remove_1 : decode cX8_remove 1 = .ok (.getfield 10, 3) := by decide +kernel
theorem dX8_remove_4 : decode cX8_remove 4 = .ok (.iload_n 1, 1) := by decide +kernel
theorem dX8_remove_5 : decode cX8_remove 5 = .ok (.invokevirtual 127, 3) := by decide +kernel
theorem dX8_remove_8 : decode cX8_remove 8 = .ok (.ifCond .ne 13, 3) := by decide +kernel
theorem dX8_remove_11 : decode cX8_remove 11 = .ok (.new 131, 3) := by decide +kernel
theorem dX8_remove_14 : decode cX8_remove 14 = .ok (.dup, 1) := by decide +kernel
theorem dX8_remove_15 : decode cX8_remove 15 = .ok (.ldc 133, 2) := by decide +kernel
theorem dX8_remove_17 : decode cX8_remove 17 = .ok (.invokespecial 135, 3) := by decide +kernel
theorem dX8_remove_20 : decode cX8_remove 20 = .ok (.athrow, 1) := by decide +kernel
theorem dX8_remove_21 : decode cX8_remove 21 = .ok (.aload_n 0, 1) := by decide +kernel
theorem dX8_remove_22 : decode cX8_remove 22 = .ok (.getfield 33, 3) := by decide +kernel
theorem dX8_remove_25 : decode cX8_remove 25 = .ok (.aload_n 0, 1) := by decide +kernel
theorem dX8_remove_26 : decode cX8_remove 26 = .ok (.getfield 10, 3) := by decide +kernel
theorem dX8_remove_29 : decode cX8_remove 29 = .ok (.invokevirtual 214, 3) := by decide +kernel
theorem dX8_remove_32 : decode cX8_remove 32 = .ok (.aload_n 0, 1) := by decide +kernel
theorem dX8_remove_33 : decode cX8_remove 33 = .ok (.getfield 10, 3) := by decide +kernel
theorem dX8_remove_36 : decode cX8_remove 36 = .ok (.iload_n 1, 1) := by decide +kernel
theorem dX8_remove_37 : decode cX8_remove 37 = .ok (.invokevirtual 225, 3) := by decide +kernel
theorem dX8_remove_40 : decode cX8_remove 40 = .ok (.ireturn, 1) := by decide +kernel
theorem dX8_cut_0 : decode cX8_cut 0 = .ok (.aload_n 0, 1) := by decide +kernel
theorem dX8_cut_1 : decode cX8_cut 1 = .ok (.getfield 10, 3) := by decide +kernel
theorem dX8_cut_4 : decode cX8_cut 4 = .ok (.iload_n 1, 1) := by decide +kernel
theorem dX8_cut_5 : decode cX8_cut 5 = .ok (.invokevirtual 139, 3) := by decide +kernel
theorem dX8_cut_8 : decode cX8_cut 8 = .ok (.ifCond .ne 13, 3) := by decide +kernel
theorem dX8_cut_11 : decode cX8_cut 11 = .ok (.new 131, 3) := by decide +kernel
theorem dX8_cut_14 : decode cX8_cut 14 = .ok (.dup, 1) := by decide +kernel
theorem dX8_cut_15 : decode cX8_cut 15 = .ok (.ldc 142, 2) := by decide +kernel
theorem dX8_cut_17 : decode cX8_cut 17 = .ok (.invokespecial 135, 3) := by decide +kernel
theorem dX8_cut_20 : decode cX8_cut 20 = .ok (.athrow, 1) := by decide +kernel
theorem dX8_cut_21 : decode cX8_cut 21 = .ok (.aload_n 0, 1) := by decide +kernel
theorem dX8_cut_22 : decode cX8_cut 22 = .ok (.getfield 10, 3) := by decide +kernel
theorem dX8_cut_25 : decode cX8_cut 25 = .ok (.iload_n 1, 1) := by decide +kernel
theorem dX8_cut_26 : decode cX8_cut 26 = .ok (.iload_n 2, 1) := by decide +kernel
theorem dX8_cut_27 : decode cX8_cut 27 = .ok (.invokevirtual 228, 3) := by decide +kernel
theorem dX8_cut_30 : decode cX8_cut 30 = .ok (.ifCond .ne 13, 3) := by decide +kernel
theorem dX8_cut_33 : decode cX8_cut 33 = .ok (.new 73, 3) := by decide +kernel
theorem dX8_cut_36 : decode cX8_cut 36 = .ok (.dup, 1) := by decide +kernel
theorem dX8_cut_37 : decode cX8_cut 37 = .ok (.ldc 232, 2) := by decide +kernel
theorem dX8_cut_39 : decode cX8_cut 39 = .ok (.invokespecial 77, 3) := by decide +kernel
theorem dX8_cut_42 : decode cX8_cut 42 = .ok (.athrow, 1) := by decide +kernel
theorem dX8_cut_43 : decode cX8_cut 43 = .ok (.aload_n 0, 1) := by decide +kernel
theorem dX8_cut_44 : decode cX8_cut 44 = .ok (.getfield 10, 3) := by decide +kernel
theorem dX8_cut_47 : decode cX8_cut 47 = .ok (.invokevirtual 234, 3) := by decide +kernel
theorem dX8_cut_50 : decode cX8_cut 50 = .ok (.ifCond .eq 13, 3) := by decide +kernel
theorem dX8_cut_53 : decode cX8_cut 53 = .ok (.new 84, 3) := by decide +kernel
theorem dX8_cut_56 : decode cX8_cut 56 = .ok (.dup, 1) := by decide +kernel
theorem dX8_cut_57 : decode cX8_cut 57 = .ok (.ldc 235, 2) := by decide +kernel
theorem dX8_cut_59 : decode cX8_cut 59 = .ok (.invokespecial 88, 3) := by decide +kernel
theorem dX8_cut_62 : decode cX8_cut 62 = .ok (.athrow, 1) := by decide +kernel
theorem dX8_cut_63 : decode cX8_cut 63 = .ok (.aload_n 0, 1) := by decide +kernel
theorem dX8_cut_64 : decode cX8_cut 64 = .ok (.getfield 33, 3) := by decide +kernel
theorem dX8_cut_67 : decode cX8_cut 67 = .ok (.aload_n 0, 1) := by decide +kernel
theorem dX8_cut_68 : decode cX8_cut 68 = .ok (.getfield 10, 3) := by decide +kernel
theorem dX8_cut_71 : decode cX8_cut 71 = .ok (.invokevirtual 214, 3) := by decide +kernel
theorem dX8_cut_74 : decode cX8_cut 74 = .ok (.aload_n 0, 1) := by decide +kernel
theorem dX8_cut_75 : decode cX8_cut 75 = .ok (.getfield 10, 3) := by decide +kernel
theorem dX8_cut_78 : decode cX8_cut 78 = .ok (.iload_n 1, 1) := by decide +kernel
theorem dX8_cut_79 : decode cX8_cut 79 = .ok (.iload_n 2, 1) := by decide +kernel
theorem dX8_cut_80 : decode cX8_cut 80 = .ok (.invokevirtual 237, 3) := by decide +kernel
theorem dX8_cut_83 : decode cX8_cut 83 = .ok (.aload_n 0, 1) := by decide +kernel
theorem dX8_cut_84 : decode cX8_cut 84 = .ok (.getfield 10, 3) := by decide +kernel
theorem dX8_cut_87 : decode cX8_cut 87 = .ok (.invokevirtual 110, 3) := by decide +kernel
theorem dX8_cut_90 : decode cX8_cut 90 = .ok (.ireturn, 1) := by decide +kernel
theorem dX8_merge_0 : decode cX8_merge 0 = .ok (.aload_n 0, 1) := by decide +kernel
theorem dX8_merge_1 : decode cX8_merge 1 = .ok (.getfield 10, 3) := by decide +kernel
theorem dX8_merge_4 : decode cX8_merge 4 = .ok (.iload_n 1, 1) := by decide +kernel
theorem dX8_merge_5 : decode cX8_merge 5 = .ok (.invokevirtual 241, 3) := by decide +kernel
theorem dX8_merge_8 : decode cX8_merge 8 = .ok (.ifCond .ne 13, 3) := by decide +kernel
theorem dX8_merge_11 : decode cX8_merge 11 = .ok (.new 131, 3) := by decide +kernel
theorem dX8_merge_14 : decode cX8_merge 14 = .ok (.dup, 1) := by decide +kernel
theorem dX8_merge_15 : decode cX8_merge 15 = .ok (.ldc 244, 2) := by decide +kernel
theorem dX8_merge_17 : decode cX8_merge 17 = .ok (.invokespecial 135, 3) := by decide +kernel
theorem dX8_merge_20 : decode cX8_merge 20 = .ok (.athrow, 1) := by decide +kernel
theorem dX8_merge_21 : decode cX8_merge 21 = .ok (.aload_n 0, 1) := by decide +kernel
theorem dX8_merge_22 : decode cX8_merge 22 = .ok (.getfield 10, 3) := by decide +kernel
theorem dX8_merge_25 : decode cX8_merge 25 = .ok (.iload_n 1, 1) := by decide +kernel
theorem dX8_merge_26 : decode cX8_merge 26 = .ok (.invokevirtual 246, 3) := by decide +kernel
theorem dX8_merge_29 : decode cX8_merge 29 = .ok (.ifCond .ne 13, 3) := by decide +kernel
theorem dX8_merge_32 : decode cX8_merge 32 = .ok (.new 84, 3) := by decide +kernel
theorem dX8_merge_35 : decode cX8_merge 35 = .ok (.dup, 1) := by decide +kernel
theorem dX8_merge_36 : decode cX8_merge 36 = .ok (.ldc 249, 2) := by decide +kernel
theorem dX8_merge_38 : decode cX8_merge 38 = .ok (.invokespecial 88, 3) := by decide +kernel
theorem dX8_merge_41 : decode cX8_merge 41 = .ok (.athrow, 1) := by decide +kernel
theorem dX8_merge_42 : decode cX8_merge 42 = .ok (.aload_n 0, 1) := by decide +kernel
theorem dX8_merge_43 : decode cX8_merge 43 = .ok (.getfield 33, 3) := by decide +kernel
theorem dX8_merge_46 : decode cX8_merge 46 = .ok (.aload_n 0, 1) := by decide +kernel
theorem dX8_merge_47 : decode cX8_merge 47 = .ok (.getfield 10, 3) := by decide +kernel
theorem dX8_merge_50 : decode cX8_merge 50 = .ok (.invokevirtual 214, 3) := by decide +kernel
theorem dX8_merge_53 : decode cX8_merge 53 = .ok (.aload_n 0, 1) := by decide +kernel
theorem dX8_merge_54 : decode cX8_merge 54 = .ok (.getfield 10, 3) := by decide +kernel
theorem dX8_merge_57 : decode cX8_merge 57 = .ok (.iload_n 1, 1) := by decide +kernel
theorem dX8_merge_58 : decode cX8_merge 58 = .ok (.invokevirtual 251, 3) := by decide +kernel
theorem dX8_merge_61 : decode cX8_merge 61 = .ok (.aload_n 0, 1) := by decide +kernel
theorem dX8_merge_62 : decode cX8_merge 62 = .ok (.getfield 10, 3) := by decide +kernel
theorem dX8_merge_65 : decode cX8_merge 65 = .ok (.invokevirtual 110, 3) := by decide +kernel
theorem dX8_merge_68 : decode cX8_merge 68 = .ok (.ireturn, 1) := by decide +kernel
theorem dX8_compact_0 : decode cX8_compact 0 = .ok (.aload_n 0, 1) := by decide +kernel
theorem dX8_compact_1 : decode cX8_compact 1 = .ok (.getfield 33, 3) := by decide +kernel
theorem dX8_compact_4 : decode cX8_compact 4 = .ok (.aload_n 0, 1) := by decide +kernel
theorem dX8_compact_5 : decode cX8_compact 5 = .ok (.getfield 10, 3) := by decide +kernel
theorem dX8_compact_8 : decode cX8_compact 8 = .ok (.invokevirtual 214, 3) := by decide +kernel
theorem dX8_compact_11 : decode cX8_compact 11 = .ok (.aload_n 0, 1) := by decide +kernel
theorem dX8_compact_12 : decode cX8_compact 12 = .ok (.getfield 10, 3) := by decide +kernel
theorem dX8_compact_15 : decode cX8_compact 15 = .ok (.invokevirtual 254, 3) := by decide +kernel
theorem dX8_compact_18 : decode cX8_compact 18 = .ok (.ireturn, 1) := by decide +kernel
theorem dX8_pin_0 : decode cX8_pin 0 = .ok (.aload_n 0, 1) := by decide +kernel
theorem dX8_pin_1 : decode cX8_pin 1 = .ok (.getfield 10, 3) := by decide +kernel
theorem dX8_pin_4 : decode cX8_pin 4 = .ok (.iload_n 1, 1) := by decide +kernel
theorem dX8_pin_5 : decode cX8_pin 5 = .ok (.invokevirtual 139, 3) := by decide +kernel
theorem dX8_pin_8 : decode cX8_pin 8 = .ok (.ifCond .ne 13, 3) := by decide +kernel
theorem dX8_pin_11 : decode cX8_pin 11 = .ok (.new 131, 3) := by decide +kernel
theorem dX8_pin_14 : decode cX8_pin 14 = .ok (.dup, 1) := by decide +kernel
theorem dX8_pin_15 : decode cX8_pin 15 = .ok (.ldc 142, 2) := by decide +kernel
theorem dX8_pin_17 : decode cX8_pin 17 = .ok (.invokespecial 135, 3) := by decide +kernel
theorem dX8_pin_20 : decode cX8_pin 20 = .ok (.athrow, 1) := by decide +kernel
theorem dX8_pin_21 : decode cX8_pin 21 = .ok (.iload_n 2, 1) := by decide +kernel
theorem dX8_pin_22 : decode cX8_pin 22 = .ok (.sipush (-9999), 3) := by decide +kernel
theorem dX8_pin_25 : decode cX8_pin 25 = .ok (.if_icmp .eq 21, 3) := by decide +kernel
theorem dX8_pin_28 : decode cX8_pin 28 = .ok (.iload_n 2, 1) := by decide +kernel
theorem dX8_pin_29 : decode cX8_pin 29 = .ok (.invokestatic 190, 3) := by decide +kernel
theorem dX8_pin_32 : decode cX8_pin 32 = .ok (.ifCond .ne 14, 3) := by decide +kernel
theorem dX8_pin_35 : decode cX8_pin 35 = .ok (.new 73, 3) := by decide +kernel
theorem dX8_pin_38 : decode cX8_pin 38 = .ok (.dup, 1) := by decide +kernel
theorem dX8_pin_39 : decode cX8_pin 39 = .ok (.ldc_w 257, 3) := by decide +kernel
theorem dX8_pin_42 : decode cX8_pin 42 = .ok (.invokespecial 77, 3) := by decide +kernel
theorem dX8_pin_45 : decode cX8_pin 45 = .ok (.athrow, 1) := by decide +kernel
theorem dX8_pin_46 : decode cX8_pin 46 = .ok (.aload_n 0, 1) := by decide +kernel
theorem dX8_pin_47 : decode cX8_pin 47 = .ok (.getfield 33, 3) := by decide +kernel
theorem dX8_pin_50 : decode cX8_pin 50 = .ok (.aload_n 0, 1) := by decide +kernel
theorem dX8_pin_51 : decode cX8_pin 51 = .ok (.getfield 10, 3) := by decide +kernel
theorem dX8_pin_54 : decode cX8_pin 54 = .ok (.invokevirtual 214, 3) := by decide +kernel
theorem dX8_pin_57 : decode cX8_pin 57 = .ok (.aload_n 0, 1) := by decide +kernel
theorem dX8_pin_58 : decode cX8_pin 58 = .ok (.getfield 10, 3) := by decide +kernel
theorem dX8_pin_61 : decode cX8_pin 61 = .ok (.iload_n 1, 1) := by decide +kernel
theorem dX8_pin_62 : decode cX8_pin 62 = .ok (.iload_n 2, 1) := by decide +kernel
theorem dX8_pin_63 : decode cX8_pin 63 = .ok (.invokevirtual 259, 3) := by decide +kernel
theorem dX8_pin_66 : decode cX8_pin 66 = .ok (.aload_n 0, 1) := by decide +kernel
theorem dX8_pin_67 : decode cX8_pin 67 = .ok (.getfield 10, 3) := by decide +kernel
theorem dX8_pin_70 : decode cX8_pin 70 = .ok (.iload_n 1, 1) := by decide +kernel
theorem dX8_pin_71 : decode cX8_pin 71 = .ok (.invokevirtual 262, 3) := by decide +kernel
theorem dX8_pin_74 : decode cX8_pin 74 = .ok (.ireturn, 1) := by decide +kernel
theorem dX8_setLimit_0 : decode cX8_setLimit 0 = .ok (.iload_n 1, 1) := by decide +kernel
theorem dX8_setLimit_1 : decode cX8_setLimit 1 = .ok (.iconst 1, 1) := by decide +kernel
theorem dX8_setLimit_2 : decode cX8_setLimit 2 = .ok (.if_icmp .lt 9, 3) := by decide +kernel
theorem dX8_setLimit_5 : decode cX8_setLimit 5 = .ok (.iload_n 1, 1) := by decide +kernel
theorem dX8_setLimit_6 : decode cX8_setLimit 6 = .ok (.bipush 12, 2) := by decide +kernel
theorem dX8_setLimit_8 : decode cX8_setLimit 8 = .ok (.if_icmp .le 14, 3) := by decide +kernel
theorem dX8_setLimit_11 : decode cX8_setLimit 11 = .ok (.new 73, 3) := by decide +kernel
theorem dX8_setLimit_14 : decode cX8_setLimit 14 = .ok (.dup, 1) := by decide +kernel
theorem dX8_setLimit_15 : decode cX8_setLimit 15 = .ok (.ldc_w 265, 3) := by decide +kernel
theorem dX8_setLimit_18 : decode cX8_setLimit 18 = .ok (.invokespecial 77, 3) := by decide +kernel
theorem dX8_setLimit_21 : decode cX8_setLimit 21 = .ok (.athrow, 1) := by decide +kernel
theorem dX8_setLimit_22 : decode cX8_setLimit 22 = .ok (.aload_n 0, 1) := by decide +kernel
theorem dX8_setLimit_23 : decode cX8_setLimit 23 = .ok (.getfield 33, 3) := by decide +kernel
theorem dX8_setLimit_26 : decode cX8_setLimit 26 = .ok (.aload_n 0, 1) := by decide +kernel
theorem dX8_setLimit_27 : decode cX8_setLimit 27 = .ok (.getfield 10, 3) := by decide +kernel
theorem dX8_setLimit_30 : decode cX8_setLimit 30 = .ok (.invokevirtual 214, 3) := by decide +kernel
theorem dX8_setLimit_33 : decode cX8_setLimit 33 = .ok (.aload_n 0, 1) := by decide +kernel
theorem dX8_setLimit_34 : decode cX8_setLimit 34 = .ok (.getfield 10, 3) := by decide +kernel
theorem dX8_setLimit_37 : decode cX8_setLimit 37 = .ok (.getfield 107, 3) := by decide +kernel
theorem dX8_setLimit_40 : decode cX8_setLimit 40 = .ok (.istore_n 2, 1) := by decide +kernel
theorem dX8_setLimit_41 : decode cX8_setLimit 41 = .ok (.aload_n 0, 1) := by decide +kernel
theorem dX8_setLimit_42 : decode cX8_setLimit 42 = .ok (.getfield 10, 3) := by decide +kernel
theorem dX8_setLimit_45 : decode cX8_setLimit 45 = .ok (.iload_n 1, 1) := by decide +kernel
theorem dX8_setLimit_46 : decode cX8_setLimit 46 = .ok (.putfield 107, 3) := by decide +kernel
theorem dX8_setLimit_49 : decode cX8_setLimit 49 = .ok (.iload_n 2, 1) := by decide +kernel
theorem dX8_setLimit_50 : decode cX8_setLimit 50 = .ok (.ireturn, 1) := by decide +kernel
theorem dX8_take_0 : decode cX8_take 0 = .ok (.aload_n 0, 1) := by decide +kernel
theorem dX8_take_1 : decode cX8_take 1 = .ok (.getfield 19, 3) := by decide +kernel
theorem dX8_take_4 : decode cX8_take 4 = .ok (.invokevirtual 97, 3) := by decide +kernel
theorem dX8_take_7 : decode cX8_take 7 = .ok (.sipush (-9999), 3) := by decide +kernel
theorem dX8_take_10 : decode cX8_take 10 = .ok (.if_icmp .eq 14, 3) := by decide +kernel
theorem dX8_take_13 : decode cX8_take 13 = .ok (.new 84, 3) := by decide +kernel
theorem dX8_take_16 : decode cX8_take 16 = .ok (.dup, 1) := by decide +kernel
theorem dX8_take_17 : decode cX8_take 17 = .ok (.ldc_w 267, 3) := by decide +kernel
theorem dX8_take_20 : decode cX8_take 20 = .ok (.invokespecial 88, 3) := by decide +kernel
theorem dX8_take_23 : decode cX8_take 23 = .ok (.athrow, 1) := by decide +kernel
theorem dX8_take_24 : decode cX8_take 24 = .ok (.aload_n 0, 1) := by decide +kernel
theorem dX8_take_25 : decode cX8_take 25 = .ok (.getfield 10, 3) := by decide +kernel
theorem dX8_take_28 : decode cX8_take 28 = .ok (.invokevirtual 234, 3) := by decide +kernel
theorem dX8_take_31 : decode cX8_take 31 = .ok (.ifCond .eq 13, 3) := by decide +kernel
theorem dX8_take_34 : decode cX8_take 34 = .ok (.new 84, 3) := by decide +kernel
theorem dX8_take_37 : decode cX8_take 37 = .ok (.dup, 1) := by decide +kernel
theorem dX8_take_38 : decode cX8_take 38 = .ok (.ldc 235, 2) := by decide +kernel
theorem dX8_take_40 : decode cX8_take 40 = .ok (.invokespecial 88, 3) := by decide +kernel
theorem dX8_take_43 : decode cX8_take 43 = .ok (.athrow, 1) := by decide +kernel
theorem dX8_take_44 : decode cX8_take 44 = .ok (.aload_n 0, 1) := by decide +kernel
theorem dX8_take_45 : decode cX8_take 45 = .ok (.getfield 33, 3) := by decide +kernel
theorem dX8_take_48 : decode cX8_take 48 = .ok (.aload_n 0, 1) := by decide +kernel
theorem dX8_take_49 : decode cX8_take 49 = .ok (.getfield 10, 3) := by decide +kernel
theorem dX8_take_52 : decode cX8_take 52 = .ok (.invokevirtual 214, 3) := by decide +kernel
theorem dX8_take_55 : decode cX8_take 55 = .ok (.aload_n 0, 1) := by decide +kernel
theorem dX8_take_56 : decode cX8_take 56 = .ok (.getfield 10, 3) := by decide +kernel
theorem dX8_take_59 : decode cX8_take 59 = .ok (.aload_n 0, 1) := by decide +kernel
theorem dX8_take_60 : decode cX8_take 60 = .ok (.getfield 19, 3) := by decide +kernel
theorem dX8_take_63 : decode cX8_take 63 = .ok (.getfield 269, 3) := by decide +kernel
theorem dX8_take_66 : decode cX8_take 66 = .ok (.aload_n 0, 1) := by decide +kernel
theorem dX8_take_67 : decode cX8_take 67 = .ok (.getfield 19, 3) := by decide +kernel
theorem dX8_take_70 : decode cX8_take 70 = .ok (.getfield 272, 3) := by decide +kernel
theorem dX8_take_73 : decode cX8_take 73 = .ok (.invokevirtual 273, 3) := by decide +kernel
theorem dX8_take_76 : decode cX8_take 76 = .ok (.istore_n 1, 1) := by decide +kernel
theorem dX8_take_77 : decode cX8_take 77 = .ok (.aload_n 0, 1) := by decide +kernel
theorem dX8_take_78 : decode cX8_take 78 = .ok (.getfield 10, 3) := by decide +kernel
theorem dX8_take_81 : decode cX8_take 81 = .ok (.iload_n 1, 1) := by decide +kernel
theorem dX8_take_82 : decode cX8_take 82 = .ok (.invokevirtual 277, 3) := by decide +kernel
theorem dX8_take_85 : decode cX8_take 85 = .ok (.ireturn, 1) := by decide +kernel
theorem dX8_undo_0 : decode cX8_undo 0 = .ok (.aload_n 0, 1) := by decide +kernel
theorem dX8_undo_1 : decode cX8_undo 1 = .ok (.getfield 33, 3) := by decide +kernel
theorem dX8_undo_4 : decode cX8_undo 4 = .ok (.getfield 280, 3) := by decide +kernel
theorem dX8_undo_7 : decode cX8_undo 7 = .ok (.ifCond .ne 14, 3) := by decide +kernel
theorem dX8_undo_10 : decode cX8_undo 10 = .ok (.new 84, 3) := by decide +kernel
theorem dX8_undo_13 : decode cX8_undo 13 = .ok (.dup, 1) := by decide +kernel
theorem dX8_undo_14 : decode cX8_undo 14 = .ok (.ldc_w 281, 3) := by decide +kernel
theorem dX8_undo_17 : decode cX8_undo 17 = .ok (.invokespecial 88, 3) := by decide +kernel
theorem dX8_undo_20 : decode cX8_undo 20 = .ok (.athrow, 1) := by decide +kernel
theorem dX8_undo_21 : decode cX8_undo 21 = .ok (.aload_n 0, 1) := by decide +kernel
theorem dX8_undo_22 : decode cX8_undo 22 = .ok (.getfield 33, 3) := by decide +kernel
theorem dX8_undo_25 : decode cX8_undo 25 = .ok (.aload_n 0, 1) := by decide +kernel
theorem dX8_undo_26 : decode cX8_undo 26 = .ok (.getfield 10, 3) := by decide +kernel
theorem dX8_undo_29 : decode cX8_undo 29 = .ok (.invokevirtual 283, 3) := by decide +kernel
theorem dX8_undo_32 : decode cX8_undo 32 = .ok (.ireturn, 1) := by decide +kernel
theorem dX8_gain_0 : decode cX8_gain 0 = .ok (.aload_n 0, 1) := by decide +kernel
theorem dX8_gain_1 : decode cX8_gain 1 = .ok (.getfield 10, 3) := by decide +kernel
theorem dX8_gain_4 : decode cX8_gain 4 = .ok (.iload_n 1, 1) := by decide +kernel
theorem dX8_gain_5 : decode cX8_gain 5 = .ok (.invokevirtual 139, 3) := by decide +kernel
theorem dX8_gain_8 : decode cX8_gain 8 = .ok (.ifCond .ne 13, 3) := by decide +kernel
theorem dX8_gain_11 : decode cX8_gain 11 = .ok (.new 131, 3) := by decide +kernel
theorem dX8_gain_14 : decode cX8_gain 14 = .ok (.dup, 1) := by decide +kernel
theorem dX8_gain_15 : decode cX8_gain 15 = .ok (.ldc 142, 2) := by decide +kernel
theorem dX8_gain_17 : decode cX8_gain 17 = .ok (.invokespecial 135, 3) := by decide +kernel
theorem dX8_gain_20 : decode cX8_gain 20 = .ok (.athrow, 1) := by decide +kernel
theorem dX8_gain_21 : decode cX8_gain 21 = .ok (.aload_n 0, 1) := by decide +kernel
theorem dX8_gain_22 : decode cX8_gain 22 = .ok (.getfield 10, 3) := by decide +kernel
theorem dX8_gain_25 : decode cX8_gain 25 = .ok (.iload_n 1, 1) := by decide +kernel
theorem dX8_gain_26 : decode cX8_gain 26 = .ok (.invokevirtual 287, 3) := by decide +kernel
theorem dX8_gain_29 : decode cX8_gain 29 = .ok (.ireturn, 1) := by decide +kernel
theorem dX8_bestCut_0 : decode cX8_bestCut 0 = .ok (.aload_n 0, 1) := by decide +kernel
theorem dX8_bestCut_1 : decode cX8_bestCut 1 = .ok (.getfield 10, 3) := by decide +kernel
theorem dX8_bestCut_4 : decode cX8_bestCut 4 = .ok (.iload_n 1, 1) := by decide +kernel
theorem dX8_bestCut_5 : decode cX8_bestCut 5 = .ok (.invokevirtual 139, 3) := by decide +kernel
theorem dX8_bestCut_8 : decode cX8_bestCut 8 = .ok (.ifCond .ne 13, 3) := by decide +kernel
theorem dX8_bestCut_11 : decode cX8_bestCut 11 = .ok (.new 131, 3) := by decide +kernel
theorem dX8_bestCut_14 : decode cX8_bestCut 14 = .ok (.dup, 1) := by decide +kernel
theorem dX8_bestCut_15 : decode cX8_bestCut 15 = .ok (.ldc 142, 2) := by decide +kernel
theorem dX8_bestCut_17 : decode cX8_bestCut 17 = .ok (.invokespecial 135, 3) := by decide +kernel
theorem dX8_bestCut_20 : decode cX8_bestCut 20 = .ok (.athrow, 1) := by decide +kernel
theorem dX8_bestCut_21 : decode cX8_bestCut 21 = .ok (.sipush (-9999), 3) := by decide +kernel
theorem dX8_bestCut_24 : decode cX8_bestCut 24 = .ok (.istore_n 2, 1) := by decide +kernel
theorem dX8_bestCut_25 : decode cX8_bestCut 25 = .ok (.iconst 0, 1) := by decide +kernel
theorem dX8_bestCut_26 : decode cX8_bestCut 26 = .ok (.istore_n 3, 1) := by decide +kernel
theorem dX8_bestCut_27 : decode cX8_bestCut 27 = .ok (.aload_n 0, 1) := by decide +kernel
theorem dX8_bestCut_28 : decode cX8_bestCut 28 = .ok (.getfield 10, 3) := by decide +kernel
theorem dX8_bestCut_31 : decode cX8_bestCut 31 = .ok (.iload_n 1, 1) := by decide +kernel
theorem dX8_bestCut_32 : decode cX8_bestCut 32 = .ok (.invokevirtual 290, 3) := by decide +kernel
theorem dX8_bestCut_35 : decode cX8_bestCut 35 = .ok (.istore 4, 2) := by decide +kernel
theorem dX8_bestCut_37 : decode cX8_bestCut 37 = .ok (.iconst 1, 1) := by decide +kernel
theorem dX8_bestCut_38 : decode cX8_bestCut 38 = .ok (.istore 5, 2) := by decide +kernel
theorem dX8_bestCut_40 : decode cX8_bestCut 40 = .ok (.iload 5, 2) := by decide +kernel
theorem dX8_bestCut_42 : decode cX8_bestCut 42 = .ok (.iload 4, 2) := by decide +kernel
theorem dX8_bestCut_44 : decode cX8_bestCut 44 = .ok (.if_icmp .ge 39, 3) := by decide +kernel
theorem dX8_bestCut_47 : decode cX8_bestCut 47 = .ok (.aload_n 0, 1) := by decide +kernel
theorem dX8_bestCut_48 : decode cX8_bestCut 48 = .ok (.getfield 10, 3) := by decide +kernel
theorem dX8_bestCut_51 : decode cX8_bestCut 51 = .ok (.iload_n 1, 1) := by decide +kernel
theorem dX8_bestCut_52 : decode cX8_bestCut 52 = .ok (.iload 5, 2) := by decide +kernel
theorem dX8_bestCut_54 : decode cX8_bestCut 54 = .ok (.invokevirtual 293, 3) := by decide +kernel
theorem dX8_bestCut_57 : decode cX8_bestCut 57 = .ok (.istore 6, 2) := by decide +kernel
theorem dX8_bestCut_59 : decode cX8_bestCut 59 = .ok (.iload 5, 2) := by decide +kernel
theorem dX8_bestCut_61 : decode cX8_bestCut 61 = .ok (.iconst 1, 1) := by decide +kernel
theorem dX8_bestCut_62 : decode cX8_bestCut 62 = .ok (.if_icmp .eq 9, 3) := by decide +kernel
theorem dX8_bestCut_65 : decode cX8_bestCut 65 = .ok (.iload 6, 2) := by decide +kernel
theorem dX8_bestCut_67 : decode cX8_bestCut 67 = .ok (.iload_n 3, 1) := by decide +kernel
theorem dX8_bestCut_68 : decode cX8_bestCut 68 = .ok (.if_icmp .ge 9, 3) := by decide +kernel
theorem dX8_bestCut_71 : decode cX8_bestCut 71 = .ok (.iload 5, 2) := by decide +kernel
theorem dX8_bestCut_73 : decode cX8_bestCut 73 = .ok (.istore_n 2, 1) := by decide +kernel
theorem dX8_bestCut_74 : decode cX8_bestCut 74 = .ok (.iload 6, 2) := by decide +kernel
theorem dX8_bestCut_76 : decode cX8_bestCut 76 = .ok (.istore_n 3, 1) := by decide +kernel
theorem dX8_bestCut_77 : decode cX8_bestCut 77 = .ok (.iinc 5 1, 3) := by decide +kernel
theorem dX8_bestCut_80 : decode cX8_bestCut 80 = .ok (.goto (-40), 3) := by decide +kernel
theorem dX8_bestCut_83 : decode cX8_bestCut 83 = .ok (.iload_n 2, 1) := by decide +kernel
theorem dX8_bestCut_84 : decode cX8_bestCut 84 = .ok (.ireturn, 1) := by decide +kernel
theorem dX8_smallest_0 : decode cX8_smallest 0 = .ok (.aload_n 0, 1) := by decide +kernel
theorem dX8_smallest_1 : decode cX8_smallest 1 = .ok (.getfield 10, 3) := by decide +kernel
theorem dX8_smallest_4 : decode cX8_smallest 4 = .ok (.getfield 100, 3) := by decide +kernel
theorem dX8_smallest_7 : decode cX8_smallest 7 = .ok (.istore_n 1, 1) := by decide +kernel
theorem dX8_smallest_8 : decode cX8_smallest 8 = .ok (.aload_n 0, 1) := by decide +kernel
theorem dX8_smallest_9 : decode cX8_smallest 9 = .ok (.getfield 66, 3) := by decide +kernel
theorem dX8_smallest_12 : decode cX8_smallest 12 = .ok (.iload_n 1, 1) := by decide +kernel
theorem dX8_smallest_13 : decode cX8_smallest 13 = .ok (.iconst 0, 1) := by decide +kernel
theorem dX8_smallest_14 : decode cX8_smallest 14 = .ok (.invokevirtual 296, 3) := by decide +kernel
theorem dX8_smallest_17 : decode cX8_smallest 17 = .ok (.iload_n 1, 1) := by decide +kernel
theorem dX8_smallest_18 : decode cX8_smallest 18 = .ok (.iconst 1, 1) := by decide +kernel
theorem dX8_smallest_19 : decode cX8_smallest 19 = .ok (.isub, 1) := by decide +kernel
theorem dX8_smallest_20 : decode cX8_smallest 20 = .ok (.istore_n 2, 1) := by decide +kernel
theorem dX8_smallest_21 : decode cX8_smallest 21 = .ok (.iload_n 2, 1) := by decide +kernel
theorem dX8_smallest_22 : decode cX8_smallest 22 = .ok (.ifCond .lt 22, 3) := by decide +kernel
theorem dX8_smallest_25 : decode cX8_smallest 25 = .ok (.aload_n 0, 1) := by decide +kernel
theorem dX8_smallest_26 : decode cX8_smallest 26 = .ok (.getfield 66, 3) := by decide +kernel
theorem dX8_smallest_29 : decode cX8_smallest 29 = .ok (.iload_n 2, 1) := by decide +kernel
theorem dX8_smallest_30 : decode cX8_smallest 30 = .ok (.aload_n 0, 1) := by decide +kernel
theorem dX8_smallest_31 : decode cX8_smallest 31 = .ok (.iload_n 2, 1) := by decide +kernel
theorem dX8_smallest_32 : decode cX8_smallest 32 = .ok (.invokevirtual 299, 3) := by decide +kernel
theorem dX8_smallest_35 : decode cX8_smallest 35 = .ok (.invokevirtual 296, 3) := by decide +kernel
theorem dX8_smallest_38 : decode cX8_smallest 38 = .ok (.iinc 2 (-1), 3) := by decide +kernel
theorem dX8_smallest_41 : decode cX8_smallest 41 = .ok (.goto (-20), 3) := by decide +kernel
theorem dX8_smallest_44 : decode cX8_smallest 44 = .ok (.aload_n 0, 1) := by decide +kernel
theorem dX8_smallest_45 : decode cX8_smallest 45 = .ok (.getfield 66, 3) := by decide +kernel
theorem dX8_smallest_48 : decode cX8_smallest 48 = .ok (.iconst 0, 1) := by decide +kernel
theorem dX8_smallest_49 : decode cX8_smallest 49 = .ok (.invokevirtual 187, 3) := by decide +kernel
theorem dX8_smallest_52 : decode cX8_smallest 52 = .ok (.ireturn, 1) := by decide +kernel
theorem dX8_leastBitsFrom_0 : decode cX8_leastBitsFrom 0 = .ok (.iconst 0, 1) := by decide +kernel
theorem dX8_leastBitsFrom_1 : decode cX8_leastBitsFrom 1 = .ok (.istore_n 2, 1) := by decide +kernel
theorem dX8_leastBitsFrom_2 : decode cX8_leastBitsFrom 2 = .ok (.aload_n 0, 1) := by decide +kernel
theorem dX8_leastBitsFrom_3 : decode cX8_leastBitsFrom 3 = .ok (.getfield 59, 3) := by decide +kernel
theorem dX8_leastBitsFrom_6 : decode cX8_leastBitsFrom 6 = .ok (.invokevirtual 302, 3) := by decide +kernel
theorem dX8_leastBitsFrom_9 : decode cX8_leastBitsFrom 9 = .ok (.iload_n 1, 1) := by decide +kernel
theorem dX8_leastBitsFrom_10 : decode cX8_leastBitsFrom 10 = .ok (.istore_n 3, 1) := by decide +kernel
theorem dX8_leastBitsFrom_11 : decode cX8_leastBitsFrom 11 = .ok (.iload_n 3, 1) := by decide +kernel
theorem dX8_leastBitsFrom_12 : decode cX8_leastBitsFrom 12 = .ok (.aload_n 0, 1) := by decide +kernel
theorem dX8_leastBitsFrom_13 : decode cX8_leastBitsFrom 13 = .ok (.getfield 10, 3) := by decide +kernel
theorem dX8_leastBitsFrom_16 : decode cX8_leastBitsFrom 16 = .ok (.getfield 100, 3) := by decide +kernel
theorem dX8_leastBitsFrom_19 : decode cX8_leastBitsFrom 19 = .ok (.if_icmp .ge 72, 3) := by decide +kernel
theorem dX8_leastBitsFrom_22 : decode cX8_leastBitsFrom 22 = .ok (.iload_n 3, 1) := by decide +kernel
theorem dX8_leastBitsFrom_23 : decode cX8_leastBitsFrom 23 = .ok (.iload_n 1, 1) := by decide +kernel
theorem dX8_leastBitsFrom_24 : decode cX8_leastBitsFrom 24 = .ok (.bipush 12, 2) := by decide +kernel
theorem dX8_leastBitsFrom_26 : decode cX8_leastBitsFrom 26 = .ok (.iadd, 1) := by decide +kernel
theorem dX8_leastBitsFrom_27 : decode cX8_leastBitsFrom 27 = .ok (.if_icmp .ge 64, 3) := by decide +kernel
theorem dX8_leastBitsFrom_30 : decode cX8_leastBitsFrom 30 = .ok (.aload_n 0, 1) := by decide +kernel
theorem dX8_leastBitsFrom_31 : decode cX8_leastBitsFrom 31 = .ok (.getfield 59, 3) := by decide +kernel
theorem dX8_leastBitsFrom_34 : decode cX8_leastBitsFrom 34 = .ok (.aload_n 0, 1) := by decide +kernel
theorem dX8_leastBitsFrom_35 : decode cX8_leastBitsFrom 35 = .ok (.getfield 10, 3) := by decide +kernel
theorem dX8_leastBitsFrom_38 : decode cX8_leastBitsFrom 38 = .ok (.iload_n 3, 1) := by decide +kernel
theorem dX8_leastBitsFrom_39 : decode cX8_leastBitsFrom 39 = .ok (.invokevirtual 136, 3) := by decide +kernel
theorem dX8_leastBitsFrom_42 : decode cX8_leastBitsFrom 42 = .ok (.invokevirtual 305, 3) := by decide +kernel
theorem dX8_leastBitsFrom_45 : decode cX8_leastBitsFrom 45 = .ok (.aload_n 0, 1) := by decide +kernel
theorem dX8_leastBitsFrom_46 : decode cX8_leastBitsFrom 46 = .ok (.getfield 59, 3) := by decide +kernel
theorem dX8_leastBitsFrom_49 : decode cX8_leastBitsFrom 49 = .ok (.sipush (-9999), 3) := by decide +kernel
theorem dX8_leastBitsFrom_52 : decode cX8_leastBitsFrom 52 = .ok (.invokevirtual 160, 3) := by decide +kernel
theorem dX8_leastBitsFrom_55 : decode cX8_leastBitsFrom 55 = .ok (.aload_n 0, 1) := by decide +kernel
theorem dX8_leastBitsFrom_56 : decode cX8_leastBitsFrom 56 = .ok (.getfield 66, 3) := by decide +kernel
theorem dX8_leastBitsFrom_59 : decode cX8_leastBitsFrom 59 = .ok (.iload_n 3, 1) := by decide +kernel
theorem dX8_leastBitsFrom_60 : decode cX8_leastBitsFrom 60 = .ok (.iconst 1, 1) := by decide +kernel
theorem dX8_leastBitsFrom_61 : decode cX8_leastBitsFrom 61 = .ok (.iadd, 1) := by decide +kernel
theorem dX8_leastBitsFrom_62 : decode cX8_leastBitsFrom 62 = .ok (.invokevirtual 187, 3) := by decide +kernel
theorem dX8_leastBitsFrom_65 : decode cX8_leastBitsFrom 65 = .ok (.iadd, 1) := by decide +kernel
theorem dX8_leastBitsFrom_66 : decode cX8_leastBitsFrom 66 = .ok (.istore 4, 2) := by decide +kernel
theorem dX8_leastBitsFrom_68 : decode cX8_leastBitsFrom 68 = .ok (.iload_n 3, 1) := by decide +kernel
theorem dX8_leastBitsFrom_69 : decode cX8_leastBitsFrom 69 = .ok (.iload_n 1, 1) := by decide +kernel
theorem dX8_leastBitsFrom_70 : decode cX8_leastBitsFrom 70 = .ok (.if_icmp .ne 8, 3) := by decide +kernel
theorem dX8_leastBitsFrom_73 : decode cX8_leastBitsFrom 73 = .ok (.iload 4, 2) := by decide +kernel
theorem dX8_leastBitsFrom_75 : decode cX8_leastBitsFrom 75 = .ok (.goto 9, 3) := by decide +kernel
theorem dX8_leastBitsFrom_78 : decode cX8_leastBitsFrom 78 = .ok (.iload_n 2, 1) := by decide +kernel
theorem dX8_leastBitsFrom_79 : decode cX8_leastBitsFrom 79 = .ok (.iload 4, 2) := by decide +kernel
theorem dX8_leastBitsFrom_81 : decode cX8_leastBitsFrom 81 = .ok (.invokestatic 308, 3) := by decide +kernel
theorem dX8_leastBitsFrom_84 : decode cX8_leastBitsFrom 84 = .ok (.istore_n 2, 1) := by decide +kernel
theorem dX8_leastBitsFrom_85 : decode cX8_leastBitsFrom 85 = .ok (.iinc 3 1, 3) := by decide +kernel
theorem dX8_leastBitsFrom_88 : decode cX8_leastBitsFrom 88 = .ok (.goto (-77), 3) := by decide +kernel
theorem dX8_leastBitsFrom_91 : decode cX8_leastBitsFrom 91 = .ok (.iload_n 2, 1) := by decide +kernel
theorem dX8_leastBitsFrom_92 : decode cX8_leastBitsFrom 92 = .ok (.ireturn, 1) := by decide +kernel
theorem dX8_bestNext_0 : decode cX8_bestNext 0 = .ok (.aload_n 0, 1) := by decide +kernel
theorem dX8_bestNext_1 : decode cX8_bestNext 1 = .ok (.getfield 10, 3) := by decide +kernel
theorem dX8_bestNext_4 : decode cX8_bestNext 4 = .ok (.iload_n 1, 1) := by decide +kernel
theorem dX8_bestNext_5 : decode cX8_bestNext 5 = .ok (.invokevirtual 139, 3) := by decide +kernel
theorem dX8_bestNext_8 : decode cX8_bestNext 8 = .ok (.ifCond .ne 13, 3) := by decide +kernel
theorem dX8_bestNext_11 : decode cX8_bestNext 11 = .ok (.new 131, 3) := by decide +kernel
theorem dX8_bestNext_14 : decode cX8_bestNext 14 = .ok (.dup, 1) := by decide +kernel
theorem dX8_bestNext_15 : decode cX8_bestNext 15 = .ok (.ldc 142, 2) := by decide +kernel
theorem dX8_bestNext_17 : decode cX8_bestNext 17 = .ok (.invokespecial 135, 3) := by decide +kernel
theorem dX8_bestNext_20 : decode cX8_bestNext 20 = .ok (.athrow, 1) := by decide +kernel
theorem dX8_bestNext_21 : decode cX8_bestNext 21 = .ok (.aload_n 0, 1) := by decide +kernel
theorem dX8_bestNext_22 : decode cX8_bestNext 22 = .ok (.getfield 10, 3) := by decide +kernel
theorem dX8_bestNext_25 : decode cX8_bestNext 25 = .ok (.iload_n 1, 1) := by decide +kernel
theorem dX8_bestNext_26 : decode cX8_bestNext 26 = .ok (.invokevirtual 290, 3) := by decide +kernel
theorem dX8_bestNext_29 : decode cX8_bestNext 29 = .ok (.bipush 12, 2) := by decide +kernel
theorem dX8_bestNext_31 : decode cX8_bestNext 31 = .ok (.if_icmp .lt 7, 3) := by decide +kernel
theorem dX8_bestNext_34 : decode cX8_bestNext 34 = .ok (.sipush (-9999), 3) := by decide +kernel
theorem dX8_bestNext_37 : decode cX8_bestNext 37 = .ok (.ireturn, 1) := by decide +kernel
theorem dX8_bestNext_38 : decode cX8_bestNext 38 = .ok (.aload_n 0, 1) := by decide +kernel
theorem dX8_bestNext_39 : decode cX8_bestNext 39 = .ok (.getfield 10, 3) := by decide +kernel
theorem dX8_bestNext_42 : decode cX8_bestNext 42 = .ok (.iload_n 1, 1) := by decide +kernel
theorem dX8_bestNext_43 : decode cX8_bestNext 43 = .ok (.invokevirtual 144, 3) := by decide +kernel
theorem dX8_bestNext_46 : decode cX8_bestNext 46 = .ok (.astore_n 2, 1) := by decide +kernel
theorem dX8_bestNext_47 : decode cX8_bestNext 47 = .ok (.iconst 0, 1) := by decide +kernel
theorem dX8_bestNext_48 : decode cX8_bestNext 48 = .ok (.istore_n 3, 1) := by decide +kernel
theorem dX8_bestNext_49 : decode cX8_bestNext 49 = .ok (.iconst 0, 1) := by decide +kernel
theorem dX8_bestNext_50 : decode cX8_bestNext 50 = .ok (.istore 4, 2) := by decide +kernel
theorem dX8_bestNext_52 : decode cX8_bestNext 52 = .ok (.iconst 0, 1) := by decide +kernel
theorem dX8_bestNext_53 : decode cX8_bestNext 53 = .ok (.istore 5, 2) := by decide +kernel
theorem dX8_bestNext_55 : decode cX8_bestNext 55 = .ok (.iload 5, 2) := by decide +kernel
theorem dX8_bestNext_57 : decode cX8_bestNext 57 = .ok (.sipush 1023, 3) := by decide +kernel
theorem dX8_bestNext_60 : decode cX8_bestNext 60 = .ok (.if_icmp .gt 62, 3) := by decide +kernel
theorem dX8_bestNext_63 : decode cX8_bestNext 63 = .ok (.aload_n 0, 1) := by decide +kernel
theorem dX8_bestNext_64 : decode cX8_bestNext 64 = .ok (.getfield 59, 3) := by decide +kernel
theorem dX8_bestNext_67 : decode cX8_bestNext 67 = .ok (.aload_n 2, 1) := by decide +kernel
theorem dX8_bestNext_68 : decode cX8_bestNext 68 = .ok (.invokevirtual 313, 3) := by decide +kernel
theorem dX8_bestNext_71 : decode cX8_bestNext 71 = .ok (.aload_n 0, 1) := by decide +kernel
theorem dX8_bestNext_72 : decode cX8_bestNext 72 = .ok (.getfield 59, 3) := by decide +kernel
theorem dX8_bestNext_75 : decode cX8_bestNext 75 = .ok (.iload 5, 2) := by decide +kernel
theorem dX8_bestNext_77 : decode cX8_bestNext 77 = .ok (.invokevirtual 305, 3) := by decide +kernel
theorem dX8_bestNext_80 : decode cX8_bestNext 80 = .ok (.aload_n 0, 1) := by decide +kernel
theorem dX8_bestNext_81 : decode cX8_bestNext 81 = .ok (.getfield 59, 3) := by decide +kernel
theorem dX8_bestNext_84 : decode cX8_bestNext 84 = .ok (.aload_n 0, 1) := by decide +kernel
theorem dX8_bestNext_85 : decode cX8_bestNext 85 = .ok (.getfield 10, 3) := by decide +kernel
theorem dX8_bestNext_88 : decode cX8_bestNext 88 = .ok (.iload_n 1, 1) := by decide +kernel
theorem dX8_bestNext_89 : decode cX8_bestNext 89 = .ok (.invokevirtual 154, 3) := by decide +kernel
theorem dX8_bestNext_92 : decode cX8_bestNext 92 = .ok (.invokevirtual 160, 3) := by decide +kernel
theorem dX8_bestNext_95 : decode cX8_bestNext 95 = .ok (.istore 6, 2) := by decide +kernel
theorem dX8_bestNext_97 : decode cX8_bestNext 97 = .ok (.iload 5, 2) := by decide +kernel
theorem dX8_bestNext_99 : decode cX8_bestNext 99 = .ok (.ifCond .eq 10, 3) := by decide +kernel
theorem dX8_bestNext_102 : decode cX8_bestNext 102 = .ok (.iload 6, 2) := by decide +kernel
theorem dX8_bestNext_104 : decode cX8_bestNext 104 = .ok (.iload 4, 2) := by decide +kernel
theorem dX8_bestNext_106 : decode cX8_bestNext 106 = .ok (.if_icmp .ge 10, 3) := by decide +kernel
theorem dX8_bestNext_109 : decode cX8_bestNext 109 = .ok (.iload 5, 2) := by decide +kernel
theorem dX8_bestNext_111 : decode cX8_bestNext 111 = .ok (.istore_n 3, 1) := by decide +kernel
theorem dX8_bestNext_112 : decode cX8_bestNext 112 = .ok (.iload 6, 2) := by decide +kernel
theorem dX8_bestNext_114 : decode cX8_bestNext 114 = .ok (.istore 4, 2) := by decide +kernel
theorem dX8_bestNext_116 : decode cX8_bestNext 116 = .ok (.iinc 5 1, 3) := by decide +kernel
theorem dX8_bestNext_119 : decode cX8_bestNext 119 = .ok (.goto (-64), 3) := by decide +kernel
theorem dX8_bestNext_122 : decode cX8_bestNext 122 = .ok (.iload_n 3, 1) := by decide +kernel
theorem dX8_bestNext_123 : decode cX8_bestNext 123 = .ok (.ireturn, 1) := by decide +kernel
theorem dX8_runScript_0 : decode cX8_runScript 0 = .ok (.iload_n 1, 1) := by decide +kernel
theorem dX8_runScript_1 : decode cX8_runScript 1 = .ok (.iconst 1, 1) := by decide +kernel
theorem dX8_runScript_2 : decode cX8_runScript 2 = .ok (.if_icmp .lt 8, 3) := by decide +kernel
theorem dX8_runScript_5 : decode cX8_runScript 5 = .ok (.iload_n 1, 1) := by decide +kernel
theorem dX8_runScript_6 : decode cX8_runScript 6 = .ok (.iconst 3, 1) := by decide +kernel
theorem dX8_runScript_7 : decode cX8_runScript 7 = .ok (.if_icmp .le 14, 3) := by decide +kernel
theorem dX8_runScript_10 : decode cX8_runScript 10 = .ok (.new 73, 3) := by decide +kernel
theorem dX8_runScript_13 : decode cX8_runScript 13 = .ok (.dup, 1) := by decide +kernel
theorem dX8_runScript_14 : decode cX8_runScript 14 = .ok (.ldc_w 317, 3) := by decide +kernel
theorem dX8_runScript_17 : decode cX8_runScript 17 = .ok (.invokespecial 77, 3) := by decide +kernel
theorem dX8_runScript_20 : decode cX8_runScript 20 = .ok (.athrow, 1) := by decide +kernel
theorem dX8_runScript_21 : decode cX8_runScript 21 = .ok (.lload_n 2, 1) := by decide +kernel
theorem dX8_runScript_22 : decode cX8_runScript 22 = .ok (.lconst 0, 1) := by decide +kernel
theorem dX8_runScript_23 : decode cX8_runScript 23 = .ok (.lcmp, 1) := by decide +kernel
theorem dX8_runScript_24 : decode cX8_runScript 24 = .ok (.ifCond .ge 14, 3) := by decide +kernel
theorem dX8_runScript_27 : decode cX8_runScript 27 = .ok (.new 73, 3) := by decide +kernel
theorem dX8_runScript_30 : decode cX8_runScript 30 = .ok (.dup, 1) := by decide +kernel
theorem dX8_runScript_31 : decode cX8_runScript 31 = .ok (.ldc_w 319, 3) := by decide +kernel
theorem dX8_runScript_34 : decode cX8_runScript 34 = .ok (.invokespecial 77, 3) := by decide +kernel
theorem dX8_runScript_37 : decode cX8_runScript 37 = .ok (.athrow, 1) := by decide +kernel
theorem dX8_runScript_38 : decode cX8_runScript 38 = .ok (.lload_n 2, 1) := by decide +kernel
theorem dX8_runScript_39 : decode cX8_runScript 39 = .ok (.lstore 4, 2) := by decide +kernel
theorem dX8_runScript_41 : decode cX8_runScript 41 = .ok (.iload_n 1, 1) := by decide +kernel
theorem dX8_runScript_42 : decode cX8_runScript 42 = .ok (.iconst 1, 1) := by decide +kernel
theorem dX8_runScript_43 : decode cX8_runScript 43 = .ok (.isub, 1) := by decide +kernel
theorem dX8_runScript_44 : decode cX8_runScript 44 = .ok (.istore 6, 2) := by decide +kernel
theorem dX8_runScript_46 : decode cX8_runScript 46 = .ok (.iload 6, 2) := by decide +kernel
theorem dX8_runScript_48 : decode cX8_runScript 48 = .ok (.ifCond .lt 33, 3) := by decide +kernel
theorem dX8_runScript_51 : decode cX8_runScript 51 = .ok (.aload_n 0, 1) := by decide +kernel
theorem dX8_runScript_52 : decode cX8_runScript 52 = .ok (.getfield 70, 3) := by decide +kernel
theorem dX8_runScript_55 : decode cX8_runScript 55 = .ok (.iload 6, 2) := by decide +kernel
theorem dX8_runScript_57 : decode cX8_runScript 57 = .ok (.lload 4, 2) := by decide +kernel
theorem dX8_runScript_59 : decode cX8_runScript 59 = .ok (.ldc2_w 321, 3) := by decide +kernel
theorem dX8_runScript_62 : decode cX8_runScript 62 = .ok (.lrem, 1) := by decide +kernel
theorem dX8_runScript_63 : decode cX8_runScript 63 = .ok (.l2i, 1) := by decide +kernel
theorem dX8_runScript_64 : decode cX8_runScript 64 = .ok (.invokevirtual 296, 3) := by decide +kernel
theorem dX8_runScript_67 : decode cX8_runScript 67 = .ok (.lload 4, 2) := by decide +kernel
theorem dX8_runScript_69 : decode cX8_runScript 69 = .ok (.ldc2_w 321, 3) := by decide +kernel
theorem dX8_runScript_72 : decode cX8_runScript 72 = .ok (.ldiv, 1) := by decide +kernel
theorem dX8_runScript_73 : decode cX8_runScript 73 = .ok (.lstore 4, 2) := by decide +kernel
theorem dX8_runScript_75 : decode cX8_runScript 75 = .ok (.iinc 6 (-1), 3) := by decide +kernel
theorem dX8_runScript_78 : decode cX8_runScript 78 = .ok (.goto (-32), 3) := by decide +kernel
theorem dX8_runScript_81 : decode cX8_runScript 81 = .ok (.lload 4, 2) := by decide +kernel
theorem dX8_runScript_83 : decode cX8_runScript 83 = .ok (.lconst 0, 1) := by decide +kernel
theorem dX8_runScript_84 : decode cX8_runScript 84 = .ok (.lcmp, 1) := by decide +kernel
theorem dX8_runScript_85 : decode cX8_runScript 85 = .ok (.ifCond .eq 14, 3) := by decide +kernel
theorem dX8_runScript_88 : decode cX8_runScript 88 = .ok (.new 73, 3) := by decide +kernel
theorem dX8_runScript_91 : decode cX8_runScript 91 = .ok (.dup, 1) := by decide +kernel
theorem dX8_runScript_92 : decode cX8_runScript 92 = .ok (.ldc_w 323, 3) := by decide +kernel
theorem dX8_runScript_95 : decode cX8_runScript 95 = .ok (.invokespecial 77, 3) := by decide +kernel
theorem dX8_runScript_98 : decode cX8_runScript 98 = .ok (.athrow, 1) := by decide +kernel
theorem dX8_runScript_99 : decode cX8_runScript 99 = .ok (.aload_n 0, 1) := by decide +kernel
theorem dX8_runScript_100 : decode cX8_runScript 100 = .ok (.getfield 52, 3) := by decide +kernel
theorem dX8_runScript_103 : decode cX8_runScript 103 = .ok (.aload_n 0, 1) := by decide +kernel
theorem dX8_runScript_104 : decode cX8_runScript 104 = .ok (.getfield 10, 3) := by decide +kernel
theorem dX8_runScript_107 : decode cX8_runScript 107 = .ok (.invokevirtual 325, 3) := by decide +kernel
theorem dX8_runScript_110 : decode cX8_runScript 110 = .ok (.iconst 0, 1) := by decide +kernel
theorem dX8_runScript_111 : decode cX8_runScript 111 = .ok (.istore 6, 2) := by decide +kernel
theorem dX8_runScript_113 : decode cX8_runScript 113 = .ok (.iload 6, 2) := by decide +kernel
theorem dX8_runScript_115 : decode cX8_runScript 115 = .ok (.iload_n 1, 1) := by decide +kernel
theorem dX8_runScript_116 : decode cX8_runScript 116 = .ok (.if_icmp .ge 31, 3) := by decide +kernel
theorem dX8_runScript_119 : decode cX8_runScript 119 = .ok (.aload_n 0, 1) := by decide +kernel
theorem dX8_runScript_120 : decode cX8_runScript 120 = .ok (.getfield 52, 3) := by decide +kernel
theorem dX8_runScript_123 : decode cX8_runScript 123 = .ok (.aload_n 0, 1) := by decide +kernel
theorem dX8_runScript_124 : decode cX8_runScript 124 = .ok (.getfield 70, 3) := by decide +kernel
theorem dX8_runScript_127 : decode cX8_runScript 127 = .ok (.iload 6, 2) := by decide +kernel
theorem dX8_runScript_129 : decode cX8_runScript 129 = .ok (.invokevirtual 187, 3) := by decide +kernel
theorem dX8_runScript_132 : decode cX8_runScript 132 = .ok (.invokevirtual 328, 3) := by decide +kernel
theorem dX8_runScript_135 : decode cX8_runScript 135 = .ok (.ifCond .ne 6, 3) := by decide +kernel
theorem dX8_runScript_138 : decode cX8_runScript 138 = .ok (.iload 6, 2) := by decide +kernel
theorem dX8_runScript_140 : decode cX8_runScript 140 = .ok (.ireturn, 1) := by decide +kernel
theorem dX8_runScript_141 : decode cX8_runScript 141 = .ok (.iinc 6 1, 3) := by decide +kernel
theorem dX8_runScript_144 : decode cX8_runScript 144 = .ok (.goto (-31), 3) := by decide +kernel
theorem dX8_runScript_147 : decode cX8_runScript 147 = .ok (.sipush (-9999), 3) := by decide +kernel
theorem dX8_runScript_150 : decode cX8_runScript 150 = .ok (.ireturn, 1) := by decide +kernel
theorem dX8_simulate_0 : decode cX8_simulate 0 = .ok (.iload_n 3, 1) := by decide +kernel
theorem dX8_simulate_1 : decode cX8_simulate 1 = .ok (.iconst 1, 1) := by decide +kernel
theorem dX8_simulate_2 : decode cX8_simulate 2 = .ok (.if_icmp .lt 9, 3) := by decide +kernel
theorem dX8_simulate_5 : decode cX8_simulate 5 = .ok (.iload_n 3, 1) := by decide +kernel
theorem dX8_simulate_6 : decode cX8_simulate 6 = .ok (.bipush 99, 2) := by decide +kernel
theorem dX8_simulate_8 : decode cX8_simulate 8 = .ok (.if_icmp .le 14, 3) := by decide +kernel
theorem dX8_simulate_11 : decode cX8_simulate 11 = .ok (.new 73, 3) := by decide +kernel
theorem dX8_simulate_14 : decode cX8_simulate 14 = .ok (.dup, 1) := by decide +kernel
theorem dX8_simulate_15 : decode cX8_simulate 15 = .ok (.ldc_w 331, 3) := by decide +kernel
theorem dX8_simulate_18 : decode cX8_simulate 18 = .ok (.invokespecial 77, 3) := by decide +kernel
theorem dX8_simulate_21 : decode cX8_simulate 21 = .ok (.athrow, 1) := by decide +kernel
theorem dX8_simulate_22 : decode cX8_simulate 22 = .ok (.aload_n 0, 1) := by decide +kernel
theorem dX8_simulate_23 : decode cX8_simulate 23 = .ok (.getfield 46, 3) := by decide +kernel
theorem dX8_simulate_26 : decode cX8_simulate 26 = .ok (.aload_n 0, 1) := by decide +kernel
theorem dX8_simulate_27 : decode cX8_simulate 27 = .ok (.getfield 10, 3) := by decide +kernel
theorem dX8_simulate_30 : decode cX8_simulate 30 = .ok (.invokevirtual 333, 3) := by decide +kernel
theorem dX8_simulate_33 : decode cX8_simulate 33 = .ok (.lload_n 1, 1) := by decide +kernel
theorem dX8_simulate_34 : decode cX8_simulate 34 = .ok (.lstore 4, 2) := by decide +kernel
theorem dX8_simulate_36 : decode cX8_simulate 36 = .ok (.iconst 0, 1) := by decide +kernel
theorem dX8_simulate_37 : decode cX8_simulate 37 = .ok (.istore 6, 2) := by decide +kernel
theorem dX8_simulate_39 : decode cX8_simulate 39 = .ok (.iload 6, 2) := by decide +kernel
theorem dX8_simulate_41 : decode cX8_simulate 41 = .ok (.iload_n 3, 1) := by decide +kernel
theorem dX8_simulate_42 : decode cX8_simulate 42 = .ok (.if_icmp .ge 64, 3) := by decide +kernel
theorem dX8_simulate_45 : decode cX8_simulate 45 = .ok (.lload 4, 2) := by decide +kernel
theorem dX8_simulate_47 : decode cX8_simulate 47 = .ok (.ldc2_w 335, 3) := by decide +kernel
theorem dX8_simulate_50 : decode cX8_simulate 50 = .ok (.lmul, 1) := by decide +kernel
theorem dX8_simulate_51 : decode cX8_simulate 51 = .ok (.ldc2_w 337, 3) := by decide +kernel
theorem dX8_simulate_54 : decode cX8_simulate 54 = .ok (.ladd, 1) := by decide +kernel
theorem dX8_simulate_55 : decode cX8_simulate 55 = .ok (.lstore 4, 2) := by decide +kernel
theorem dX8_simulate_57 : decode cX8_simulate 57 = .ok (.aload_n 0, 1) := by decide +kernel
theorem dX8_simulate_58 : decode cX8_simulate 58 = .ok (.lload 4, 2) := by decide +kernel
theorem dX8_simulate_60 : decode cX8_simulate 60 = .ok (.bipush 33, 2) := by decide +kernel
theorem dX8_simulate_62 : decode cX8_simulate 62 = .ok (.lushr, 1) := by decide +kernel
theorem dX8_simulate_63 : decode cX8_simulate 63 = .ok (.l2i, 1) := by decide +kernel
theorem dX8_simulate_64 : decode cX8_simulate 64 = .ok (.invokevirtual 339, 3) := by decide +kernel
theorem dX8_simulate_67 : decode cX8_simulate 67 = .ok (.istore 7, 2) := by decide +kernel
theorem dX8_simulate_69 : decode cX8_simulate 69 = .ok (.aload_n 0, 1) := by decide +kernel
theorem dX8_simulate_70 : decode cX8_simulate 70 = .ok (.getfield 46, 3) := by decide +kernel
theorem dX8_simulate_73 : decode cX8_simulate 73 = .ok (.invokevirtual 209, 3) := by decide +kernel
theorem dX8_simulate_76 : decode cX8_simulate 76 = .ok (.ifCond .eq 16, 3) := by decide +kernel
theorem dX8_simulate_79 : decode cX8_simulate 79 = .ok (.aload_n 0, 1) := by decide +kernel
theorem dX8_simulate_80 : decode cX8_simulate 80 = .ok (.getfield 46, 3) := by decide +kernel
theorem dX8_simulate_83 : decode cX8_simulate 83 = .ok (.iload 7, 2) := by decide +kernel
theorem dX8_simulate_85 : decode cX8_simulate 85 = .ok (.invokevirtual 218, 3) := by decide +kernel
theorem dX8_simulate_88 : decode cX8_simulate 88 = .ok (.pop, 1) := by decide +kernel
theorem dX8_simulate_89 : decode cX8_simulate 89 = .ok (.goto 11, 3) := by decide +kernel
theorem dX8_simulate_92 : decode cX8_simulate 92 = .ok (.aload_n 0, 1) := by decide +kernel
theorem dX8_simulate_93 : decode cX8_simulate 93 = .ok (.getfield 46, 3) := by decide +kernel
theorem dX8_simulate_96 : decode cX8_simulate 96 = .ok (.invokevirtual 254, 3) := by decide +kernel
theorem dX8_simulate_99 : decode cX8_simulate 99 = .ok (.pop, 1) := by decide +kernel
theorem dX8_simulate_100 : decode cX8_simulate 100 = .ok (.iinc 6 1, 3) := by decide +kernel
theorem dX8_simulate_103 : decode cX8_simulate 103 = .ok (.goto (-64), 3) := by decide +kernel
theorem dX8_simulate_106 : decode cX8_simulate 106 = .ok (.bipush 10, 2) := by decide +kernel
theorem dX8_simulate_108 : decode cX8_simulate 108 = .ok (.aload_n 0, 1) := by decide +kernel
theorem dX8_simulate_109 : decode cX8_simulate 109 = .ok (.getfield 46, 3) := by decide +kernel
theorem dX8_simulate_112 : decode cX8_simulate 112 = .ok (.invokevirtual 110, 3) := by decide +kernel
theorem dX8_simulate_115 : decode cX8_simulate 115 = .ok (.imul, 1) := by decide +kernel
theorem dX8_simulate_116 : decode cX8_simulate 116 = .ok (.aload_n 0, 1) := by decide +kernel
theorem dX8_simulate_117 : decode cX8_simulate 117 = .ok (.getfield 46, 3) := by decide +kernel
theorem dX8_simulate_120 : decode cX8_simulate 120 = .ok (.invokevirtual 342, 3) := by decide +kernel
theorem dX8_simulate_123 : decode cX8_simulate 123 = .ok (.iadd, 1) := by decide +kernel
theorem dX8_simulate_124 : decode cX8_simulate 124 = .ok (.ireturn, 1) := by decide +kernel
theorem dX8_simulatedValue_0 : decode cX8_simulatedValue 0 = .ok (.aload_n 0, 1) := by decide +kernel
theorem dX8_simulatedValue_1 : decode cX8_simulatedValue 1 = .ok (.getfield 46, 3) := by decide +kernel
theorem dX8_simulatedValue_4 : decode cX8_simulatedValue 4 = .ok (.invokevirtual 345, 3) := by decide +kernel
theorem dX8_simulatedValue_7 : decode cX8_simulatedValue 7 = .ok (.istore_n 2, 1) := by decide +kernel
theorem dX8_simulatedValue_8 : decode cX8_simulatedValue 8 = .ok (.iload_n 1, 1) := by decide +kernel
theorem dX8_simulatedValue_9 : decode cX8_simulatedValue 9 = .ok (.iconst 4, 1) := by decide +kernel
theorem dX8_simulatedValue_10 : decode cX8_simulatedValue 10 = .ok (.idiv, 1) := by decide +kernel
theorem dX8_simulatedValue_11 : decode cX8_simulatedValue 11 = .ok (.istore_n 3, 1) := by decide +kernel
theorem dX8_simulatedValue_12 : decode cX8_simulatedValue 12 = .ok (.iload_n 1, 1) := by decide +kernel
theorem dX8_simulatedValue_13 : decode cX8_simulatedValue 13 = .ok (.iconst 4, 1) := by decide +kernel
theorem dX8_simulatedValue_14 : decode cX8_simulatedValue 14 = .ok (.irem, 1) := by decide +kernel
theorem dX8_simulatedValue_15 : decode cX8_simulatedValue 15 = .ok (.tableswitch 46 0 2 #[25, 31, 33], 25) := by decide +kernel
theorem dX8_simulatedValue_40 : decode cX8_simulatedValue 40 = .ok (.iload_n 3, 1) := by decide +kernel
theorem dX8_simulatedValue_41 : decode cX8_simulatedValue 41 = .ok (.sipush 1024, 3) := by decide +kernel
theorem dX8_simulatedValue_44 : decode cX8_simulatedValue 44 = .ok (.irem, 1) := by decide +kernel
theorem dX8_simulatedValue_45 : decode cX8_simulatedValue 45 = .ok (.ireturn, 1) := by decide +kernel
theorem dX8_simulatedValue_46 : decode cX8_simulatedValue 46 = .ok (.iload_n 2, 1) := by decide +kernel
theorem dX8_simulatedValue_47 : decode cX8_simulatedValue 47 = .ok (.ireturn, 1) := by decide +kernel
theorem dX8_simulatedValue_48 : decode cX8_simulatedValue 48 = .ok (.iload_n 2, 1) := by decide +kernel
theorem dX8_simulatedValue_49 : decode cX8_simulatedValue 49 = .ok (.iload_n 3, 1) := by decide +kernel
theorem dX8_simulatedValue_50 : decode cX8_simulatedValue 50 = .ok (.bipush 8, 2) := by decide +kernel
theorem dX8_simulatedValue_52 : decode cX8_simulatedValue 52 = .ok (.irem, 1) := by decide +kernel
theorem dX8_simulatedValue_53 : decode cX8_simulatedValue 53 = .ok (.iadd, 1) := by decide +kernel
theorem dX8_simulatedValue_54 : decode cX8_simulatedValue 54 = .ok (.sipush 1023, 3) := by decide +kernel
theorem dX8_simulatedValue_57 : decode cX8_simulatedValue 57 = .ok (.invokestatic 308, 3) := by decide +kernel
theorem dX8_simulatedValue_60 : decode cX8_simulatedValue 60 = .ok (.ireturn, 1) := by decide +kernel
theorem dX8_simulatedValue_61 : decode cX8_simulatedValue 61 = .ok (.iload_n 2, 1) := by decide +kernel
theorem dX8_simulatedValue_62 : decode cX8_simulatedValue 62 = .ok (.iload_n 3, 1) := by decide +kernel
theorem dX8_simulatedValue_63 : decode cX8_simulatedValue 63 = .ok (.bipush 8, 2) := by decide +kernel
theorem dX8_simulatedValue_65 : decode cX8_simulatedValue 65 = .ok (.irem, 1) := by decide +kernel
theorem dX8_simulatedValue_66 : decode cX8_simulatedValue 66 = .ok (.isub, 1) := by decide +kernel
theorem dX8_simulatedValue_67 : decode cX8_simulatedValue 67 = .ok (.iconst 0, 1) := by decide +kernel
theorem dX8_simulatedValue_68 : decode cX8_simulatedValue 68 = .ok (.invokestatic 348, 3) := by decide +kernel
theorem dX8_simulatedValue_71 : decode cX8_simulatedValue 71 = .ok (.ireturn, 1) := by decide +kernel
theorem dX8_save_0 : decode cX8_save 0 = .ok (.iload_n 1, 1) := by decide +kernel
theorem dX8_save_1 : decode cX8_save 1 = .ok (.ifCond .lt 8, 3) := by decide +kernel
theorem dX8_save_4 : decode cX8_save 4 = .ok (.iload_n 1, 1) := by decide +kernel
theorem dX8_save_5 : decode cX8_save 5 = .ok (.iconst 2, 1) := by decide +kernel
theorem dX8_save_6 : decode cX8_save 6 = .ok (.if_icmp .lt 14, 3) := by decide +kernel
theorem dX8_save_9 : decode cX8_save 9 = .ok (.new 131, 3) := by decide +kernel
theorem dX8_save_12 : decode cX8_save 12 = .ok (.dup, 1) := by decide +kernel
theorem dX8_save_13 : decode cX8_save 13 = .ok (.ldc_w 351, 3) := by decide +kernel
theorem dX8_save_16 : decode cX8_save 16 = .ok (.invokespecial 135, 3) := by decide +kernel
theorem dX8_save_19 : decode cX8_save 19 = .ok (.athrow, 1) := by decide +kernel
theorem dX8_save_20 : decode cX8_save 20 = .ok (.aload_n 0, 1) := by decide +kernel
theorem dX8_save_21 : decode cX8_save 21 = .ok (.getfield 42, 3) := by decide +kernel
theorem dX8_save_24 : decode cX8_save 24 = .ok (.iload_n 1, 1) := by decide +kernel
theorem dX8_save_25 : decode cX8_save 25 = .ok (.aload_n 0, 1) := by decide +kernel
theorem dX8_save_26 : decode cX8_save 26 = .ok (.getfield 10, 3) := by decide +kernel
theorem dX8_save_29 : decode cX8_save 29 = .ok (.invokevirtual 353, 3) := by decide +kernel
theorem dX8_save_32 : decode cX8_save 32 = .ok (.aload_n 0, 1) := by decide +kernel
theorem dX8_save_33 : decode cX8_save 33 = .ok (.getfield 10, 3) := by decide +kernel
theorem dX8_save_36 : decode cX8_save 36 = .ok (.getfield 100, 3) := by decide +kernel
theorem dX8_save_39 : decode cX8_save 39 = .ok (.ireturn, 1) := by decide +kernel
theorem dX8_restore_0 : decode cX8_restore 0 = .ok (.iload_n 1, 1) := by decide +kernel
theorem dX8_restore_1 : decode cX8_restore 1 = .ok (.ifCond .lt 8, 3) := by decide +kernel
theorem dX8_restore_4 : decode cX8_restore 4 = .ok (.iload_n 1, 1) := by decide +kernel
theorem dX8_restore_5 : decode cX8_restore 5 = .ok (.iconst 2, 1) := by decide +kernel
theorem dX8_restore_6 : decode cX8_restore 6 = .ok (.if_icmp .lt 14, 3) := by decide +kernel
theorem dX8_restore_9 : decode cX8_restore 9 = .ok (.new 131, 3) := by decide +kernel
theorem dX8_restore_12 : decode cX8_restore 12 = .ok (.dup, 1) := by decide +kernel
theorem dX8_restore_13 : decode cX8_restore 13 = .ok (.ldc_w 351, 3) := by decide +kernel
theorem dX8_restore_16 : decode cX8_restore 16 = .ok (.invokespecial 135, 3) := by decide +kernel
theorem dX8_restore_19 : decode cX8_restore 19 = .ok (.athrow, 1) := by decide +kernel
theorem dX8_restore_20 : decode cX8_restore 20 = .ok (.aload_n 0, 1) := by decide +kernel
theorem dX8_restore_21 : decode cX8_restore 21 = .ok (.getfield 42, 3) := by decide +kernel
theorem dX8_restore_24 : decode cX8_restore 24 = .ok (.iload_n 1, 1) := by decide +kernel
theorem dX8_restore_25 : decode cX8_restore 25 = .ok (.invokevirtual 357, 3) := by decide +kernel
theorem dX8_restore_28 : decode cX8_restore 28 = .ok (.ifCond .ne 14, 3) := by decide +kernel
theorem dX8_restore_31 : decode cX8_restore 31 = .ok (.new 84, 3) := by decide +kernel
theorem dX8_restore_34 : decode cX8_restore 34 = .ok (.dup, 1) := by decide +kernel
theorem dX8_restore_35 : decode cX8_restore 35 = .ok (.ldc_w 360, 3) := by decide +kernel
theorem dX8_restore_38 : decode cX8_restore 38 = .ok (.invokespecial 88, 3) := by decide +kernel
theorem dX8_restore_41 : decode cX8_restore 41 = .ok (.athrow, 1) := by decide +kernel
theorem dX8_restore_42 : decode cX8_restore 42 = .ok (.aload_n 0, 1) := by decide +kernel
theorem dX8_restore_43 : decode cX8_restore 43 = .ok (.getfield 42, 3) := by decide +kernel
theorem dX8_restore_46 : decode cX8_restore 46 = .ok (.iload_n 1, 1) := by decide +kernel
theorem dX8_restore_47 : decode cX8_restore 47 = .ok (.aload_n 0, 1) := by decide +kernel
theorem dX8_restore_48 : decode cX8_restore 48 = .ok (.getfield 10, 3) := by decide +kernel
theorem dX8_restore_51 : decode cX8_restore 51 = .ok (.invokevirtual 362, 3) := by decide +kernel
theorem dX8_restore_54 : decode cX8_restore 54 = .ok (.aload_n 0, 1) := by decide +kernel
theorem dX8_restore_55 : decode cX8_restore 55 = .ok (.getfield 33, 3) := by decide +kernel
theorem dX8_restore_58 : decode cX8_restore 58 = .ok (.invokevirtual 365, 3) := by decide +kernel
theorem dX8_restore_61 : decode cX8_restore 61 = .ok (.aload_n 0, 1) := by decide +kernel
theorem dX8_restore_62 : decode cX8_restore 62 = .ok (.getfield 10, 3) := by decide +kernel
theorem dX8_restore_65 : decode cX8_restore 65 = .ok (.getfield 100, 3) := by decide +kernel
theorem dX8_restore_68 : decode cX8_restore 68 = .ok (.ireturn, 1) := by decide +kernel
theorem dX8_isValue_0 : decode cX8_isValue 0 = .ok (.iload_n 0, 1) := by decide +kernel
theorem dX8_isValue_1 : decode cX8_isValue 1 = .ok (.ifCond .lt 14, 3) := by decide +kernel
theorem dX8_isValue_4 : decode cX8_isValue 4 = .ok (.iload_n 0, 1) := by decide +kernel
theorem dX8_isValue_5 : decode cX8_isValue 5 = .ok (.sipush 1023, 3) := by decide +kernel
theorem dX8_isValue_8 : decode cX8_isValue 8 = .ok (.if_icmp .gt 7, 3) := by decide +kernel
theorem dX8_isValue_11 : decode cX8_isValue 11 = .ok (.iconst 1, 1) := by decide +kernel
theorem dX8_isValue_12 : decode cX8_isValue 12 = .ok (.goto 4, 3) := by decide +kernel
theorem dX8_isValue_15 : decode cX8_isValue 15 = .ok (.iconst 0, 1) := by decide +kernel
theorem dX8_isValue_16 : decode cX8_isValue 16 = .ok (.ireturn, 1) := by decide +kernel
theorem dX8_isCoding_0 : decode cX8_isCoding 0 = .ok (.iload_n 0, 1) := by decide +kernel
theorem dX8_isCoding_1 : decode cX8_isCoding 1 = .ok (.ifCond .lt 12, 3) := by decide +kernel
theorem dX8_isCoding_4 : decode cX8_isCoding 4 = .ok (.iload_n 0, 1) := by decide +kernel
theorem dX8_isCoding_5 : decode cX8_isCoding 5 = .ok (.iconst 4, 1) := by decide +kernel
theorem dX8_isCoding_6 : decode cX8_isCoding 6 = .ok (.if_icmp .gt 7, 3) := by decide +kernel
theorem dX8_isCoding_9 : decode cX8_isCoding 9 = .ok (.iconst 1, 1) := by decide +kernel
theorem dX8_isCoding_10 : decode cX8_isCoding 10 = .ok (.goto 4, 3) := by decide +kernel
theorem dX8_isCoding_13 : decode cX8_isCoding 13 = .ok (.iconst 0, 1) := by decide +kernel
theorem dX8_isCoding_14 : decode cX8_isCoding 14 = .ok (.ireturn, 1) := by decide +kernel
theorem dX8_widthOf_0 : decode cX8_widthOf 0 = .ok (.iconst 0, 1) := by decide +kernel
theorem dX8_widthOf_1 : decode cX8_widthOf 1 = .ok (.istore_n 1, 1) := by decide +kernel
theorem dX8_widthOf_2 : decode cX8_widthOf 2 = .ok (.iload_n 1, 1) := by decide +kernel
theorem dX8_widthOf_3 : decode cX8_widthOf 3 = .ok (.bipush 11, 2) := by decide +kernel
theorem dX8_widthOf_5 : decode cX8_widthOf 5 = .ok (.if_icmp .ge 15, 3) := by decide +kernel
theorem dX8_widthOf_8 : decode cX8_widthOf 8 = .ok (.iload_n 0, 1) := by decide +kernel
theorem dX8_widthOf_9 : decode cX8_widthOf 9 = .ok (.iload_n 1, 1) := by decide +kernel
theorem dX8_widthOf_10 : decode cX8_widthOf 10 = .ok (.ishr, 1) := by decide +kernel
theorem dX8_widthOf_11 : decode cX8_widthOf 11 = .ok (.ifCond .le 9, 3) := by decide +kernel
theorem dX8_widthOf_14 : decode cX8_widthOf 14 = .ok (.iinc 1 1, 3) := by decide +kernel
theorem dX8_widthOf_17 : decode cX8_widthOf 17 = .ok (.goto (-15), 3) := by decide +kernel
theorem dX8_widthOf_20 : decode cX8_widthOf 20 = .ok (.iload_n 1, 1) := by decide +kernel
theorem dX8_widthOf_21 : decode cX8_widthOf 21 = .ok (.ireturn, 1) := by decide +kernel
theorem dX9_init_0 : decode cX9_init 0 = .ok (.aload_n 0, 1) := by decide +kernel
theorem dX9_init_1 : decode cX9_init 1 = .ok (.invokespecial 1, 3) := by decide +kernel
theorem dX9_init_4 : decode cX9_init 4 = .ok (.aload_n 0, 1) := by decide +kernel
theorem dX9_init_5 : decode cX9_init 5 = .ok (.sipush 160, 3) := by decide +kernel
theorem dX9_init_8 : decode cX9_init 8 = .ok (.newarray .int, 2) := by decide +kernel
theorem dX9_init_10 : decode cX9_init 10 = .ok (.putfield 7, 3) := by decide +kernel
theorem dX9_init_13 : decode cX9_init 13 = .ok (.aload_n 0, 1) := by decide +kernel
theorem dX9_init_14 : decode cX9_init 14 = .ok (.sipush 142, 3) := by decide +kernel
theorem dX9_init_17 : decode cX9_init 17 = .ok (.newarray .int, 2) := by decide +kernel
