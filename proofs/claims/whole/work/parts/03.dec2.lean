theorem dX9_init_19 : decode cX9_init 19 = .ok (.putfield 13, 3) := by decide +kernel
theorem dX9_init_22 : decode cX9_init 22 = .ok (.aload_n 0, 1) := by decide +kernel
theorem dX9_init_23 : decode cX9_init 23 = .ok (.sipush 142, 3) := by decide +kernel
theorem dX9_init_26 : decode cX9_init 26 = .ok (.newarray .int, 2) := by decide +kernel
theorem dX9_init_28 : decode cX9_init 28 = .ok (.putfield 16, 3) := by decide +kernel
theorem dX9_init_31 : decode cX9_init 31 = .ok (.aload_n 0, 1) := by decide +kernel
theorem dX9_init_32 : decode cX9_init 32 = .ok (.sipush 142, 3) := by decide +kernel
theorem dX9_init_35 : decode cX9_init 35 = .ok (.newarray .int, 2) := by decide +kernel
theorem dX9_init_37 : decode cX9_init 37 = .ok (.putfield 19, 3) := by decide +kernel
theorem dX9_init_40 : decode cX9_init 40 = .ok (.aload_n 0, 1) := by decide +kernel
theorem dX9_init_41 : decode cX9_init 41 = .ok (.sipush 1988, 3) := by decide +kernel
theorem dX9_init_44 : decode cX9_init 44 = .ok (.newarray .int, 2) := by decide +kernel
theorem dX9_init_46 : decode cX9_init 46 = .ok (.putfield 22, 3) := by decide +kernel
theorem dX9_init_49 : decode cX9_init 49 = .ok (.aload_n 0, 1) := by decide +kernel
theorem dX9_init_50 : decode cX9_init 50 = .ok (.sipush 284, 3) := by decide +kernel
theorem dX9_init_53 : decode cX9_init 53 = .ok (.newarray .int, 2) := by decide +kernel
theorem dX9_init_55 : decode cX9_init 55 = .ok (.putfield 25, 3) := by decide +kernel
theorem dX9_init_58 : decode cX9_init 58 = .ok (.aload_n 0, 1) := by decide +kernel
theorem dX9_init_59 : decode cX9_init 59 = .ok (.iconst 2, 1) := by decide +kernel
theorem dX9_init_60 : decode cX9_init 60 = .ok (.newarray .boolean, 2) := by decide +kernel
theorem dX9_init_62 : decode cX9_init 62 = .ok (.putfield 28, 3) := by decide +kernel
theorem dX9_init_65 : decode cX9_init 65 = .ok (.aload_n 0, 1) := by decide +kernel
theorem dX9_init_66 : decode cX9_init 66 = .ok (.sipush 200, 3) := by decide +kernel
theorem dX9_init_69 : decode cX9_init 69 = .ok (.newarray .int, 2) := by decide +kernel
theorem dX9_init_71 : decode cX9_init 71 = .ok (.putfield 32, 3) := by decide +kernel
theorem dX9_init_74 : decode cX9_init 74 = .ok (.aload_n 0, 1) := by decide +kernel
theorem dX9_init_75 : decode cX9_init 75 = .ok (.bipush 12, 2) := by decide +kernel
theorem dX9_init_77 : decode cX9_init 77 = .ok (.newarray .int, 2) := by decide +kernel
theorem dX9_init_79 : decode cX9_init 79 = .ok (.putfield 35, 3) := by decide +kernel
theorem dX9_init_82 : decode cX9_init 82 = .ok (.aload_n 0, 1) := by decide +kernel
theorem dX9_init_83 : decode cX9_init 83 = .ok (.bipush 12, 2) := by decide +kernel
theorem dX9_init_85 : decode cX9_init 85 = .ok (.newarray .int, 2) := by decide +kernel
theorem dX9_init_87 : decode cX9_init 87 = .ok (.putfield 38, 3) := by decide +kernel
theorem dX9_init_90 : decode cX9_init 90 = .ok (.aload_n 0, 1) := by decide +kernel
theorem dX9_init_91 : decode cX9_init 91 = .ok (.bipush 121, 2) := by decide +kernel
theorem dX9_init_93 : decode cX9_init 93 = .ok (.newarray .int, 2) := by decide +kernel
theorem dX9_init_95 : decode cX9_init 95 = .ok (.putfield 41, 3) := by decide +kernel
theorem dX9_init_98 : decode cX9_init 98 = .ok (.aload_n 0, 1) := by decide +kernel
theorem dX9_init_99 : decode cX9_init 99 = .ok (.getfield 13, 3) := by decide +kernel
theorem dX9_init_102 : decode cX9_init 102 = .ok (.iconst 1, 1) := by decide +kernel
theorem dX9_init_103 : decode cX9_init 103 = .ok (.bipush 8, 2) := by decide +kernel
theorem dX9_init_105 : decode cX9_init 105 = .ok (.iastore, 1) := by decide +kernel
theorem dX9_init_106 : decode cX9_init 106 = .ok (.return_, 1) := by decide +kernel
theorem dX9_thrown_0 : decode cX9_thrown 0 = .ok (.aload_n 0, 1) := by decide +kernel
theorem dX9_thrown_1 : decode cX9_thrown 1 = .ok (.getfield 44, 3) := by decide +kernel
theorem dX9_thrown_4 : decode cX9_thrown 4 = .ok (.ireturn, 1) := by decide +kernel
theorem dX9_refused_0 : decode cX9_refused 0 = .ok (.aload_n 0, 1) := by decide +kernel
theorem dX9_refused_1 : decode cX9_refused 1 = .ok (.iload_n 1, 1) := by decide +kernel
theorem dX9_refused_2 : decode cX9_refused 2 = .ok (.putfield 44, 3) := by decide +kernel
theorem dX9_refused_5 : decode cX9_refused 5 = .ok (.iload_n 1, 1) := by decide +kernel
theorem dX9_refused_6 : decode cX9_refused 6 = .ok (.ifCond .le 7, 3) := by decide +kernel
theorem dX9_refused_9 : decode cX9_refused 9 = .ok (.iconst 1, 1) := by decide +kernel
theorem dX9_refused_10 : decode cX9_refused 10 = .ok (.goto 4, 3) := by decide +kernel
theorem dX9_refused_13 : decode cX9_refused 13 = .ok (.iconst 0, 1) := by decide +kernel
theorem dX9_refused_14 : decode cX9_refused 14 = .ok (.ireturn, 1) := by decide +kernel
theorem dX9_in_0 : decode cX9_in 0 = .ok (.lload_n 0, 1) := by decide +kernel
theorem dX9_in_1 : decode cX9_in 1 = .ok (.lload_n 2, 1) := by decide +kernel
theorem dX9_in_2 : decode cX9_in 2 = .ok (.lcmp, 1) := by decide +kernel
theorem dX9_in_3 : decode cX9_in 3 = .ok (.ifCond .lt 14, 3) := by decide +kernel
theorem dX9_in_6 : decode cX9_in 6 = .ok (.lload_n 0, 1) := by decide +kernel
theorem dX9_in_7 : decode cX9_in 7 = .ok (.lload 4, 2) := by decide +kernel
theorem dX9_in_9 : decode cX9_in 9 = .ok (.lcmp, 1) := by decide +kernel
theorem dX9_in_10 : decode cX9_in 10 = .ok (.ifCond .gt 7, 3) := by decide +kernel
theorem dX9_in_13 : decode cX9_in 13 = .ok (.iconst 1, 1) := by decide +kernel
theorem dX9_in_14 : decode cX9_in 14 = .ok (.goto 4, 3) := by decide +kernel
theorem dX9_in_17 : decode cX9_in 17 = .ok (.iconst 0, 1) := by decide +kernel
theorem dX9_in_18 : decode cX9_in 18 = .ok (.ireturn, 1) := by decide +kernel
theorem dX9_less_0 : decode cX9_less 0 = .ok (.iload_n 0, 1) := by decide +kernel
theorem dX9_less_1 : decode cX9_less 1 = .ok (.iload_n 1, 1) := by decide +kernel
theorem dX9_less_2 : decode cX9_less 2 = .ok (.if_icmp .ge 7, 3) := by decide +kernel
theorem dX9_less_5 : decode cX9_less 5 = .ok (.iload_n 0, 1) := by decide +kernel
theorem dX9_less_6 : decode cX9_less 6 = .ok (.goto 4, 3) := by decide +kernel
theorem dX9_less_9 : decode cX9_less 9 = .ok (.iload_n 1, 1) := by decide +kernel
theorem dX9_less_10 : decode cX9_less 10 = .ok (.ireturn, 1) := by decide +kernel
theorem dX9_more_0 : decode cX9_more 0 = .ok (.iload_n 0, 1) := by decide +kernel
theorem dX9_more_1 : decode cX9_more 1 = .ok (.iload_n 1, 1) := by decide +kernel
theorem dX9_more_2 : decode cX9_more 2 = .ok (.if_icmp .le 7, 3) := by decide +kernel
theorem dX9_more_5 : decode cX9_more 5 = .ok (.iload_n 0, 1) := by decide +kernel
theorem dX9_more_6 : decode cX9_more 6 = .ok (.goto 4, 3) := by decide +kernel
theorem dX9_more_9 : decode cX9_more 9 = .ok (.iload_n 1, 1) := by decide +kernel
theorem dX9_more_10 : decode cX9_more 10 = .ok (.ireturn, 1) := by decide +kernel
theorem dX9_copyColumn_0 : decode cX9_copyColumn 0 = .ok (.iconst 0, 1) := by decide +kernel
theorem dX9_copyColumn_1 : decode cX9_copyColumn 1 = .ok (.istore 4, 2) := by decide +kernel
theorem dX9_copyColumn_3 : decode cX9_copyColumn 3 = .ok (.iload 4, 2) := by decide +kernel
theorem dX9_copyColumn_5 : decode cX9_copyColumn 5 = .ok (.sipush 142, 3) := by decide +kernel
theorem dX9_copyColumn_8 : decode cX9_copyColumn 8 = .ok (.if_icmp .ge 21, 3) := by decide +kernel
theorem dX9_copyColumn_11 : decode cX9_copyColumn 11 = .ok (.aload_n 2, 1) := by decide +kernel
theorem dX9_copyColumn_12 : decode cX9_copyColumn 12 = .ok (.iload_n 3, 1) := by decide +kernel
theorem dX9_copyColumn_13 : decode cX9_copyColumn 13 = .ok (.iload 4, 2) := by decide +kernel
theorem dX9_copyColumn_15 : decode cX9_copyColumn 15 = .ok (.iadd, 1) := by decide +kernel
theorem dX9_copyColumn_16 : decode cX9_copyColumn 16 = .ok (.aload_n 0, 1) := by decide +kernel
theorem dX9_copyColumn_17 : decode cX9_copyColumn 17 = .ok (.iload_n 1, 1) := by decide +kernel
theorem dX9_copyColumn_18 : decode cX9_copyColumn 18 = .ok (.iload 4, 2) := by decide +kernel
theorem dX9_copyColumn_20 : decode cX9_copyColumn 20 = .ok (.iadd, 1) := by decide +kernel
theorem dX9_copyColumn_21 : decode cX9_copyColumn 21 = .ok (.iaload, 1) := by decide +kernel
theorem dX9_copyColumn_22 : decode cX9_copyColumn 22 = .ok (.iastore, 1) := by decide +kernel
theorem dX9_copyColumn_23 : decode cX9_copyColumn 23 = .ok (.iinc 4 1, 3) := by decide +kernel
theorem dX9_copyColumn_26 : decode cX9_copyColumn 26 = .ok (.goto (-23), 3) := by decide +kernel
theorem dX9_copyColumn_29 : decode cX9_copyColumn 29 = .ok (.return_, 1) := by decide +kernel
theorem dX9_firstOf_0 : decode cX9_firstOf 0 = .ok (.iconst 0, 1) := by decide +kernel
theorem dX9_firstOf_1 : decode cX9_firstOf 1 = .ok (.istore_n 2, 1) := by decide +kernel
theorem dX9_firstOf_2 : decode cX9_firstOf 2 = .ok (.iconst 0, 1) := by decide +kernel
theorem dX9_firstOf_3 : decode cX9_firstOf 3 = .ok (.istore_n 3, 1) := by decide +kernel
theorem dX9_firstOf_4 : decode cX9_firstOf 4 = .ok (.iload_n 3, 1) := by decide +kernel
theorem dX9_firstOf_5 : decode cX9_firstOf 5 = .ok (.iload_n 1, 1) := by decide +kernel
theorem dX9_firstOf_6 : decode cX9_firstOf 6 = .ok (.if_icmp .ge 17, 3) := by decide +kernel
theorem dX9_firstOf_9 : decode cX9_firstOf 9 = .ok (.iload_n 2, 1) := by decide +kernel
theorem dX9_firstOf_10 : decode cX9_firstOf 10 = .ok (.aload_n 0, 1) := by decide +kernel
theorem dX9_firstOf_11 : decode cX9_firstOf 11 = .ok (.iconst 2, 1) := by decide +kernel
theorem dX9_firstOf_12 : decode cX9_firstOf 12 = .ok (.iload_n 3, 1) := by decide +kernel
theorem dX9_firstOf_13 : decode cX9_firstOf 13 = .ok (.iadd, 1) := by decide +kernel
theorem dX9_firstOf_14 : decode cX9_firstOf 14 = .ok (.iaload, 1) := by decide +kernel
theorem dX9_firstOf_15 : decode cX9_firstOf 15 = .ok (.iadd, 1) := by decide +kernel
theorem dX9_firstOf_16 : decode cX9_firstOf 16 = .ok (.istore_n 2, 1) := by decide +kernel
theorem dX9_firstOf_17 : decode cX9_firstOf 17 = .ok (.iinc 3 1, 3) := by decide +kernel
theorem dX9_firstOf_20 : decode cX9_firstOf 20 = .ok (.goto (-16), 3) := by decide +kernel
theorem dX9_firstOf_23 : decode cX9_firstOf 23 = .ok (.iload_n 2, 1) := by decide +kernel
theorem dX9_firstOf_24 : decode cX9_firstOf 24 = .ok (.ireturn, 1) := by decide +kernel
theorem dX9_valuesOf_0 : decode cX9_valuesOf 0 = .ok (.aload_n 0, 1) := by decide +kernel
theorem dX9_valuesOf_1 : decode cX9_valuesOf 1 = .ok (.aload_n 0, 1) := by decide +kernel
theorem dX9_valuesOf_2 : decode cX9_valuesOf 2 = .ok (.iconst 0, 1) := by decide +kernel
theorem dX9_valuesOf_3 : decode cX9_valuesOf 3 = .ok (.iaload, 1) := by decide +kernel
theorem dX9_valuesOf_4 : decode cX9_valuesOf 4 = .ok (.invokestatic 48, 3) := by decide +kernel
theorem dX9_valuesOf_7 : decode cX9_valuesOf 7 = .ok (.ireturn, 1) := by decide +kernel
theorem dX9_isPage_0 : decode cX9_isPage 0 = .ok (.iload_n 1, 1) := by decide +kernel
theorem dX9_isPage_1 : decode cX9_isPage 1 = .ok (.i2l, 1) := by decide +kernel
theorem dX9_isPage_2 : decode cX9_isPage 2 = .ok (.lconst 0, 1) := by decide +kernel
theorem dX9_isPage_3 : decode cX9_isPage 3 = .ok (.aload_n 0, 1) := by decide +kernel
theorem dX9_isPage_4 : decode cX9_isPage 4 = .ok (.iconst 0, 1) := by decide +kernel
theorem dX9_isPage_5 : decode cX9_isPage 5 = .ok (.iaload, 1) := by decide +kernel
theorem dX9_isPage_6 : decode cX9_isPage 6 = .ok (.iconst 1, 1) := by decide +kernel
theorem dX9_isPage_7 : decode cX9_isPage 7 = .ok (.isub, 1) := by decide +kernel
theorem dX9_isPage_8 : decode cX9_isPage 8 = .ok (.i2l, 1) := by decide +kernel
theorem dX9_isPage_9 : decode cX9_isPage 9 = .ok (.invokestatic 52, 3) := by decide +kernel
theorem dX9_isPage_12 : decode cX9_isPage 12 = .ok (.ireturn, 1) := by decide +kernel
theorem dX9_isValue_0 : decode cX9_isValue 0 = .ok (.iload_n 1, 1) := by decide +kernel
theorem dX9_isValue_1 : decode cX9_isValue 1 = .ok (.i2l, 1) := by decide +kernel
theorem dX9_isValue_2 : decode cX9_isValue 2 = .ok (.lconst 0, 1) := by decide +kernel
theorem dX9_isValue_3 : decode cX9_isValue 3 = .ok (.aload_n 0, 1) := by decide +kernel
theorem dX9_isValue_4 : decode cX9_isValue 4 = .ok (.invokestatic 56, 3) := by decide +kernel
theorem dX9_isValue_7 : decode cX9_isValue 7 = .ok (.iconst 1, 1) := by decide +kernel
theorem dX9_isValue_8 : decode cX9_isValue 8 = .ok (.isub, 1) := by decide +kernel
theorem dX9_isValue_9 : decode cX9_isValue 9 = .ok (.i2l, 1) := by decide +kernel
theorem dX9_isValue_10 : decode cX9_isValue 10 = .ok (.invokestatic 52, 3) := by decide +kernel
theorem dX9_isValue_13 : decode cX9_isValue 13 = .ok (.ireturn, 1) := by decide +kernel
theorem dX9_pageOf_0 : decode cX9_pageOf 0 = .ok (.iconst 0, 1) := by decide +kernel
theorem dX9_pageOf_1 : decode cX9_pageOf 1 = .ok (.istore_n 2, 1) := by decide +kernel
theorem dX9_pageOf_2 : decode cX9_pageOf 2 = .ok (.aload_n 0, 1) := by decide +kernel
theorem dX9_pageOf_3 : decode cX9_pageOf 3 = .ok (.iconst 2, 1) := by decide +kernel
theorem dX9_pageOf_4 : decode cX9_pageOf 4 = .ok (.iaload, 1) := by decide +kernel
theorem dX9_pageOf_5 : decode cX9_pageOf 5 = .ok (.istore_n 3, 1) := by decide +kernel
theorem dX9_pageOf_6 : decode cX9_pageOf 6 = .ok (.iload_n 3, 1) := by decide +kernel
theorem dX9_pageOf_7 : decode cX9_pageOf 7 = .ok (.iload_n 1, 1) := by decide +kernel
theorem dX9_pageOf_8 : decode cX9_pageOf 8 = .ok (.if_icmp .gt 17, 3) := by decide +kernel
theorem dX9_pageOf_11 : decode cX9_pageOf 11 = .ok (.iinc 2 1, 3) := by decide +kernel
theorem dX9_pageOf_14 : decode cX9_pageOf 14 = .ok (.iload_n 3, 1) := by decide +kernel
theorem dX9_pageOf_15 : decode cX9_pageOf 15 = .ok (.aload_n 0, 1) := by decide +kernel
theorem dX9_pageOf_16 : decode cX9_pageOf 16 = .ok (.iconst 2, 1) := by decide +kernel
theorem dX9_pageOf_17 : decode cX9_pageOf 17 = .ok (.iload_n 2, 1) := by decide +kernel
theorem dX9_pageOf_18 : decode cX9_pageOf 18 = .ok (.iadd, 1) := by decide +kernel
theorem dX9_pageOf_19 : decode cX9_pageOf 19 = .ok (.iaload, 1) := by decide +kernel
theorem dX9_pageOf_20 : decode cX9_pageOf 20 = .ok (.iadd, 1) := by decide +kernel
theorem dX9_pageOf_21 : decode cX9_pageOf 21 = .ok (.istore_n 3, 1) := by decide +kernel
theorem dX9_pageOf_22 : decode cX9_pageOf 22 = .ok (.goto (-16), 3) := by decide +kernel
theorem dX9_pageOf_25 : decode cX9_pageOf 25 = .ok (.iload_n 2, 1) := by decide +kernel
theorem dX9_pageOf_26 : decode cX9_pageOf 26 = .ok (.ireturn, 1) := by decide +kernel
theorem dX9_width_0 : decode cX9_width 0 = .ok (.iconst 0, 1) := by decide +kernel
theorem dX9_width_1 : decode cX9_width 1 = .ok (.istore_n 1, 1) := by decide +kernel
theorem dX9_width_2 : decode cX9_width 2 = .ok (.iload_n 0, 1) := by decide +kernel
theorem dX9_width_3 : decode cX9_width 3 = .ok (.iload_n 1, 1) := by decide +kernel
theorem dX9_width_4 : decode cX9_width 4 = .ok (.ishr, 1) := by decide +kernel
theorem dX9_width_5 : decode cX9_width 5 = .ok (.ifCond .le 9, 3) := by decide +kernel
theorem dX9_width_8 : decode cX9_width 8 = .ok (.iinc 1 1, 3) := by decide +kernel
theorem dX9_width_11 : decode cX9_width 11 = .ok (.goto (-9), 3) := by decide +kernel
theorem dX9_width_14 : decode cX9_width 14 = .ok (.iload_n 1, 1) := by decide +kernel
theorem dX9_width_15 : decode cX9_width 15 = .ok (.ireturn, 1) := by decide +kernel
theorem dX9_smallestIn_0 : decode cX9_smallestIn 0 = .ok (.sipush 1023, 3) := by decide +kernel
theorem dX9_smallestIn_3 : decode cX9_smallestIn 3 = .ok (.istore_n 3, 1) := by decide +kernel
theorem dX9_smallestIn_4 : decode cX9_smallestIn 4 = .ok (.iload_n 1, 1) := by decide +kernel
theorem dX9_smallestIn_5 : decode cX9_smallestIn 5 = .ok (.istore 4, 2) := by decide +kernel
theorem dX9_smallestIn_7 : decode cX9_smallestIn 7 = .ok (.iload 4, 2) := by decide +kernel
theorem dX9_smallestIn_9 : decode cX9_smallestIn 9 = .ok (.iload_n 1, 1) := by decide +kernel
theorem dX9_smallestIn_10 : decode cX9_smallestIn 10 = .ok (.iload_n 2, 1) := by decide +kernel
theorem dX9_smallestIn_11 : decode cX9_smallestIn 11 = .ok (.iadd, 1) := by decide +kernel
theorem dX9_smallestIn_12 : decode cX9_smallestIn 12 = .ok (.if_icmp .ge 18, 3) := by decide +kernel
theorem dX9_smallestIn_15 : decode cX9_smallestIn 15 = .ok (.iload_n 3, 1) := by decide +kernel
theorem dX9_smallestIn_16 : decode cX9_smallestIn 16 = .ok (.aload_n 0, 1) := by decide +kernel
theorem dX9_smallestIn_17 : decode cX9_smallestIn 17 = .ok (.iload 4, 2) := by decide +kernel
theorem dX9_smallestIn_19 : decode cX9_smallestIn 19 = .ok (.iaload, 1) := by decide +kernel
theorem dX9_smallestIn_20 : decode cX9_smallestIn 20 = .ok (.invokestatic 60, 3) := by decide +kernel
theorem dX9_smallestIn_23 : decode cX9_smallestIn 23 = .ok (.istore_n 3, 1) := by decide +kernel
theorem dX9_smallestIn_24 : decode cX9_smallestIn 24 = .ok (.iinc 4 1, 3) := by decide +kernel
theorem dX9_smallestIn_27 : decode cX9_smallestIn 27 = .ok (.goto (-20), 3) := by decide +kernel
theorem dX9_smallestIn_30 : decode cX9_smallestIn 30 = .ok (.iload_n 3, 1) := by decide +kernel
theorem dX9_smallestIn_31 : decode cX9_smallestIn 31 = .ok (.ireturn, 1) := by decide +kernel
theorem dX9_greatestIn_0 : decode cX9_greatestIn 0 = .ok (.iconst 0, 1) := by decide +kernel
theorem dX9_greatestIn_1 : decode cX9_greatestIn 1 = .ok (.istore_n 3, 1) := by decide +kernel
theorem dX9_greatestIn_2 : decode cX9_greatestIn 2 = .ok (.iload_n 1, 1) := by decide +kernel
theorem dX9_greatestIn_3 : decode cX9_greatestIn 3 = .ok (.istore 4, 2) := by decide +kernel
theorem dX9_greatestIn_5 : decode cX9_greatestIn 5 = .ok (.iload 4, 2) := by decide +kernel
theorem dX9_greatestIn_7 : decode cX9_greatestIn 7 = .ok (.iload_n 1, 1) := by decide +kernel
theorem dX9_greatestIn_8 : decode cX9_greatestIn 8 = .ok (.iload_n 2, 1) := by decide +kernel
theorem dX9_greatestIn_9 : decode cX9_greatestIn 9 = .ok (.iadd, 1) := by decide +kernel
theorem dX9_greatestIn_10 : decode cX9_greatestIn 10 = .ok (.if_icmp .ge 18, 3) := by decide +kernel
theorem dX9_greatestIn_13 : decode cX9_greatestIn 13 = .ok (.iload_n 3, 1) := by decide +kernel
theorem dX9_greatestIn_14 : decode cX9_greatestIn 14 = .ok (.aload_n 0, 1) := by decide +kernel
theorem dX9_greatestIn_15 : decode cX9_greatestIn 15 = .ok (.iload 4, 2) := by decide +kernel
theorem dX9_greatestIn_17 : decode cX9_greatestIn 17 = .ok (.iaload, 1) := by decide +kernel
theorem dX9_greatestIn_18 : decode cX9_greatestIn 18 = .ok (.invokestatic 64, 3) := by decide +kernel
theorem dX9_greatestIn_21 : decode cX9_greatestIn 21 = .ok (.istore_n 3, 1) := by decide +kernel
theorem dX9_greatestIn_22 : decode cX9_greatestIn 22 = .ok (.iinc 4 1, 3) := by decide +kernel
theorem dX9_greatestIn_25 : decode cX9_greatestIn 25 = .ok (.goto (-20), 3) := by decide +kernel
theorem dX9_greatestIn_28 : decode cX9_greatestIn 28 = .ok (.iload_n 3, 1) := by decide +kernel
theorem dX9_greatestIn_29 : decode cX9_greatestIn 29 = .ok (.ireturn, 1) := by decide +kernel
theorem dX9_isNew_0 : decode cX9_isNew 0 = .ok (.iload_n 1, 1) := by decide +kernel
theorem dX9_isNew_1 : decode cX9_isNew 1 = .ok (.istore_n 3, 1) := by decide +kernel
theorem dX9_isNew_2 : decode cX9_isNew 2 = .ok (.iload_n 3, 1) := by decide +kernel
theorem dX9_isNew_3 : decode cX9_isNew 3 = .ok (.iload_n 2, 1) := by decide +kernel
theorem dX9_isNew_4 : decode cX9_isNew 4 = .ok (.if_icmp .ge 20, 3) := by decide +kernel
theorem dX9_isNew_7 : decode cX9_isNew 7 = .ok (.aload_n 0, 1) := by decide +kernel
theorem dX9_isNew_8 : decode cX9_isNew 8 = .ok (.iload_n 3, 1) := by decide +kernel
theorem dX9_isNew_9 : decode cX9_isNew 9 = .ok (.iaload, 1) := by decide +kernel
theorem dX9_isNew_10 : decode cX9_isNew 10 = .ok (.aload_n 0, 1) := by decide +kernel
theorem dX9_isNew_11 : decode cX9_isNew 11 = .ok (.iload_n 2, 1) := by decide +kernel
theorem dX9_isNew_12 : decode cX9_isNew 12 = .ok (.iaload, 1) := by decide +kernel
theorem dX9_isNew_13 : decode cX9_isNew 13 = .ok (.if_icmp .ne 5, 3) := by decide +kernel
theorem dX9_isNew_16 : decode cX9_isNew 16 = .ok (.iconst 0, 1) := by decide +kernel
theorem dX9_isNew_17 : decode cX9_isNew 17 = .ok (.ireturn, 1) := by decide +kernel
theorem dX9_isNew_18 : decode cX9_isNew 18 = .ok (.iinc 3 1, 3) := by decide +kernel
theorem dX9_isNew_21 : decode cX9_isNew 21 = .ok (.goto (-19), 3) := by decide +kernel
theorem dX9_isNew_24 : decode cX9_isNew 24 = .ok (.iconst 1, 1) := by decide +kernel
theorem dX9_isNew_25 : decode cX9_isNew 25 = .ok (.ireturn, 1) := by decide +kernel
theorem dX9_differentIn_0 : decode cX9_differentIn 0 = .ok (.iconst 0, 1) := by decide +kernel
theorem dX9_differentIn_1 : decode cX9_differentIn 1 = .ok (.istore_n 3, 1) := by decide +kernel
theorem dX9_differentIn_2 : decode cX9_differentIn 2 = .ok (.iload_n 1, 1) := by decide +kernel
theorem dX9_differentIn_3 : decode cX9_differentIn 3 = .ok (.istore 4, 2) := by decide +kernel
theorem dX9_differentIn_5 : decode cX9_differentIn 5 = .ok (.iload 4, 2) := by decide +kernel
theorem dX9_differentIn_7 : decode cX9_differentIn 7 = .ok (.iload_n 1, 1) := by decide +kernel
theorem dX9_differentIn_8 : decode cX9_differentIn 8 = .ok (.iload_n 2, 1) := by decide +kernel
theorem dX9_differentIn_9 : decode cX9_differentIn 9 = .ok (.iadd, 1) := by decide +kernel
theorem dX9_differentIn_10 : decode cX9_differentIn 10 = .ok (.if_icmp .ge 27, 3) := by decide +kernel
theorem dX9_differentIn_13 : decode cX9_differentIn 13 = .ok (.iload_n 3, 1) := by decide +kernel
theorem dX9_differentIn_14 : decode cX9_differentIn 14 = .ok (.aload_n 0, 1) := by decide +kernel
theorem dX9_differentIn_15 : decode cX9_differentIn 15 = .ok (.iload_n 1, 1) := by decide +kernel
theorem dX9_differentIn_16 : decode cX9_differentIn 16 = .ok (.iload 4, 2) := by decide +kernel
theorem dX9_differentIn_18 : decode cX9_differentIn 18 = .ok (.invokestatic 67, 3) := by decide +kernel
theorem dX9_differentIn_21 : decode cX9_differentIn 21 = .ok (.ifCond .eq 7, 3) := by decide +kernel
theorem dX9_differentIn_24 : decode cX9_differentIn 24 = .ok (.iconst 1, 1) := by decide +kernel
theorem dX9_differentIn_25 : decode cX9_differentIn 25 = .ok (.goto 4, 3) := by decide +kernel
theorem dX9_differentIn_28 : decode cX9_differentIn 28 = .ok (.iconst 0, 1) := by decide +kernel
theorem dX9_differentIn_29 : decode cX9_differentIn 29 = .ok (.iadd, 1) := by decide +kernel
theorem dX9_differentIn_30 : decode cX9_differentIn 30 = .ok (.istore_n 3, 1) := by decide +kernel
theorem dX9_differentIn_31 : decode cX9_differentIn 31 = .ok (.iinc 4 1, 3) := by decide +kernel
theorem dX9_differentIn_34 : decode cX9_differentIn 34 = .ok (.goto (-29), 3) := by decide +kernel
theorem dX9_differentIn_37 : decode cX9_differentIn 37 = .ok (.iload_n 3, 1) := by decide +kernel
theorem dX9_differentIn_38 : decode cX9_differentIn 38 = .ok (.ireturn, 1) := by decide +kernel
theorem dX9_wordOf_0 : decode cX9_wordOf 0 = .ok (.iconst 0, 1) := by decide +kernel
theorem dX9_wordOf_1 : decode cX9_wordOf 1 = .ok (.istore 4, 2) := by decide +kernel
theorem dX9_wordOf_3 : decode cX9_wordOf 3 = .ok (.iload_n 1, 1) := by decide +kernel
theorem dX9_wordOf_4 : decode cX9_wordOf 4 = .ok (.istore 5, 2) := by decide +kernel
theorem dX9_wordOf_6 : decode cX9_wordOf 6 = .ok (.iload 5, 2) := by decide +kernel
theorem dX9_wordOf_8 : decode cX9_wordOf 8 = .ok (.iload_n 1, 1) := by decide +kernel
theorem dX9_wordOf_9 : decode cX9_wordOf 9 = .ok (.iload_n 2, 1) := by decide +kernel
theorem dX9_wordOf_10 : decode cX9_wordOf 10 = .ok (.iadd, 1) := by decide +kernel
theorem dX9_wordOf_11 : decode cX9_wordOf 11 = .ok (.if_icmp .ge 33, 3) := by decide +kernel
theorem dX9_wordOf_14 : decode cX9_wordOf 14 = .ok (.aload_n 0, 1) := by decide +kernel
theorem dX9_wordOf_15 : decode cX9_wordOf 15 = .ok (.iload_n 1, 1) := by decide +kernel
theorem dX9_wordOf_16 : decode cX9_wordOf 16 = .ok (.iload 5, 2) := by decide +kernel
theorem dX9_wordOf_18 : decode cX9_wordOf 18 = .ok (.invokestatic 67, 3) := by decide +kernel
theorem dX9_wordOf_21 : decode cX9_wordOf 21 = .ok (.ifCond .eq 17, 3) := by decide +kernel
theorem dX9_wordOf_24 : decode cX9_wordOf 24 = .ok (.aload_n 0, 1) := by decide +kernel
theorem dX9_wordOf_25 : decode cX9_wordOf 25 = .ok (.iload 5, 2) := by decide +kernel
theorem dX9_wordOf_27 : decode cX9_wordOf 27 = .ok (.iaload, 1) := by decide +kernel
theorem dX9_wordOf_28 : decode cX9_wordOf 28 = .ok (.iload_n 3, 1) := by decide +kernel
theorem dX9_wordOf_29 : decode cX9_wordOf 29 = .ok (.if_icmp .ne 6, 3) := by decide +kernel
theorem dX9_wordOf_32 : decode cX9_wordOf 32 = .ok (.iload 4, 2) := by decide +kernel
theorem dX9_wordOf_34 : decode cX9_wordOf 34 = .ok (.ireturn, 1) := by decide +kernel
theorem dX9_wordOf_35 : decode cX9_wordOf 35 = .ok (.iinc 4 1, 3) := by decide +kernel
theorem dX9_wordOf_38 : decode cX9_wordOf 38 = .ok (.iinc 5 1, 3) := by decide +kernel
theorem dX9_wordOf_41 : decode cX9_wordOf 41 = .ok (.goto (-35), 3) := by decide +kernel
theorem dX9_wordOf_44 : decode cX9_wordOf 44 = .ok (.iload 4, 2) := by decide +kernel
theorem dX9_wordOf_46 : decode cX9_wordOf 46 = .ok (.ireturn, 1) := by decide +kernel
theorem dX9_runsIn_0 : decode cX9_runsIn 0 = .ok (.iconst 1, 1) := by decide +kernel
theorem dX9_runsIn_1 : decode cX9_runsIn 1 = .ok (.istore_n 3, 1) := by decide +kernel
theorem dX9_runsIn_2 : decode cX9_runsIn 2 = .ok (.iload_n 1, 1) := by decide +kernel
theorem dX9_runsIn_3 : decode cX9_runsIn 3 = .ok (.iconst 1, 1) := by decide +kernel
theorem dX9_runsIn_4 : decode cX9_runsIn 4 = .ok (.iadd, 1) := by decide +kernel
theorem dX9_runsIn_5 : decode cX9_runsIn 5 = .ok (.istore 4, 2) := by decide +kernel
theorem dX9_runsIn_7 : decode cX9_runsIn 7 = .ok (.iload 4, 2) := by decide +kernel
theorem dX9_runsIn_9 : decode cX9_runsIn 9 = .ok (.iload_n 1, 1) := by decide +kernel
theorem dX9_runsIn_10 : decode cX9_runsIn 10 = .ok (.iload_n 2, 1) := by decide +kernel
theorem dX9_runsIn_11 : decode cX9_runsIn 11 = .ok (.iadd, 1) := by decide +kernel
theorem dX9_runsIn_12 : decode cX9_runsIn 12 = .ok (.if_icmp .ge 30, 3) := by decide +kernel
theorem dX9_runsIn_15 : decode cX9_runsIn 15 = .ok (.iload_n 3, 1) := by decide +kernel
theorem dX9_runsIn_16 : decode cX9_runsIn 16 = .ok (.aload_n 0, 1) := by decide +kernel
theorem dX9_runsIn_17 : decode cX9_runsIn 17 = .ok (.iload 4, 2) := by decide +kernel
theorem dX9_runsIn_19 : decode cX9_runsIn 19 = .ok (.iaload, 1) := by decide +kernel
theorem dX9_runsIn_20 : decode cX9_runsIn 20 = .ok (.aload_n 0, 1) := by decide +kernel
theorem dX9_runsIn_21 : decode cX9_runsIn 21 = .ok (.iload 4, 2) := by decide +kernel
theorem dX9_runsIn_23 : decode cX9_runsIn 23 = .ok (.iconst 1, 1) := by decide +kernel
theorem dX9_runsIn_24 : decode cX9_runsIn 24 = .ok (.isub, 1) := by decide +kernel
theorem dX9_runsIn_25 : decode cX9_runsIn 25 = .ok (.iaload, 1) := by decide +kernel
theorem dX9_runsIn_26 : decode cX9_runsIn 26 = .ok (.if_icmp .ne 7, 3) := by decide +kernel
theorem dX9_runsIn_29 : decode cX9_runsIn 29 = .ok (.iconst 0, 1) := by decide +kernel
theorem dX9_runsIn_30 : decode cX9_runsIn 30 = .ok (.goto 4, 3) := by decide +kernel
theorem dX9_runsIn_33 : decode cX9_runsIn 33 = .ok (.iconst 1, 1) := by decide +kernel
theorem dX9_runsIn_34 : decode cX9_runsIn 34 = .ok (.iadd, 1) := by decide +kernel
theorem dX9_runsIn_35 : decode cX9_runsIn 35 = .ok (.istore_n 3, 1) := by decide +kernel
theorem dX9_runsIn_36 : decode cX9_runsIn 36 = .ok (.iinc 4 1, 3) := by decide +kernel
theorem dX9_runsIn_39 : decode cX9_runsIn 39 = .ok (.goto (-32), 3) := by decide +kernel
theorem dX9_runsIn_42 : decode cX9_runsIn 42 = .ok (.iload_n 3, 1) := by decide +kernel
theorem dX9_runsIn_43 : decode cX9_runsIn 43 = .ok (.ireturn, 1) := by decide +kernel
theorem dX9_stepWidth_0 : decode cX9_stepWidth 0 = .ok (.iconst 1, 1) := by decide +kernel
theorem dX9_stepWidth_1 : decode cX9_stepWidth 1 = .ok (.istore_n 3, 1) := by decide +kernel
theorem dX9_stepWidth_2 : decode cX9_stepWidth 2 = .ok (.iload_n 1, 1) := by decide +kernel
theorem dX9_stepWidth_3 : decode cX9_stepWidth 3 = .ok (.iconst 1, 1) := by decide +kernel
theorem dX9_stepWidth_4 : decode cX9_stepWidth 4 = .ok (.iadd, 1) := by decide +kernel
theorem dX9_stepWidth_5 : decode cX9_stepWidth 5 = .ok (.istore 4, 2) := by decide +kernel
theorem dX9_stepWidth_7 : decode cX9_stepWidth 7 = .ok (.iload 4, 2) := by decide +kernel
theorem dX9_stepWidth_9 : decode cX9_stepWidth 9 = .ok (.iload_n 1, 1) := by decide +kernel
theorem dX9_stepWidth_10 : decode cX9_stepWidth 10 = .ok (.iload_n 2, 1) := by decide +kernel
theorem dX9_stepWidth_11 : decode cX9_stepWidth 11 = .ok (.iadd, 1) := by decide +kernel
theorem dX9_stepWidth_12 : decode cX9_stepWidth 12 = .ok (.if_icmp .ge 49, 3) := by decide +kernel
theorem dX9_stepWidth_15 : decode cX9_stepWidth 15 = .ok (.aload_n 0, 1) := by decide +kernel
theorem dX9_stepWidth_16 : decode cX9_stepWidth 16 = .ok (.iload 4, 2) := by decide +kernel
theorem dX9_stepWidth_18 : decode cX9_stepWidth 18 = .ok (.iaload, 1) := by decide +kernel
theorem dX9_stepWidth_19 : decode cX9_stepWidth 19 = .ok (.aload_n 0, 1) := by decide +kernel
theorem dX9_stepWidth_20 : decode cX9_stepWidth 20 = .ok (.iload 4, 2) := by decide +kernel
theorem dX9_stepWidth_22 : decode cX9_stepWidth 22 = .ok (.iconst 1, 1) := by decide +kernel
theorem dX9_stepWidth_23 : decode cX9_stepWidth 23 = .ok (.isub, 1) := by decide +kernel
theorem dX9_stepWidth_24 : decode cX9_stepWidth 24 = .ok (.iaload, 1) := by decide +kernel
theorem dX9_stepWidth_25 : decode cX9_stepWidth 25 = .ok (.isub, 1) := by decide +kernel
theorem dX9_stepWidth_26 : decode cX9_stepWidth 26 = .ok (.istore 5, 2) := by decide +kernel
theorem dX9_stepWidth_28 : decode cX9_stepWidth 28 = .ok (.iload 5, 2) := by decide +kernel
theorem dX9_stepWidth_30 : decode cX9_stepWidth 30 = .ok (.iconst 1, 1) := by decide +kernel
theorem dX9_stepWidth_31 : decode cX9_stepWidth 31 = .ok (.iload_n 3, 1) := by decide +kernel
theorem dX9_stepWidth_32 : decode cX9_stepWidth 32 = .ok (.iconst 1, 1) := by decide +kernel
theorem dX9_stepWidth_33 : decode cX9_stepWidth 33 = .ok (.isub, 1) := by decide +kernel
theorem dX9_stepWidth_34 : decode cX9_stepWidth 34 = .ok (.ishl, 1) := by decide +kernel
theorem dX9_stepWidth_35 : decode cX9_stepWidth 35 = .ok (.if_icmp .ge 14, 3) := by decide +kernel
theorem dX9_stepWidth_38 : decode cX9_stepWidth 38 = .ok (.iload 5, 2) := by decide +kernel
theorem dX9_stepWidth_40 : decode cX9_stepWidth 40 = .ok (.iconst 1, 1) := by decide +kernel
theorem dX9_stepWidth_41 : decode cX9_stepWidth 41 = .ok (.iload_n 3, 1) := by decide +kernel
theorem dX9_stepWidth_42 : decode cX9_stepWidth 42 = .ok (.iconst 1, 1) := by decide +kernel
theorem dX9_stepWidth_43 : decode cX9_stepWidth 43 = .ok (.isub, 1) := by decide +kernel
theorem dX9_stepWidth_44 : decode cX9_stepWidth 44 = .ok (.ishl, 1) := by decide +kernel
theorem dX9_stepWidth_45 : decode cX9_stepWidth 45 = .ok (.ineg, 1) := by decide +kernel
theorem dX9_stepWidth_46 : decode cX9_stepWidth 46 = .ok (.if_icmp .ge 9, 3) := by decide +kernel
theorem dX9_stepWidth_49 : decode cX9_stepWidth 49 = .ok (.iinc 3 1, 3) := by decide +kernel
theorem dX9_stepWidth_52 : decode cX9_stepWidth 52 = .ok (.goto (-24), 3) := by decide +kernel
theorem dX9_stepWidth_55 : decode cX9_stepWidth 55 = .ok (.iinc 4 1, 3) := by decide +kernel
theorem dX9_stepWidth_58 : decode cX9_stepWidth 58 = .ok (.goto (-51), 3) := by decide +kernel
theorem dX9_stepWidth_61 : decode cX9_stepWidth 61 = .ok (.iload_n 3, 1) := by decide +kernel
theorem dX9_stepWidth_62 : decode cX9_stepWidth 62 = .ok (.ireturn, 1) := by decide +kernel
theorem dX9_sizeBy_0 : decode cX9_sizeBy 0 = .ok (.iload_n 3, 1) := by decide +kernel
theorem dX9_sizeBy_1 : decode cX9_sizeBy 1 = .ok (.tableswitch 101 0 3 #[31, 39, 66, 79], 31) := by decide +kernel
theorem dX9_sizeBy_32 : decode cX9_sizeBy 32 = .ok (.bipush 7, 2) := by decide +kernel
theorem dX9_sizeBy_34 : decode cX9_sizeBy 34 = .ok (.bipush 10, 2) := by decide +kernel
theorem dX9_sizeBy_36 : decode cX9_sizeBy 36 = .ok (.iload_n 2, 1) := by decide +kernel
theorem dX9_sizeBy_37 : decode cX9_sizeBy 37 = .ok (.imul, 1) := by decide +kernel
theorem dX9_sizeBy_38 : decode cX9_sizeBy 38 = .ok (.iadd, 1) := by decide +kernel
theorem dX9_sizeBy_39 : decode cX9_sizeBy 39 = .ok (.ireturn, 1) := by decide +kernel
theorem dX9_sizeBy_40 : decode cX9_sizeBy 40 = .ok (.aload_n 0, 1) := by decide +kernel
theorem dX9_sizeBy_41 : decode cX9_sizeBy 41 = .ok (.iload_n 1, 1) := by decide +kernel
theorem dX9_sizeBy_42 : decode cX9_sizeBy 42 = .ok (.iload_n 2, 1) := by decide +kernel
theorem dX9_sizeBy_43 : decode cX9_sizeBy 43 = .ok (.invokestatic 71, 3) := by decide +kernel
theorem dX9_sizeBy_46 : decode cX9_sizeBy 46 = .ok (.istore 4, 2) := by decide +kernel
theorem dX9_sizeBy_48 : decode cX9_sizeBy 48 = .ok (.bipush 11, 2) := by decide +kernel
theorem dX9_sizeBy_50 : decode cX9_sizeBy 50 = .ok (.bipush 10, 2) := by decide +kernel
theorem dX9_sizeBy_52 : decode cX9_sizeBy 52 = .ok (.iload 4, 2) := by decide +kernel
theorem dX9_sizeBy_54 : decode cX9_sizeBy 54 = .ok (.imul, 1) := by decide +kernel
theorem dX9_sizeBy_55 : decode cX9_sizeBy 55 = .ok (.iadd, 1) := by decide +kernel
theorem dX9_sizeBy_56 : decode cX9_sizeBy 56 = .ok (.iload_n 2, 1) := by decide +kernel
theorem dX9_sizeBy_57 : decode cX9_sizeBy 57 = .ok (.iload 4, 2) := by decide +kernel
theorem dX9_sizeBy_59 : decode cX9_sizeBy 59 = .ok (.iconst 1, 1) := by decide +kernel
theorem dX9_sizeBy_60 : decode cX9_sizeBy 60 = .ok (.isub, 1) := by decide +kernel
theorem dX9_sizeBy_61 : decode cX9_sizeBy 61 = .ok (.invokestatic 75, 3) := by decide +kernel
theorem dX9_sizeBy_64 : decode cX9_sizeBy 64 = .ok (.imul, 1) := by decide +kernel
theorem dX9_sizeBy_65 : decode cX9_sizeBy 65 = .ok (.iadd, 1) := by decide +kernel
theorem dX9_sizeBy_66 : decode cX9_sizeBy 66 = .ok (.ireturn, 1) := by decide +kernel
theorem dX9_sizeBy_67 : decode cX9_sizeBy 67 = .ok (.bipush 7, 2) := by decide +kernel
theorem dX9_sizeBy_69 : decode cX9_sizeBy 69 = .ok (.bipush 14, 2) := by decide +kernel
theorem dX9_sizeBy_71 : decode cX9_sizeBy 71 = .ok (.aload_n 0, 1) := by decide +kernel
theorem dX9_sizeBy_72 : decode cX9_sizeBy 72 = .ok (.iload_n 1, 1) := by decide +kernel
theorem dX9_sizeBy_73 : decode cX9_sizeBy 73 = .ok (.iload_n 2, 1) := by decide +kernel
theorem dX9_sizeBy_74 : decode cX9_sizeBy 74 = .ok (.invokestatic 79, 3) := by decide +kernel
theorem dX9_sizeBy_77 : decode cX9_sizeBy 77 = .ok (.imul, 1) := by decide +kernel
theorem dX9_sizeBy_78 : decode cX9_sizeBy 78 = .ok (.iadd, 1) := by decide +kernel
theorem dX9_sizeBy_79 : decode cX9_sizeBy 79 = .ok (.ireturn, 1) := by decide +kernel
theorem dX9_sizeBy_80 : decode cX9_sizeBy 80 = .ok (.bipush 21, 2) := by decide +kernel
theorem dX9_sizeBy_82 : decode cX9_sizeBy 82 = .ok (.iload_n 2, 1) := by decide +kernel
theorem dX9_sizeBy_83 : decode cX9_sizeBy 83 = .ok (.aload_n 0, 1) := by decide +kernel
theorem dX9_sizeBy_84 : decode cX9_sizeBy 84 = .ok (.iload_n 1, 1) := by decide +kernel
theorem dX9_sizeBy_85 : decode cX9_sizeBy 85 = .ok (.iload_n 2, 1) := by decide +kernel
theorem dX9_sizeBy_86 : decode cX9_sizeBy 86 = .ok (.invokestatic 82, 3) := by decide +kernel
theorem dX9_sizeBy_89 : decode cX9_sizeBy 89 = .ok (.aload_n 0, 1) := by decide +kernel
theorem dX9_sizeBy_90 : decode cX9_sizeBy 90 = .ok (.iload_n 1, 1) := by decide +kernel
theorem dX9_sizeBy_91 : decode cX9_sizeBy 91 = .ok (.iload_n 2, 1) := by decide +kernel
theorem dX9_sizeBy_92 : decode cX9_sizeBy 92 = .ok (.invokestatic 85, 3) := by decide +kernel
theorem dX9_sizeBy_95 : decode cX9_sizeBy 95 = .ok (.isub, 1) := by decide +kernel
theorem dX9_sizeBy_96 : decode cX9_sizeBy 96 = .ok (.invokestatic 75, 3) := by decide +kernel
theorem dX9_sizeBy_99 : decode cX9_sizeBy 99 = .ok (.imul, 1) := by decide +kernel
theorem dX9_sizeBy_100 : decode cX9_sizeBy 100 = .ok (.iadd, 1) := by decide +kernel
theorem dX9_sizeBy_101 : decode cX9_sizeBy 101 = .ok (.ireturn, 1) := by decide +kernel
theorem dX9_sizeBy_102 : decode cX9_sizeBy 102 = .ok (.bipush 21, 2) := by decide +kernel
theorem dX9_sizeBy_104 : decode cX9_sizeBy 104 = .ok (.iload_n 2, 1) := by decide +kernel
theorem dX9_sizeBy_105 : decode cX9_sizeBy 105 = .ok (.iconst 1, 1) := by decide +kernel
theorem dX9_sizeBy_106 : decode cX9_sizeBy 106 = .ok (.isub, 1) := by decide +kernel
theorem dX9_sizeBy_107 : decode cX9_sizeBy 107 = .ok (.aload_n 0, 1) := by decide +kernel
theorem dX9_sizeBy_108 : decode cX9_sizeBy 108 = .ok (.iload_n 1, 1) := by decide +kernel
theorem dX9_sizeBy_109 : decode cX9_sizeBy 109 = .ok (.iload_n 2, 1) := by decide +kernel
theorem dX9_sizeBy_110 : decode cX9_sizeBy 110 = .ok (.invokestatic 88, 3) := by decide +kernel
theorem dX9_sizeBy_113 : decode cX9_sizeBy 113 = .ok (.imul, 1) := by decide +kernel
theorem dX9_sizeBy_114 : decode cX9_sizeBy 114 = .ok (.iadd, 1) := by decide +kernel
theorem dX9_sizeBy_115 : decode cX9_sizeBy 115 = .ok (.ireturn, 1) := by decide +kernel
theorem dX9_bestCoding_0 : decode cX9_bestCoding 0 = .ok (.iconst 0, 1) := by decide +kernel
theorem dX9_bestCoding_1 : decode cX9_bestCoding 1 = .ok (.istore_n 3, 1) := by decide +kernel
theorem dX9_bestCoding_2 : decode cX9_bestCoding 2 = .ok (.iconst 1, 1) := by decide +kernel
theorem dX9_bestCoding_3 : decode cX9_bestCoding 3 = .ok (.istore 4, 2) := by decide +kernel
theorem dX9_bestCoding_5 : decode cX9_bestCoding 5 = .ok (.iload 4, 2) := by decide +kernel
theorem dX9_bestCoding_7 : decode cX9_bestCoding 7 = .ok (.iconst 5, 1) := by decide +kernel
theorem dX9_bestCoding_8 : decode cX9_bestCoding 8 = .ok (.if_icmp .ge 34, 3) := by decide +kernel
theorem dX9_bestCoding_11 : decode cX9_bestCoding 11 = .ok (.aload_n 0, 1) := by decide +kernel
theorem dX9_bestCoding_12 : decode cX9_bestCoding 12 = .ok (.iload_n 1, 1) := by decide +kernel
theorem dX9_bestCoding_13 : decode cX9_bestCoding 13 = .ok (.iload_n 2, 1) := by decide +kernel
theorem dX9_bestCoding_14 : decode cX9_bestCoding 14 = .ok (.iload 4, 2) := by decide +kernel
theorem dX9_bestCoding_16 : decode cX9_bestCoding 16 = .ok (.invokestatic 91, 3) := by decide +kernel
theorem dX9_bestCoding_19 : decode cX9_bestCoding 19 = .ok (.aload_n 0, 1) := by decide +kernel
theorem dX9_bestCoding_20 : decode cX9_bestCoding 20 = .ok (.iload_n 1, 1) := by decide +kernel
theorem dX9_bestCoding_21 : decode cX9_bestCoding 21 = .ok (.iload_n 2, 1) := by decide +kernel
theorem dX9_bestCoding_22 : decode cX9_bestCoding 22 = .ok (.iload_n 3, 1) := by decide +kernel
theorem dX9_bestCoding_23 : decode cX9_bestCoding 23 = .ok (.invokestatic 91, 3) := by decide +kernel
theorem dX9_bestCoding_26 : decode cX9_bestCoding 26 = .ok (.if_icmp .ge 8, 3) := by decide +kernel
theorem dX9_bestCoding_29 : decode cX9_bestCoding 29 = .ok (.iload 4, 2) := by decide +kernel
theorem dX9_bestCoding_31 : decode cX9_bestCoding 31 = .ok (.goto 4, 3) := by decide +kernel
theorem dX9_bestCoding_34 : decode cX9_bestCoding 34 = .ok (.iload_n 3, 1) := by decide +kernel
theorem dX9_bestCoding_35 : decode cX9_bestCoding 35 = .ok (.istore_n 3, 1) := by decide +kernel
theorem dX9_bestCoding_36 : decode cX9_bestCoding 36 = .ok (.iinc 4 1, 3) := by decide +kernel
theorem dX9_bestCoding_39 : decode cX9_bestCoding 39 = .ok (.goto (-34), 3) := by decide +kernel
theorem dX9_bestCoding_42 : decode cX9_bestCoding 42 = .ok (.iload_n 3, 1) := by decide +kernel
theorem dX9_bestCoding_43 : decode cX9_bestCoding 43 = .ok (.ireturn, 1) := by decide +kernel
theorem dX9_pinnedSize_0 : decode cX9_pinnedSize 0 = .ok (.aload_n 0, 1) := by decide +kernel
theorem dX9_pinnedSize_1 : decode cX9_pinnedSize 1 = .ok (.iload_n 1, 1) := by decide +kernel
theorem dX9_pinnedSize_2 : decode cX9_pinnedSize 2 = .ok (.iload_n 2, 1) := by decide +kernel
theorem dX9_pinnedSize_3 : decode cX9_pinnedSize 3 = .ok (.iload_n 3, 1) := by decide +kernel
theorem dX9_pinnedSize_4 : decode cX9_pinnedSize 4 = .ok (.ifCond .ne 12, 3) := by decide +kernel
theorem dX9_pinnedSize_7 : decode cX9_pinnedSize 7 = .ok (.aload_n 0, 1) := by decide +kernel
theorem dX9_pinnedSize_8 : decode cX9_pinnedSize 8 = .ok (.iload_n 1, 1) := by decide +kernel
theorem dX9_pinnedSize_9 : decode cX9_pinnedSize 9 = .ok (.iload_n 2, 1) := by decide +kernel
theorem dX9_pinnedSize_10 : decode cX9_pinnedSize 10 = .ok (.invokestatic 95, 3) := by decide +kernel
theorem dX9_pinnedSize_13 : decode cX9_pinnedSize 13 = .ok (.goto 6, 3) := by decide +kernel
theorem dX9_pinnedSize_16 : decode cX9_pinnedSize 16 = .ok (.iload_n 3, 1) := by decide +kernel
theorem dX9_pinnedSize_17 : decode cX9_pinnedSize 17 = .ok (.iconst 1, 1) := by decide +kernel
theorem dX9_pinnedSize_18 : decode cX9_pinnedSize 18 = .ok (.isub, 1) := by decide +kernel
theorem dX9_pinnedSize_19 : decode cX9_pinnedSize 19 = .ok (.invokestatic 91, 3) := by decide +kernel
theorem dX9_pinnedSize_22 : decode cX9_pinnedSize 22 = .ok (.ireturn, 1) := by decide +kernel
theorem dX9_codingOf_0 : decode cX9_codingOf 0 = .ok (.aload_n 0, 1) := by decide +kernel
theorem dX9_codingOf_1 : decode cX9_codingOf 1 = .ok (.bipush 12, 2) := by decide +kernel
theorem dX9_codingOf_3 : decode cX9_codingOf 3 = .ok (.iload_n 1, 1) := by decide +kernel
theorem dX9_codingOf_4 : decode cX9_codingOf 4 = .ok (.iadd, 1) := by decide +kernel
theorem dX9_codingOf_5 : decode cX9_codingOf 5 = .ok (.iaload, 1) := by decide +kernel
theorem dX9_codingOf_6 : decode cX9_codingOf 6 = .ok (.ifCond .ne 23, 3) := by decide +kernel
theorem dX9_codingOf_9 : decode cX9_codingOf 9 = .ok (.aload_n 0, 1) := by decide +kernel
theorem dX9_codingOf_10 : decode cX9_codingOf 10 = .ok (.bipush 22, 2) := by decide +kernel
theorem dX9_codingOf_12 : decode cX9_codingOf 12 = .ok (.aload_n 0, 1) := by decide +kernel
theorem dX9_codingOf_13 : decode cX9_codingOf 13 = .ok (.iload_n 1, 1) := by decide +kernel
theorem dX9_codingOf_14 : decode cX9_codingOf 14 = .ok (.invokestatic 48, 3) := by decide +kernel
theorem dX9_codingOf_17 : decode cX9_codingOf 17 = .ok (.iadd, 1) := by decide +kernel
theorem dX9_codingOf_18 : decode cX9_codingOf 18 = .ok (.aload_n 0, 1) := by decide +kernel
theorem dX9_codingOf_19 : decode cX9_codingOf 19 = .ok (.iconst 2, 1) := by decide +kernel
theorem dX9_codingOf_20 : decode cX9_codingOf 20 = .ok (.iload_n 1, 1) := by decide +kernel
theorem dX9_codingOf_21 : decode cX9_codingOf 21 = .ok (.iadd, 1) := by decide +kernel
theorem dX9_codingOf_22 : decode cX9_codingOf 22 = .ok (.iaload, 1) := by decide +kernel
theorem dX9_codingOf_23 : decode cX9_codingOf 23 = .ok (.invokestatic 95, 3) := by decide +kernel
theorem dX9_codingOf_26 : decode cX9_codingOf 26 = .ok (.goto 11, 3) := by decide +kernel
theorem dX9_codingOf_29 : decode cX9_codingOf 29 = .ok (.aload_n 0, 1) := by decide +kernel
theorem dX9_codingOf_30 : decode cX9_codingOf 30 = .ok (.bipush 12, 2) := by decide +kernel
theorem dX9_codingOf_32 : decode cX9_codingOf 32 = .ok (.iload_n 1, 1) := by decide +kernel
theorem dX9_codingOf_33 : decode cX9_codingOf 33 = .ok (.iadd, 1) := by decide +kernel
theorem dX9_codingOf_34 : decode cX9_codingOf 34 = .ok (.iaload, 1) := by decide +kernel
theorem dX9_codingOf_35 : decode cX9_codingOf 35 = .ok (.iconst 1, 1) := by decide +kernel
theorem dX9_codingOf_36 : decode cX9_codingOf 36 = .ok (.isub, 1) := by decide +kernel
theorem dX9_codingOf_37 : decode cX9_codingOf 37 = .ok (.ireturn, 1) := by decide +kernel
theorem dX9_sizeOfPage_0 : decode cX9_sizeOfPage 0 = .ok (.aload_n 0, 1) := by decide +kernel
theorem dX9_sizeOfPage_1 : decode cX9_sizeOfPage 1 = .ok (.bipush 22, 2) := by decide +kernel
theorem dX9_sizeOfPage_3 : decode cX9_sizeOfPage 3 = .ok (.aload_n 0, 1) := by decide +kernel
theorem dX9_sizeOfPage_4 : decode cX9_sizeOfPage 4 = .ok (.iload_n 1, 1) := by decide +kernel
theorem dX9_sizeOfPage_5 : decode cX9_sizeOfPage 5 = .ok (.invokestatic 48, 3) := by decide +kernel
theorem dX9_sizeOfPage_8 : decode cX9_sizeOfPage 8 = .ok (.iadd, 1) := by decide +kernel
theorem dX9_sizeOfPage_9 : decode cX9_sizeOfPage 9 = .ok (.aload_n 0, 1) := by decide +kernel
theorem dX9_sizeOfPage_10 : decode cX9_sizeOfPage 10 = .ok (.iconst 2, 1) := by decide +kernel
theorem dX9_sizeOfPage_11 : decode cX9_sizeOfPage 11 = .ok (.iload_n 1, 1) := by decide +kernel
theorem dX9_sizeOfPage_12 : decode cX9_sizeOfPage 12 = .ok (.iadd, 1) := by decide +kernel
theorem dX9_sizeOfPage_13 : decode cX9_sizeOfPage 13 = .ok (.iaload, 1) := by decide +kernel
theorem dX9_sizeOfPage_14 : decode cX9_sizeOfPage 14 = .ok (.aload_n 0, 1) := by decide +kernel
theorem dX9_sizeOfPage_15 : decode cX9_sizeOfPage 15 = .ok (.bipush 12, 2) := by decide +kernel
theorem dX9_sizeOfPage_17 : decode cX9_sizeOfPage 17 = .ok (.iload_n 1, 1) := by decide +kernel
theorem dX9_sizeOfPage_18 : decode cX9_sizeOfPage 18 = .ok (.iadd, 1) := by decide +kernel
theorem dX9_sizeOfPage_19 : decode cX9_sizeOfPage 19 = .ok (.iaload, 1) := by decide +kernel
theorem dX9_sizeOfPage_20 : decode cX9_sizeOfPage 20 = .ok (.invokestatic 98, 3) := by decide +kernel
theorem dX9_sizeOfPage_23 : decode cX9_sizeOfPage 23 = .ok (.ireturn, 1) := by decide +kernel
theorem dX9_sizeOfAll_0 : decode cX9_sizeOfAll 0 = .ok (.iconst 0, 1) := by decide +kernel
theorem dX9_sizeOfAll_1 : decode cX9_sizeOfAll 1 = .ok (.istore_n 1, 1) := by decide +kernel
theorem dX9_sizeOfAll_2 : decode cX9_sizeOfAll 2 = .ok (.iconst 0, 1) := by decide +kernel
theorem dX9_sizeOfAll_3 : decode cX9_sizeOfAll 3 = .ok (.istore_n 2, 1) := by decide +kernel
theorem dX9_sizeOfAll_4 : decode cX9_sizeOfAll 4 = .ok (.iload_n 2, 1) := by decide +kernel
theorem dX9_sizeOfAll_5 : decode cX9_sizeOfAll 5 = .ok (.aload_n 0, 1) := by decide +kernel
theorem dX9_sizeOfAll_6 : decode cX9_sizeOfAll 6 = .ok (.iconst 0, 1) := by decide +kernel
theorem dX9_sizeOfAll_7 : decode cX9_sizeOfAll 7 = .ok (.iaload, 1) := by decide +kernel
theorem dX9_sizeOfAll_8 : decode cX9_sizeOfAll 8 = .ok (.if_icmp .ge 17, 3) := by decide +kernel
theorem dX9_sizeOfAll_11 : decode cX9_sizeOfAll 11 = .ok (.iload_n 1, 1) := by decide +kernel
theorem dX9_sizeOfAll_12 : decode cX9_sizeOfAll 12 = .ok (.aload_n 0, 1) := by decide +kernel
theorem dX9_sizeOfAll_13 : decode cX9_sizeOfAll 13 = .ok (.iload_n 2, 1) := by decide +kernel
theorem dX9_sizeOfAll_14 : decode cX9_sizeOfAll 14 = .ok (.invokestatic 101, 3) := by decide +kernel
theorem dX9_sizeOfAll_17 : decode cX9_sizeOfAll 17 = .ok (.iadd, 1) := by decide +kernel
theorem dX9_sizeOfAll_18 : decode cX9_sizeOfAll 18 = .ok (.istore_n 1, 1) := by decide +kernel
theorem dX9_sizeOfAll_19 : decode cX9_sizeOfAll 19 = .ok (.iinc 2 1, 3) := by decide +kernel
theorem dX9_sizeOfAll_22 : decode cX9_sizeOfAll 22 = .ok (.goto (-18), 3) := by decide +kernel
theorem dX9_sizeOfAll_25 : decode cX9_sizeOfAll 25 = .ok (.iload_n 1, 1) := by decide +kernel
theorem dX9_sizeOfAll_26 : decode cX9_sizeOfAll 26 = .ok (.ireturn, 1) := by decide +kernel
theorem dX9_write_0 : decode cX9_write 0 = .ok (.iload_n 2, 1) := by decide +kernel
theorem dX9_write_1 : decode cX9_write 1 = .ok (.iconst 1, 1) := by decide +kernel
theorem dX9_write_2 : decode cX9_write 2 = .ok (.isub, 1) := by decide +kernel
theorem dX9_write_3 : decode cX9_write 3 = .ok (.istore_n 3, 1) := by decide +kernel
theorem dX9_write_4 : decode cX9_write 4 = .ok (.iload_n 3, 1) := by decide +kernel
theorem dX9_write_5 : decode cX9_write 5 = .ok (.ifCond .lt 33, 3) := by decide +kernel
theorem dX9_write_8 : decode cX9_write 8 = .ok (.aload_n 0, 1) := by decide +kernel
theorem dX9_write_9 : decode cX9_write 9 = .ok (.getfield 32, 3) := by decide +kernel
theorem dX9_write_12 : decode cX9_write 12 = .ok (.aload_n 0, 1) := by decide +kernel
theorem dX9_write_13 : decode cX9_write 13 = .ok (.getfield 104, 3) := by decide +kernel
theorem dX9_write_16 : decode cX9_write 16 = .ok (.iload_n 1, 1) := by decide +kernel
theorem dX9_write_17 : decode cX9_write 17 = .ok (.iload_n 3, 1) := by decide +kernel
theorem dX9_write_18 : decode cX9_write 18 = .ok (.ishr, 1) := by decide +kernel
theorem dX9_write_19 : decode cX9_write 19 = .ok (.iconst 1, 1) := by decide +kernel
theorem dX9_write_20 : decode cX9_write 20 = .ok (.iand, 1) := by decide +kernel
theorem dX9_write_21 : decode cX9_write 21 = .ok (.iastore, 1) := by decide +kernel
theorem dX9_write_22 : decode cX9_write 22 = .ok (.aload_n 0, 1) := by decide +kernel
theorem dX9_write_23 : decode cX9_write 23 = .ok (.dup, 1) := by decide +kernel
theorem dX9_write_24 : decode cX9_write 24 = .ok (.getfield 104, 3) := by decide +kernel
theorem dX9_write_27 : decode cX9_write 27 = .ok (.iconst 1, 1) := by decide +kernel
theorem dX9_write_28 : decode cX9_write 28 = .ok (.iadd, 1) := by decide +kernel
theorem dX9_write_29 : decode cX9_write 29 = .ok (.putfield 104, 3) := by decide +kernel
theorem dX9_write_32 : decode cX9_write 32 = .ok (.iinc 3 (-1), 3) := by decide +kernel
theorem dX9_write_35 : decode cX9_write 35 = .ok (.goto (-31), 3) := by decide +kernel
theorem dX9_write_38 : decode cX9_write 38 = .ok (.return_, 1) := by decide +kernel
theorem dX9_writeRuns_0 : decode cX9_writeRuns 0 = .ok (.iload_n 1, 1) := by decide +kernel
theorem dX9_writeRuns_1 : decode cX9_writeRuns 1 = .ok (.istore_n 3, 1) := by decide +kernel
theorem dX9_writeRuns_2 : decode cX9_writeRuns 2 = .ok (.iload_n 3, 1) := by decide +kernel
theorem dX9_writeRuns_3 : decode cX9_writeRuns 3 = .ok (.iload_n 1, 1) := by decide +kernel
theorem dX9_writeRuns_4 : decode cX9_writeRuns 4 = .ok (.iload_n 2, 1) := by decide +kernel
theorem dX9_writeRuns_5 : decode cX9_writeRuns 5 = .ok (.iadd, 1) := by decide +kernel
theorem dX9_writeRuns_6 : decode cX9_writeRuns 6 = .ok (.if_icmp .ge 67, 3) := by decide +kernel
theorem dX9_writeRuns_9 : decode cX9_writeRuns 9 = .ok (.iconst 1, 1) := by decide +kernel
theorem dX9_writeRuns_10 : decode cX9_writeRuns 10 = .ok (.istore 4, 2) := by decide +kernel
theorem dX9_writeRuns_12 : decode cX9_writeRuns 12 = .ok (.iload_n 3, 1) := by decide +kernel
theorem dX9_writeRuns_13 : decode cX9_writeRuns 13 = .ok (.iload 4, 2) := by decide +kernel
theorem dX9_writeRuns_15 : decode cX9_writeRuns 15 = .ok (.iadd, 1) := by decide +kernel
theorem dX9_writeRuns_16 : decode cX9_writeRuns 16 = .ok (.iload_n 1, 1) := by decide +kernel
theorem dX9_writeRuns_17 : decode cX9_writeRuns 17 = .ok (.iload_n 2, 1) := by decide +kernel
theorem dX9_writeRuns_18 : decode cX9_writeRuns 18 = .ok (.iadd, 1) := by decide +kernel
theorem dX9_writeRuns_19 : decode cX9_writeRuns 19 = .ok (.if_icmp .ge 27, 3) := by decide +kernel
theorem dX9_writeRuns_22 : decode cX9_writeRuns 22 = .ok (.aload_n 0, 1) := by decide +kernel
theorem dX9_writeRuns_23 : decode cX9_writeRuns 23 = .ok (.getfield 13, 3) := by decide +kernel
theorem dX9_writeRuns_26 : decode cX9_writeRuns 26 = .ok (.iload_n 3, 1) := by decide +kernel
theorem dX9_writeRuns_27 : decode cX9_writeRuns 27 = .ok (.iload 4, 2) := by decide +kernel
theorem dX9_writeRuns_29 : decode cX9_writeRuns 29 = .ok (.iadd, 1) := by decide +kernel
theorem dX9_writeRuns_30 : decode cX9_writeRuns 30 = .ok (.iaload, 1) := by decide +kernel
theorem dX9_writeRuns_31 : decode cX9_writeRuns 31 = .ok (.aload_n 0, 1) := by decide +kernel
theorem dX9_writeRuns_32 : decode cX9_writeRuns 32 = .ok (.getfield 13, 3) := by decide +kernel
theorem dX9_writeRuns_35 : decode cX9_writeRuns 35 = .ok (.iload_n 3, 1) := by decide +kernel
theorem dX9_writeRuns_36 : decode cX9_writeRuns 36 = .ok (.iaload, 1) := by decide +kernel
theorem dX9_writeRuns_37 : decode cX9_writeRuns 37 = .ok (.if_icmp .ne 9, 3) := by decide +kernel
theorem dX9_writeRuns_40 : decode cX9_writeRuns 40 = .ok (.iinc 4 1, 3) := by decide +kernel
theorem dX9_writeRuns_43 : decode cX9_writeRuns 43 = .ok (.goto (-31), 3) := by decide +kernel
theorem dX9_writeRuns_46 : decode cX9_writeRuns 46 = .ok (.aload_n 0, 1) := by decide +kernel
theorem dX9_writeRuns_47 : decode cX9_writeRuns 47 = .ok (.aload_n 0, 1) := by decide +kernel
theorem dX9_writeRuns_48 : decode cX9_writeRuns 48 = .ok (.getfield 13, 3) := by decide +kernel
theorem dX9_writeRuns_51 : decode cX9_writeRuns 51 = .ok (.iload_n 3, 1) := by decide +kernel
theorem dX9_writeRuns_52 : decode cX9_writeRuns 52 = .ok (.iaload, 1) := by decide +kernel
theorem dX9_writeRuns_53 : decode cX9_writeRuns 53 = .ok (.bipush 10, 2) := by decide +kernel
theorem dX9_writeRuns_55 : decode cX9_writeRuns 55 = .ok (.invokevirtual 107, 3) := by decide +kernel
theorem dX9_writeRuns_58 : decode cX9_writeRuns 58 = .ok (.aload_n 0, 1) := by decide +kernel
theorem dX9_writeRuns_59 : decode cX9_writeRuns 59 = .ok (.iload 4, 2) := by decide +kernel
theorem dX9_writeRuns_61 : decode cX9_writeRuns 61 = .ok (.iconst 4, 1) := by decide +kernel
theorem dX9_writeRuns_62 : decode cX9_writeRuns 62 = .ok (.invokevirtual 107, 3) := by decide +kernel
theorem dX9_writeRuns_65 : decode cX9_writeRuns 65 = .ok (.iload_n 3, 1) := by decide +kernel
theorem dX9_writeRuns_66 : decode cX9_writeRuns 66 = .ok (.iload 4, 2) := by decide +kernel
theorem dX9_writeRuns_68 : decode cX9_writeRuns 68 = .ok (.iadd, 1) := by decide +kernel
theorem dX9_writeRuns_69 : decode cX9_writeRuns 69 = .ok (.istore_n 3, 1) := by decide +kernel
theorem dX9_writeRuns_70 : decode cX9_writeRuns 70 = .ok (.goto (-68), 3) := by decide +kernel
theorem dX9_writeRuns_73 : decode cX9_writeRuns 73 = .ok (.return_, 1) := by decide +kernel
theorem dX9_writeWords_0 : decode cX9_writeWords 0 = .ok (.aload_n 0, 1) := by decide +kernel
theorem dX9_writeWords_1 : decode cX9_writeWords 1 = .ok (.getfield 13, 3) := by decide +kernel
theorem dX9_writeWords_4 : decode cX9_writeWords 4 = .ok (.iload_n 1, 1) := by decide +kernel
theorem dX9_writeWords_5 : decode cX9_writeWords 5 = .ok (.iload_n 2, 1) := by decide +kernel
theorem dX9_writeWords_6 : decode cX9_writeWords 6 = .ok (.invokestatic 71, 3) := by decide +kernel
theorem dX9_writeWords_9 : decode cX9_writeWords 9 = .ok (.istore_n 3, 1) := by decide +kernel
theorem dX9_writeWords_10 : decode cX9_writeWords 10 = .ok (.aload_n 0, 1) := by decide +kernel
theorem dX9_writeWords_11 : decode cX9_writeWords 11 = .ok (.iload_n 3, 1) := by decide +kernel
theorem dX9_writeWords_12 : decode cX9_writeWords 12 = .ok (.iconst 4, 1) := by decide +kernel
theorem dX9_writeWords_13 : decode cX9_writeWords 13 = .ok (.invokevirtual 107, 3) := by decide +kernel
theorem dX9_writeWords_16 : decode cX9_writeWords 16 = .ok (.iload_n 1, 1) := by decide +kernel
theorem dX9_writeWords_17 : decode cX9_writeWords 17 = .ok (.istore 4, 2) := by decide +kernel
theorem dX9_writeWords_19 : decode cX9_writeWords 19 = .ok (.iload 4, 2) := by decide +kernel
theorem dX9_writeWords_21 : decode cX9_writeWords 21 = .ok (.iload_n 1, 1) := by decide +kernel
theorem dX9_writeWords_22 : decode cX9_writeWords 22 = .ok (.iload_n 2, 1) := by decide +kernel
theorem dX9_writeWords_23 : decode cX9_writeWords 23 = .ok (.iadd, 1) := by decide +kernel
theorem dX9_writeWords_24 : decode cX9_writeWords 24 = .ok (.if_icmp .ge 35, 3) := by decide +kernel
theorem dX9_writeWords_27 : decode cX9_writeWords 27 = .ok (.aload_n 0, 1) := by decide +kernel
theorem dX9_writeWords_28 : decode cX9_writeWords 28 = .ok (.getfield 13, 3) := by decide +kernel
theorem dX9_writeWords_31 : decode cX9_writeWords 31 = .ok (.iload_n 1, 1) := by decide +kernel
theorem dX9_writeWords_32 : decode cX9_writeWords 32 = .ok (.iload 4, 2) := by decide +kernel
theorem dX9_writeWords_34 : decode cX9_writeWords 34 = .ok (.invokestatic 67, 3) := by decide +kernel
theorem dX9_writeWords_37 : decode cX9_writeWords 37 = .ok (.ifCond .eq 16, 3) := by decide +kernel
theorem dX9_writeWords_40 : decode cX9_writeWords 40 = .ok (.aload_n 0, 1) := by decide +kernel
theorem dX9_writeWords_41 : decode cX9_writeWords 41 = .ok (.aload_n 0, 1) := by decide +kernel
theorem dX9_writeWords_42 : decode cX9_writeWords 42 = .ok (.getfield 13, 3) := by decide +kernel
theorem dX9_writeWords_45 : decode cX9_writeWords 45 = .ok (.iload 4, 2) := by decide +kernel
theorem dX9_writeWords_47 : decode cX9_writeWords 47 = .ok (.iaload, 1) := by decide +kernel
theorem dX9_writeWords_48 : decode cX9_writeWords 48 = .ok (.bipush 10, 2) := by decide +kernel
theorem dX9_writeWords_50 : decode cX9_writeWords 50 = .ok (.invokevirtual 107, 3) := by decide +kernel
theorem dX9_writeWords_53 : decode cX9_writeWords 53 = .ok (.iinc 4 1, 3) := by decide +kernel
theorem dX9_writeWords_56 : decode cX9_writeWords 56 = .ok (.goto (-37), 3) := by decide +kernel
theorem dX9_writeWords_59 : decode cX9_writeWords 59 = .ok (.iload_n 1, 1) := by decide +kernel
theorem dX9_writeWords_60 : decode cX9_writeWords 60 = .ok (.istore 4, 2) := by decide +kernel
theorem dX9_writeWords_62 : decode cX9_writeWords 62 = .ok (.iload 4, 2) := by decide +kernel
theorem dX9_writeWords_64 : decode cX9_writeWords 64 = .ok (.iload_n 1, 1) := by decide +kernel
theorem dX9_writeWords_65 : decode cX9_writeWords 65 = .ok (.iload_n 2, 1) := by decide +kernel
theorem dX9_writeWords_66 : decode cX9_writeWords 66 = .ok (.iadd, 1) := by decide +kernel
theorem dX9_writeWords_67 : decode cX9_writeWords 67 = .ok (.if_icmp .ge 35, 3) := by decide +kernel
theorem dX9_writeWords_70 : decode cX9_writeWords 70 = .ok (.aload_n 0, 1) := by decide +kernel
theorem dX9_writeWords_71 : decode cX9_writeWords 71 = .ok (.aload_n 0, 1) := by decide +kernel
theorem dX9_writeWords_72 : decode cX9_writeWords 72 = .ok (.getfield 13, 3) := by decide +kernel
theorem dX9_writeWords_75 : decode cX9_writeWords 75 = .ok (.iload_n 1, 1) := by decide +kernel
theorem dX9_writeWords_76 : decode cX9_writeWords 76 = .ok (.iload_n 2, 1) := by decide +kernel
theorem dX9_writeWords_77 : decode cX9_writeWords 77 = .ok (.aload_n 0, 1) := by decide +kernel
theorem dX9_writeWords_78 : decode cX9_writeWords 78 = .ok (.getfield 13, 3) := by decide +kernel
theorem dX9_writeWords_81 : decode cX9_writeWords 81 = .ok (.iload 4, 2) := by decide +kernel
theorem dX9_writeWords_83 : decode cX9_writeWords 83 = .ok (.iaload, 1) := by decide +kernel
theorem dX9_writeWords_84 : decode cX9_writeWords 84 = .ok (.invokestatic 111, 3) := by decide +kernel
theorem dX9_writeWords_87 : decode cX9_writeWords 87 = .ok (.iload_n 3, 1) := by decide +kernel
theorem dX9_writeWords_88 : decode cX9_writeWords 88 = .ok (.iconst 1, 1) := by decide +kernel
theorem dX9_writeWords_89 : decode cX9_writeWords 89 = .ok (.isub, 1) := by decide +kernel
theorem dX9_writeWords_90 : decode cX9_writeWords 90 = .ok (.invokestatic 75, 3) := by decide +kernel
theorem dX9_writeWords_93 : decode cX9_writeWords 93 = .ok (.invokevirtual 107, 3) := by decide +kernel
theorem dX9_writeWords_96 : decode cX9_writeWords 96 = .ok (.iinc 4 1, 3) := by decide +kernel
theorem dX9_writeWords_99 : decode cX9_writeWords 99 = .ok (.goto (-37), 3) := by decide +kernel
theorem dX9_writeWords_102 : decode cX9_writeWords 102 = .ok (.return_, 1) := by decide +kernel
theorem dX9_writePage_0 : decode cX9_writePage 0 = .ok (.aload_n 0, 1) := by decide +kernel
theorem dX9_writePage_1 : decode cX9_writePage 1 = .ok (.iconst 0, 1) := by decide +kernel
theorem dX9_writePage_2 : decode cX9_writePage 2 = .ok (.putfield 104, 3) := by decide +kernel
theorem dX9_writePage_5 : decode cX9_writePage 5 = .ok (.bipush 22, 2) := by decide +kernel
theorem dX9_writePage_7 : decode cX9_writePage 7 = .ok (.aload_n 0, 1) := by decide +kernel
theorem dX9_writePage_8 : decode cX9_writePage 8 = .ok (.getfield 13, 3) := by decide +kernel
theorem dX9_writePage_11 : decode cX9_writePage 11 = .ok (.iload_n 1, 1) := by decide +kernel
theorem dX9_writePage_12 : decode cX9_writePage 12 = .ok (.invokestatic 48, 3) := by decide +kernel
theorem dX9_writePage_15 : decode cX9_writePage 15 = .ok (.iadd, 1) := by decide +kernel
theorem dX9_writePage_16 : decode cX9_writePage 16 = .ok (.istore_n 2, 1) := by decide +kernel
theorem dX9_writePage_17 : decode cX9_writePage 17 = .ok (.aload_n 0, 1) := by decide +kernel
theorem dX9_writePage_18 : decode cX9_writePage 18 = .ok (.getfield 13, 3) := by decide +kernel
theorem dX9_writePage_21 : decode cX9_writePage 21 = .ok (.iconst 2, 1) := by decide +kernel
theorem dX9_writePage_22 : decode cX9_writePage 22 = .ok (.iload_n 1, 1) := by decide +kernel
theorem dX9_writePage_23 : decode cX9_writePage 23 = .ok (.iadd, 1) := by decide +kernel
theorem dX9_writePage_24 : decode cX9_writePage 24 = .ok (.iaload, 1) := by decide +kernel
theorem dX9_writePage_25 : decode cX9_writePage 25 = .ok (.istore_n 3, 1) := by decide +kernel
theorem dX9_writePage_26 : decode cX9_writePage 26 = .ok (.aload_n 0, 1) := by decide +kernel
theorem dX9_writePage_27 : decode cX9_writePage 27 = .ok (.getfield 13, 3) := by decide +kernel
theorem dX9_writePage_30 : decode cX9_writePage 30 = .ok (.iload_n 1, 1) := by decide +kernel
theorem dX9_writePage_31 : decode cX9_writePage 31 = .ok (.invokestatic 114, 3) := by decide +kernel
theorem dX9_writePage_34 : decode cX9_writePage 34 = .ok (.istore 4, 2) := by decide +kernel
theorem dX9_writePage_36 : decode cX9_writePage 36 = .ok (.aload_n 0, 1) := by decide +kernel
theorem dX9_writePage_37 : decode cX9_writePage 37 = .ok (.iload 4, 2) := by decide +kernel
theorem dX9_writePage_39 : decode cX9_writePage 39 = .ok (.iconst 3, 1) := by decide +kernel
theorem dX9_writePage_40 : decode cX9_writePage 40 = .ok (.invokevirtual 107, 3) := by decide +kernel
theorem dX9_writePage_43 : decode cX9_writePage 43 = .ok (.aload_n 0, 1) := by decide +kernel
theorem dX9_writePage_44 : decode cX9_writePage 44 = .ok (.iload_n 3, 1) := by decide +kernel
theorem dX9_writePage_45 : decode cX9_writePage 45 = .ok (.iconst 4, 1) := by decide +kernel
theorem dX9_writePage_46 : decode cX9_writePage 46 = .ok (.invokevirtual 107, 3) := by decide +kernel
theorem dX9_writePage_49 : decode cX9_writePage 49 = .ok (.iload 4, 2) := by decide +kernel
theorem dX9_writePage_51 : decode cX9_writePage 51 = .ok (.iconst 1, 1) := by decide +kernel
theorem dX9_writePage_52 : decode cX9_writePage 52 = .ok (.if_icmp .ne 12, 3) := by decide +kernel
theorem dX9_writePage_55 : decode cX9_writePage 55 = .ok (.aload_n 0, 1) := by decide +kernel
theorem dX9_writePage_56 : decode cX9_writePage 56 = .ok (.iload_n 2, 1) := by decide +kernel
theorem dX9_writePage_57 : decode cX9_writePage 57 = .ok (.iload_n 3, 1) := by decide +kernel
theorem dX9_writePage_58 : decode cX9_writePage 58 = .ok (.invokevirtual 117, 3) := by decide +kernel
theorem dX9_writePage_61 : decode cX9_writePage 61 = .ok (.goto 213, 3) := by decide +kernel
theorem dX9_writePage_64 : decode cX9_writePage 64 = .ok (.iload 4, 2) := by decide +kernel
theorem dX9_writePage_66 : decode cX9_writePage 66 = .ok (.iconst 2, 1) := by decide +kernel
theorem dX9_writePage_67 : decode cX9_writePage 67 = .ok (.if_icmp .ne 12, 3) := by decide +kernel
theorem dX9_writePage_70 : decode cX9_writePage 70 = .ok (.aload_n 0, 1) := by decide +kernel
theorem dX9_writePage_71 : decode cX9_writePage 71 = .ok (.iload_n 2, 1) := by decide +kernel
theorem dX9_writePage_72 : decode cX9_writePage 72 = .ok (.iload_n 3, 1) := by decide +kernel
theorem dX9_writePage_73 : decode cX9_writePage 73 = .ok (.invokevirtual 120, 3) := by decide +kernel
theorem dX9_writePage_76 : decode cX9_writePage 76 = .ok (.goto 198, 3) := by decide +kernel
theorem dX9_writePage_79 : decode cX9_writePage 79 = .ok (.iload 4, 2) := by decide +kernel
theorem dX9_writePage_81 : decode cX9_writePage 81 = .ok (.ifCond .ne 36, 3) := by decide +kernel
theorem dX9_writePage_84 : decode cX9_writePage 84 = .ok (.iload_n 2, 1) := by decide +kernel
theorem dX9_writePage_85 : decode cX9_writePage 85 = .ok (.istore 5, 2) := by decide +kernel
theorem dX9_writePage_87 : decode cX9_writePage 87 = .ok (.iload 5, 2) := by decide +kernel
theorem dX9_writePage_89 : decode cX9_writePage 89 = .ok (.iload_n 2, 1) := by decide +kernel
theorem dX9_writePage_90 : decode cX9_writePage 90 = .ok (.iload_n 3, 1) := by decide +kernel
theorem dX9_writePage_91 : decode cX9_writePage 91 = .ok (.iadd, 1) := by decide +kernel
theorem dX9_writePage_92 : decode cX9_writePage 92 = .ok (.if_icmp .ge 22, 3) := by decide +kernel
theorem dX9_writePage_95 : decode cX9_writePage 95 = .ok (.aload_n 0, 1) := by decide +kernel
theorem dX9_writePage_96 : decode cX9_writePage 96 = .ok (.aload_n 0, 1) := by decide +kernel
theorem dX9_writePage_97 : decode cX9_writePage 97 = .ok (.getfield 13, 3) := by decide +kernel
theorem dX9_writePage_100 : decode cX9_writePage 100 = .ok (.iload 5, 2) := by decide +kernel
theorem dX9_writePage_102 : decode cX9_writePage 102 = .ok (.iaload, 1) := by decide +kernel
theorem dX9_writePage_103 : decode cX9_writePage 103 = .ok (.bipush 10, 2) := by decide +kernel
theorem dX9_writePage_105 : decode cX9_writePage 105 = .ok (.invokevirtual 107, 3) := by decide +kernel
theorem dX9_writePage_108 : decode cX9_writePage 108 = .ok (.iinc 5 1, 3) := by decide +kernel
theorem dX9_writePage_111 : decode cX9_writePage 111 = .ok (.goto (-24), 3) := by decide +kernel
theorem dX9_writePage_114 : decode cX9_writePage 114 = .ok (.goto 160, 3) := by decide +kernel
theorem dX9_writePage_117 : decode cX9_writePage 117 = .ok (.iload 4, 2) := by decide +kernel
theorem dX9_writePage_119 : decode cX9_writePage 119 = .ok (.iconst 3, 1) := by decide +kernel
theorem dX9_writePage_120 : decode cX9_writePage 120 = .ok (.if_icmp .ne 82, 3) := by decide +kernel
theorem dX9_writePage_123 : decode cX9_writePage 123 = .ok (.aload_n 0, 1) := by decide +kernel
theorem dX9_writePage_124 : decode cX9_writePage 124 = .ok (.getfield 13, 3) := by decide +kernel
theorem dX9_writePage_127 : decode cX9_writePage 127 = .ok (.iload_n 2, 1) := by decide +kernel
theorem dX9_writePage_128 : decode cX9_writePage 128 = .ok (.iload_n 3, 1) := by decide +kernel
theorem dX9_writePage_129 : decode cX9_writePage 129 = .ok (.invokestatic 85, 3) := by decide +kernel
theorem dX9_writePage_132 : decode cX9_writePage 132 = .ok (.istore 5, 2) := by decide +kernel
theorem dX9_writePage_134 : decode cX9_writePage 134 = .ok (.aload_n 0, 1) := by decide +kernel
theorem dX9_writePage_135 : decode cX9_writePage 135 = .ok (.getfield 13, 3) := by decide +kernel
theorem dX9_writePage_138 : decode cX9_writePage 138 = .ok (.iload_n 2, 1) := by decide +kernel
theorem dX9_writePage_139 : decode cX9_writePage 139 = .ok (.iload_n 3, 1) := by decide +kernel
theorem dX9_writePage_140 : decode cX9_writePage 140 = .ok (.invokestatic 82, 3) := by decide +kernel
theorem dX9_writePage_143 : decode cX9_writePage 143 = .ok (.iload 5, 2) := by decide +kernel
theorem dX9_writePage_145 : decode cX9_writePage 145 = .ok (.isub, 1) := by decide +kernel
theorem dX9_writePage_146 : decode cX9_writePage 146 = .ok (.invokestatic 75, 3) := by decide +kernel
theorem dX9_writePage_149 : decode cX9_writePage 149 = .ok (.istore 6, 2) := by decide +kernel
theorem dX9_writePage_151 : decode cX9_writePage 151 = .ok (.aload_n 0, 1) := by decide +kernel
theorem dX9_writePage_152 : decode cX9_writePage 152 = .ok (.iload 5, 2) := by decide +kernel
theorem dX9_writePage_154 : decode cX9_writePage 154 = .ok (.bipush 10, 2) := by decide +kernel
theorem dX9_writePage_156 : decode cX9_writePage 156 = .ok (.invokevirtual 107, 3) := by decide +kernel
theorem dX9_writePage_159 : decode cX9_writePage 159 = .ok (.aload_n 0, 1) := by decide +kernel
theorem dX9_writePage_160 : decode cX9_writePage 160 = .ok (.iload 6, 2) := by decide +kernel
theorem dX9_writePage_162 : decode cX9_writePage 162 = .ok (.iconst 4, 1) := by decide +kernel
theorem dX9_writePage_163 : decode cX9_writePage 163 = .ok (.invokevirtual 107, 3) := by decide +kernel
theorem dX9_writePage_166 : decode cX9_writePage 166 = .ok (.iload_n 2, 1) := by decide +kernel
theorem dX9_writePage_167 : decode cX9_writePage 167 = .ok (.istore 7, 2) := by decide +kernel
theorem dX9_writePage_169 : decode cX9_writePage 169 = .ok (.iload 7, 2) := by decide +kernel
theorem dX9_writePage_171 : decode cX9_writePage 171 = .ok (.iload_n 2, 1) := by decide +kernel
theorem dX9_writePage_172 : decode cX9_writePage 172 = .ok (.iload_n 3, 1) := by decide +kernel
theorem dX9_writePage_173 : decode cX9_writePage 173 = .ok (.iadd, 1) := by decide +kernel
theorem dX9_writePage_174 : decode cX9_writePage 174 = .ok (.if_icmp .ge 25, 3) := by decide +kernel
theorem dX9_writePage_177 : decode cX9_writePage 177 = .ok (.aload_n 0, 1) := by decide +kernel
theorem dX9_writePage_178 : decode cX9_writePage 178 = .ok (.aload_n 0, 1) := by decide +kernel
theorem dX9_writePage_179 : decode cX9_writePage 179 = .ok (.getfield 13, 3) := by decide +kernel
theorem dX9_writePage_182 : decode cX9_writePage 182 = .ok (.iload 7, 2) := by decide +kernel
theorem dX9_writePage_184 : decode cX9_writePage 184 = .ok (.iaload, 1) := by decide +kernel
theorem dX9_writePage_185 : decode cX9_writePage 185 = .ok (.iload 5, 2) := by decide +kernel
theorem dX9_writePage_187 : decode cX9_writePage 187 = .ok (.isub, 1) := by decide +kernel
theorem dX9_writePage_188 : decode cX9_writePage 188 = .ok (.iload 6, 2) := by decide +kernel
theorem dX9_writePage_190 : decode cX9_writePage 190 = .ok (.invokevirtual 107, 3) := by decide +kernel
theorem dX9_writePage_193 : decode cX9_writePage 193 = .ok (.iinc 7 1, 3) := by decide +kernel
theorem dX9_writePage_196 : decode cX9_writePage 196 = .ok (.goto (-27), 3) := by decide +kernel
theorem dX9_writePage_199 : decode cX9_writePage 199 = .ok (.goto 75, 3) := by decide +kernel
theorem dX9_writePage_202 : decode cX9_writePage 202 = .ok (.aload_n 0, 1) := by decide +kernel
theorem dX9_writePage_203 : decode cX9_writePage 203 = .ok (.getfield 13, 3) := by decide +kernel
theorem dX9_writePage_206 : decode cX9_writePage 206 = .ok (.iload_n 2, 1) := by decide +kernel
theorem dX9_writePage_207 : decode cX9_writePage 207 = .ok (.iload_n 3, 1) := by decide +kernel
theorem dX9_writePage_208 : decode cX9_writePage 208 = .ok (.invokestatic 88, 3) := by decide +kernel
theorem dX9_writePage_211 : decode cX9_writePage 211 = .ok (.istore 5, 2) := by decide +kernel
theorem dX9_writePage_213 : decode cX9_writePage 213 = .ok (.aload_n 0, 1) := by decide +kernel
theorem dX9_writePage_214 : decode cX9_writePage 214 = .ok (.aload_n 0, 1) := by decide +kernel
theorem dX9_writePage_215 : decode cX9_writePage 215 = .ok (.getfield 13, 3) := by decide +kernel
theorem dX9_writePage_218 : decode cX9_writePage 218 = .ok (.iload_n 2, 1) := by decide +kernel
theorem dX9_writePage_219 : decode cX9_writePage 219 = .ok (.iaload, 1) := by decide +kernel
theorem dX9_writePage_220 : decode cX9_writePage 220 = .ok (.bipush 10, 2) := by decide +kernel
theorem dX9_writePage_222 : decode cX9_writePage 222 = .ok (.invokevirtual 107, 3) := by decide +kernel
theorem dX9_writePage_225 : decode cX9_writePage 225 = .ok (.aload_n 0, 1) := by decide +kernel
theorem dX9_writePage_226 : decode cX9_writePage 226 = .ok (.iload 5, 2) := by decide +kernel
theorem dX9_writePage_228 : decode cX9_writePage 228 = .ok (.iconst 4, 1) := by decide +kernel
theorem dX9_writePage_229 : decode cX9_writePage 229 = .ok (.invokevirtual 107, 3) := by decide +kernel
theorem dX9_writePage_232 : decode cX9_writePage 232 = .ok (.iload_n 2, 1) := by decide +kernel
theorem dX9_writePage_233 : decode cX9_writePage 233 = .ok (.iconst 1, 1) := by decide +kernel
theorem dX9_writePage_234 : decode cX9_writePage 234 = .ok (.iadd, 1) := by decide +kernel
theorem dX9_writePage_235 : decode cX9_writePage 235 = .ok (.istore 6, 2) := by decide +kernel
theorem dX9_writePage_237 : decode cX9_writePage 237 = .ok (.iload 6, 2) := by decide +kernel
theorem dX9_writePage_239 : decode cX9_writePage 239 = .ok (.iload_n 2, 1) := by decide +kernel
theorem dX9_writePage_240 : decode cX9_writePage 240 = .ok (.iload_n 3, 1) := by decide +kernel
theorem dX9_writePage_241 : decode cX9_writePage 241 = .ok (.iadd, 1) := by decide +kernel
theorem dX9_writePage_242 : decode cX9_writePage 242 = .ok (.if_icmp .ge 32, 3) := by decide +kernel
theorem dX9_writePage_245 : decode cX9_writePage 245 = .ok (.aload_n 0, 1) := by decide +kernel
theorem dX9_writePage_246 : decode cX9_writePage 246 = .ok (.aload_n 0, 1) := by decide +kernel
theorem dX9_writePage_247 : decode cX9_writePage 247 = .ok (.getfield 13, 3) := by decide +kernel
theorem dX9_writePage_250 : decode cX9_writePage 250 = .ok (.iload 6, 2) := by decide +kernel
theorem dX9_writePage_252 : decode cX9_writePage 252 = .ok (.iaload, 1) := by decide +kernel
theorem dX9_writePage_253 : decode cX9_writePage 253 = .ok (.aload_n 0, 1) := by decide +kernel
theorem dX9_writePage_254 : decode cX9_writePage 254 = .ok (.getfield 13, 3) := by decide +kernel
theorem dX9_writePage_257 : decode cX9_writePage 257 = .ok (.iload 6, 2) := by decide +kernel
theorem dX9_writePage_259 : decode cX9_writePage 259 = .ok (.iconst 1, 1) := by decide +kernel
theorem dX9_writePage_260 : decode cX9_writePage 260 = .ok (.isub, 1) := by decide +kernel
theorem dX9_writePage_261 : decode cX9_writePage 261 = .ok (.iaload, 1) := by decide +kernel
theorem dX9_writePage_262 : decode cX9_writePage 262 = .ok (.isub, 1) := by decide +kernel
theorem dX9_writePage_263 : decode cX9_writePage 263 = .ok (.iload 5, 2) := by decide +kernel
theorem dX9_writePage_265 : decode cX9_writePage 265 = .ok (.invokevirtual 107, 3) := by decide +kernel
theorem dX9_writePage_268 : decode cX9_writePage 268 = .ok (.iinc 6 1, 3) := by decide +kernel
theorem dX9_writePage_271 : decode cX9_writePage 271 = .ok (.goto (-34), 3) := by decide +kernel
theorem dX9_writePage_274 : decode cX9_writePage 274 = .ok (.return_, 1) := by decide +kernel
theorem dX9_append_0 : decode cX9_append 0 = .ok (.aload_n 0, 1) := by decide +kernel
theorem dX9_append_1 : decode cX9_append 1 = .ok (.iload_n 1, 1) := by decide +kernel
theorem dX9_append_2 : decode cX9_append 2 = .ok (.i2l, 1) := by decide +kernel
theorem dX9_append_3 : decode cX9_append 3 = .ok (.lconst 0, 1) := by decide +kernel
theorem dX9_append_4 : decode cX9_append 4 = .ok (.ldc2_w 123, 3) := by decide +kernel
theorem dX9_append_7 : decode cX9_append 7 = .ok (.invokestatic 52, 3) := by decide +kernel
theorem dX9_append_10 : decode cX9_append 10 = .ok (.ifCond .ne 7, 3) := by decide +kernel
theorem dX9_append_13 : decode cX9_append 13 = .ok (.iconst 1, 1) := by decide +kernel
theorem dX9_append_14 : decode cX9_append 14 = .ok (.goto 18, 3) := by decide +kernel
theorem dX9_append_17 : decode cX9_append 17 = .ok (.aload_n 0, 1) := by decide +kernel
theorem dX9_append_18 : decode cX9_append 18 = .ok (.getfield 125, 3) := by decide +kernel
theorem dX9_append_21 : decode cX9_append 21 = .ok (.sipush 160, 3) := by decide +kernel
theorem dX9_append_24 : decode cX9_append 24 = .ok (.if_icmp .ne 7, 3) := by decide +kernel
theorem dX9_append_27 : decode cX9_append 27 = .ok (.iconst 2, 1) := by decide +kernel
theorem dX9_append_28 : decode cX9_append 28 = .ok (.goto 4, 3) := by decide +kernel
theorem dX9_append_31 : decode cX9_append 31 = .ok (.iconst 0, 1) := by decide +kernel
theorem dX9_append_32 : decode cX9_append 32 = .ok (.invokevirtual 128, 3) := by decide +kernel
theorem dX9_append_35 : decode cX9_append 35 = .ok (.ifCond .eq 5, 3) := by decide +kernel
theorem dX9_append_38 : decode cX9_append 38 = .ok (.iconst 0, 1) := by decide +kernel
theorem dX9_append_39 : decode cX9_append 39 = .ok (.ireturn, 1) := by decide +kernel
theorem dX9_append_40 : decode cX9_append 40 = .ok (.aload_n 0, 1) := by decide +kernel
theorem dX9_append_41 : decode cX9_append 41 = .ok (.getfield 7, 3) := by decide +kernel
theorem dX9_append_44 : decode cX9_append 44 = .ok (.aload_n 0, 1) := by decide +kernel
theorem dX9_append_45 : decode cX9_append 45 = .ok (.getfield 125, 3) := by decide +kernel
theorem dX9_append_48 : decode cX9_append 48 = .ok (.iload_n 1, 1) := by decide +kernel
theorem dX9_append_49 : decode cX9_append 49 = .ok (.iastore, 1) := by decide +kernel
theorem dX9_append_50 : decode cX9_append 50 = .ok (.aload_n 0, 1) := by decide +kernel
theorem dX9_append_51 : decode cX9_append 51 = .ok (.dup, 1) := by decide +kernel
theorem dX9_append_52 : decode cX9_append 52 = .ok (.getfield 125, 3) := by decide +kernel
theorem dX9_append_55 : decode cX9_append 55 = .ok (.iconst 1, 1) := by decide +kernel
theorem dX9_append_56 : decode cX9_append 56 = .ok (.iadd, 1) := by decide +kernel
theorem dX9_append_57 : decode cX9_append 57 = .ok (.putfield 125, 3) := by decide +kernel
theorem dX9_append_60 : decode cX9_append 60 = .ok (.aload_n 0, 1) := by decide +kernel
theorem dX9_append_61 : decode cX9_append 61 = .ok (.getfield 125, 3) := by decide +kernel
theorem dX9_append_64 : decode cX9_append 64 = .ok (.ireturn, 1) := by decide +kernel
theorem dX9_clearText_0 : decode cX9_clearText 0 = .ok (.aload_n 0, 1) := by decide +kernel
theorem dX9_clearText_1 : decode cX9_clearText 1 = .ok (.getfield 125, 3) := by decide +kernel
theorem dX9_clearText_4 : decode cX9_clearText 4 = .ok (.istore_n 1, 1) := by decide +kernel
theorem dX9_clearText_5 : decode cX9_clearText 5 = .ok (.aload_n 0, 1) := by decide +kernel
theorem dX9_clearText_6 : decode cX9_clearText 6 = .ok (.iconst 0, 1) := by decide +kernel
theorem dX9_clearText_7 : decode cX9_clearText 7 = .ok (.putfield 125, 3) := by decide +kernel
theorem dX9_clearText_10 : decode cX9_clearText 10 = .ok (.iload_n 1, 1) := by decide +kernel
theorem dX9_clearText_11 : decode cX9_clearText 11 = .ok (.ireturn, 1) := by decide +kernel
theorem dX9_number_0 : decode cX9_number 0 = .ok (.iconst 0, 1) := by decide +kernel
theorem dX9_number_1 : decode cX9_number 1 = .ok (.istore 6, 2) := by decide +kernel
theorem dX9_number_3 : decode cX9_number 3 = .ok (.iload_n 1, 1) := by decide +kernel
theorem dX9_number_4 : decode cX9_number 4 = .ok (.iconst 1, 1) := by decide +kernel
theorem dX9_number_5 : decode cX9_number 5 = .ok (.isub, 1) := by decide +kernel
theorem dX9_number_6 : decode cX9_number 6 = .ok (.istore 7, 2) := by decide +kernel
theorem dX9_number_8 : decode cX9_number 8 = .ok (.iload 7, 2) := by decide +kernel
theorem dX9_number_10 : decode cX9_number 10 = .ok (.ifCond .lt 129, 3) := by decide +kernel
theorem dX9_number_13 : decode cX9_number 13 = .ok (.aload_n 0, 1) := by decide +kernel
theorem dX9_number_14 : decode cX9_number 14 = .ok (.getfield 132, 3) := by decide +kernel
theorem dX9_number_17 : decode cX9_number 17 = .ok (.aload_n 0, 1) := by decide +kernel
theorem dX9_number_18 : decode cX9_number 18 = .ok (.getfield 125, 3) := by decide +kernel
theorem dX9_number_21 : decode cX9_number 21 = .ok (.if_icmp .ge 18, 3) := by decide +kernel
theorem dX9_number_24 : decode cX9_number 24 = .ok (.aload_n 0, 1) := by decide +kernel
theorem dX9_number_25 : decode cX9_number 25 = .ok (.getfield 7, 3) := by decide +kernel
theorem dX9_number_28 : decode cX9_number 28 = .ok (.aload_n 0, 1) := by decide +kernel
theorem dX9_number_29 : decode cX9_number 29 = .ok (.getfield 132, 3) := by decide +kernel
theorem dX9_number_32 : decode cX9_number 32 = .ok (.iaload, 1) := by decide +kernel
theorem dX9_number_33 : decode cX9_number 33 = .ok (.bipush 48, 2) := by decide +kernel
theorem dX9_number_35 : decode cX9_number 35 = .ok (.isub, 1) := by decide +kernel
theorem dX9_number_36 : decode cX9_number 36 = .ok (.goto 6, 3) := by decide +kernel
theorem dX9_number_39 : decode cX9_number 39 = .ok (.sipush (-9999), 3) := by decide +kernel
theorem dX9_number_42 : decode cX9_number 42 = .ok (.istore 8, 2) := by decide +kernel
theorem dX9_number_44 : decode cX9_number 44 = .ok (.iconst 2, 1) := by decide +kernel
theorem dX9_number_45 : decode cX9_number 45 = .ok (.iload 6, 2) := by decide +kernel
theorem dX9_number_47 : decode cX9_number 47 = .ok (.imul, 1) := by decide +kernel
theorem dX9_number_48 : decode cX9_number 48 = .ok (.iload 8, 2) := by decide +kernel
theorem dX9_number_50 : decode cX9_number 50 = .ok (.iadd, 1) := by decide +kernel
theorem dX9_number_51 : decode cX9_number 51 = .ok (.iload 7, 2) := by decide +kernel
theorem dX9_number_53 : decode cX9_number 53 = .ok (.ishl, 1) := by decide +kernel
theorem dX9_number_54 : decode cX9_number 54 = .ok (.istore 9, 2) := by decide +kernel
theorem dX9_number_56 : decode cX9_number 56 = .ok (.iload 9, 2) := by decide +kernel
theorem dX9_number_58 : decode cX9_number 58 = .ok (.iconst 1, 1) := by decide +kernel
theorem dX9_number_59 : decode cX9_number 59 = .ok (.iload 7, 2) := by decide +kernel
theorem dX9_number_61 : decode cX9_number 61 = .ok (.ishl, 1) := by decide +kernel
theorem dX9_number_62 : decode cX9_number 62 = .ok (.iadd, 1) := by decide +kernel
theorem dX9_number_63 : decode cX9_number 63 = .ok (.iconst 1, 1) := by decide +kernel
theorem dX9_number_64 : decode cX9_number 64 = .ok (.isub, 1) := by decide +kernel
theorem dX9_number_65 : decode cX9_number 65 = .ok (.istore 10, 2) := by decide +kernel
theorem dX9_number_67 : decode cX9_number 67 = .ok (.iload 8, 2) := by decide +kernel
theorem dX9_number_69 : decode cX9_number 69 = .ok (.i2l, 1) := by decide +kernel
theorem dX9_number_70 : decode cX9_number 70 = .ok (.lconst 0, 1) := by decide +kernel
theorem dX9_number_71 : decode cX9_number 71 = .ok (.lconst 1, 1) := by decide +kernel
theorem dX9_number_72 : decode cX9_number 72 = .ok (.invokestatic 52, 3) := by decide +kernel
theorem dX9_number_75 : decode cX9_number 75 = .ok (.ifCond .eq 35, 3) := by decide +kernel
theorem dX9_number_78 : decode cX9_number 78 = .ok (.iload_n 3, 1) := by decide +kernel
theorem dX9_number_79 : decode cX9_number 79 = .ok (.iload 10, 2) := by decide +kernel
theorem dX9_number_81 : decode cX9_number 81 = .ok (.invokestatic 60, 3) := by decide +kernel
theorem dX9_number_84 : decode cX9_number 84 = .ok (.iload_n 2, 1) := by decide +kernel
theorem dX9_number_85 : decode cX9_number 85 = .ok (.iload 9, 2) := by decide +kernel
theorem dX9_number_87 : decode cX9_number 87 = .ok (.invokestatic 64, 3) := by decide +kernel
theorem dX9_number_90 : decode cX9_number 90 = .ok (.if_icmp .ge 24, 3) := by decide +kernel
theorem dX9_number_93 : decode cX9_number 93 = .ok (.iload 5, 2) := by decide +kernel
theorem dX9_number_95 : decode cX9_number 95 = .ok (.iload 10, 2) := by decide +kernel
theorem dX9_number_97 : decode cX9_number 97 = .ok (.invokestatic 60, 3) := by decide +kernel
theorem dX9_number_100 : decode cX9_number 100 = .ok (.iload 4, 2) := by decide +kernel
theorem dX9_number_102 : decode cX9_number 102 = .ok (.iload 9, 2) := by decide +kernel
theorem dX9_number_104 : decode cX9_number 104 = .ok (.invokestatic 64, 3) := by decide +kernel
theorem dX9_number_107 : decode cX9_number 107 = .ok (.if_icmp .ge 7, 3) := by decide +kernel
theorem dX9_number_110 : decode cX9_number 110 = .ok (.sipush (-9999), 3) := by decide +kernel
theorem dX9_number_113 : decode cX9_number 113 = .ok (.ireturn, 1) := by decide +kernel
theorem dX9_number_114 : decode cX9_number 114 = .ok (.iconst 2, 1) := by decide +kernel
theorem dX9_number_115 : decode cX9_number 115 = .ok (.iload 6, 2) := by decide +kernel
theorem dX9_number_117 : decode cX9_number 117 = .ok (.imul, 1) := by decide +kernel
theorem dX9_number_118 : decode cX9_number 118 = .ok (.iload 8, 2) := by decide +kernel
theorem dX9_number_120 : decode cX9_number 120 = .ok (.iadd, 1) := by decide +kernel
theorem dX9_number_121 : decode cX9_number 121 = .ok (.istore 6, 2) := by decide +kernel
theorem dX9_number_123 : decode cX9_number 123 = .ok (.aload_n 0, 1) := by decide +kernel
theorem dX9_number_124 : decode cX9_number 124 = .ok (.dup, 1) := by decide +kernel
theorem dX9_number_125 : decode cX9_number 125 = .ok (.getfield 132, 3) := by decide +kernel
theorem dX9_number_128 : decode cX9_number 128 = .ok (.iconst 1, 1) := by decide +kernel
theorem dX9_number_129 : decode cX9_number 129 = .ok (.iadd, 1) := by decide +kernel
theorem dX9_number_130 : decode cX9_number 130 = .ok (.putfield 132, 3) := by decide +kernel
theorem dX9_number_133 : decode cX9_number 133 = .ok (.iinc 7 (-1), 3) := by decide +kernel
theorem dX9_number_136 : decode cX9_number 136 = .ok (.goto (-128), 3) := by decide +kernel
theorem dX9_number_139 : decode cX9_number 139 = .ok (.iload 6, 2) := by decide +kernel
theorem dX9_number_141 : decode cX9_number 141 = .ok (.ireturn, 1) := by decide +kernel
theorem dX9_numberIn_0 : decode cX9_numberIn 0 = .ok (.aload_n 0, 1) := by decide +kernel
theorem dX9_numberIn_1 : decode cX9_numberIn 1 = .ok (.iload_n 1, 1) := by decide +kernel
theorem dX9_numberIn_2 : decode cX9_numberIn 2 = .ok (.iload_n 2, 1) := by decide +kernel
theorem dX9_numberIn_3 : decode cX9_numberIn 3 = .ok (.iload_n 3, 1) := by decide +kernel
theorem dX9_numberIn_4 : decode cX9_numberIn 4 = .ok (.iconst 1, 1) := by decide +kernel
theorem dX9_numberIn_5 : decode cX9_numberIn 5 = .ok (.iconst 0, 1) := by decide +kernel
theorem dX9_numberIn_6 : decode cX9_numberIn 6 = .ok (.invokevirtual 135, 3) := by decide +kernel
theorem dX9_numberIn_9 : decode cX9_numberIn 9 = .ok (.ireturn, 1) := by decide +kernel
theorem dX9_readPlain_0 : decode cX9_readPlain 0 = .ok (.iconst 0, 1) := by decide +kernel
theorem dX9_readPlain_1 : decode cX9_readPlain 1 = .ok (.istore_n 2, 1) := by decide +kernel
theorem dX9_readPlain_2 : decode cX9_readPlain 2 = .ok (.iload_n 2, 1) := by decide +kernel
theorem dX9_readPlain_3 : decode cX9_readPlain 3 = .ok (.iload_n 1, 1) := by decide +kernel
theorem dX9_readPlain_4 : decode cX9_readPlain 4 = .ok (.if_icmp .ge 39, 3) := by decide +kernel
theorem dX9_readPlain_7 : decode cX9_readPlain 7 = .ok (.aload_n 0, 1) := by decide +kernel
theorem dX9_readPlain_8 : decode cX9_readPlain 8 = .ok (.getfield 35, 3) := by decide +kernel
theorem dX9_readPlain_11 : decode cX9_readPlain 11 = .ok (.iload_n 2, 1) := by decide +kernel
theorem dX9_readPlain_12 : decode cX9_readPlain 12 = .ok (.aload_n 0, 1) := by decide +kernel
theorem dX9_readPlain_13 : decode cX9_readPlain 13 = .ok (.bipush 10, 2) := by decide +kernel
theorem dX9_readPlain_15 : decode cX9_readPlain 15 = .ok (.iconst 0, 1) := by decide +kernel
theorem dX9_readPlain_16 : decode cX9_readPlain 16 = .ok (.sipush 1023, 3) := by decide +kernel
theorem dX9_readPlain_19 : decode cX9_readPlain 19 = .ok (.invokevirtual 139, 3) := by decide +kernel
theorem dX9_readPlain_22 : decode cX9_readPlain 22 = .ok (.iastore, 1) := by decide +kernel
theorem dX9_readPlain_23 : decode cX9_readPlain 23 = .ok (.aload_n 0, 1) := by decide +kernel
theorem dX9_readPlain_24 : decode cX9_readPlain 24 = .ok (.getfield 35, 3) := by decide +kernel
theorem dX9_readPlain_27 : decode cX9_readPlain 27 = .ok (.iload_n 2, 1) := by decide +kernel
theorem dX9_readPlain_28 : decode cX9_readPlain 28 = .ok (.iaload, 1) := by decide +kernel
theorem dX9_readPlain_29 : decode cX9_readPlain 29 = .ok (.sipush (-9999), 3) := by decide +kernel
theorem dX9_readPlain_32 : decode cX9_readPlain 32 = .ok (.if_icmp .ne 5, 3) := by decide +kernel
theorem dX9_readPlain_35 : decode cX9_readPlain 35 = .ok (.iconst 0, 1) := by decide +kernel
theorem dX9_readPlain_36 : decode cX9_readPlain 36 = .ok (.ireturn, 1) := by decide +kernel
theorem dX9_readPlain_37 : decode cX9_readPlain 37 = .ok (.iinc 2 1, 3) := by decide +kernel
theorem dX9_readPlain_40 : decode cX9_readPlain 40 = .ok (.goto (-38), 3) := by decide +kernel
theorem dX9_readPlain_43 : decode cX9_readPlain 43 = .ok (.iconst 1, 1) := by decide +kernel
theorem dX9_readPlain_44 : decode cX9_readPlain 44 = .ok (.ireturn, 1) := by decide +kernel
theorem dX9_readWords_0 : decode cX9_readWords 0 = .ok (.aload_n 0, 1) := by decide +kernel
theorem dX9_readWords_1 : decode cX9_readWords 1 = .ok (.iconst 4, 1) := by decide +kernel
theorem dX9_readWords_2 : decode cX9_readWords 2 = .ok (.iconst 1, 1) := by decide +kernel
theorem dX9_readWords_3 : decode cX9_readWords 3 = .ok (.iload_n 1, 1) := by decide +kernel
theorem dX9_readWords_4 : decode cX9_readWords 4 = .ok (.invokevirtual 139, 3) := by decide +kernel
theorem dX9_readWords_7 : decode cX9_readWords 7 = .ok (.istore_n 2, 1) := by decide +kernel
theorem dX9_readWords_8 : decode cX9_readWords 8 = .ok (.iconst 0, 1) := by decide +kernel
theorem dX9_readWords_9 : decode cX9_readWords 9 = .ok (.istore_n 3, 1) := by decide +kernel
theorem dX9_readWords_10 : decode cX9_readWords 10 = .ok (.iload_n 3, 1) := by decide +kernel
theorem dX9_readWords_11 : decode cX9_readWords 11 = .ok (.iload_n 2, 1) := by decide +kernel
theorem dX9_readWords_12 : decode cX9_readWords 12 = .ok (.if_icmp .ge 39, 3) := by decide +kernel
theorem dX9_readWords_15 : decode cX9_readWords 15 = .ok (.aload_n 0, 1) := by decide +kernel
theorem dX9_readWords_16 : decode cX9_readWords 16 = .ok (.getfield 38, 3) := by decide +kernel
theorem dX9_readWords_19 : decode cX9_readWords 19 = .ok (.iload_n 3, 1) := by decide +kernel
theorem dX9_readWords_20 : decode cX9_readWords 20 = .ok (.aload_n 0, 1) := by decide +kernel
theorem dX9_readWords_21 : decode cX9_readWords 21 = .ok (.bipush 10, 2) := by decide +kernel
theorem dX9_readWords_23 : decode cX9_readWords 23 = .ok (.iconst 0, 1) := by decide +kernel
theorem dX9_readWords_24 : decode cX9_readWords 24 = .ok (.sipush 1023, 3) := by decide +kernel
theorem dX9_readWords_27 : decode cX9_readWords 27 = .ok (.invokevirtual 139, 3) := by decide +kernel
theorem dX9_readWords_30 : decode cX9_readWords 30 = .ok (.iastore, 1) := by decide +kernel
theorem dX9_readWords_31 : decode cX9_readWords 31 = .ok (.aload_n 0, 1) := by decide +kernel
theorem dX9_readWords_32 : decode cX9_readWords 32 = .ok (.getfield 38, 3) := by decide +kernel
theorem dX9_readWords_35 : decode cX9_readWords 35 = .ok (.iload_n 3, 1) := by decide +kernel
theorem dX9_readWords_36 : decode cX9_readWords 36 = .ok (.iaload, 1) := by decide +kernel
theorem dX9_readWords_37 : decode cX9_readWords 37 = .ok (.sipush (-9999), 3) := by decide +kernel
theorem dX9_readWords_40 : decode cX9_readWords 40 = .ok (.if_icmp .ne 5, 3) := by decide +kernel
theorem dX9_readWords_43 : decode cX9_readWords 43 = .ok (.iconst 0, 1) := by decide +kernel
theorem dX9_readWords_44 : decode cX9_readWords 44 = .ok (.ireturn, 1) := by decide +kernel
theorem dX9_readWords_45 : decode cX9_readWords 45 = .ok (.iinc 3 1, 3) := by decide +kernel
theorem dX9_readWords_48 : decode cX9_readWords 48 = .ok (.goto (-38), 3) := by decide +kernel
theorem dX9_readWords_51 : decode cX9_readWords 51 = .ok (.iconst 0, 1) := by decide +kernel
theorem dX9_readWords_52 : decode cX9_readWords 52 = .ok (.istore_n 3, 1) := by decide +kernel
theorem dX9_readWords_53 : decode cX9_readWords 53 = .ok (.iload_n 3, 1) := by decide +kernel
theorem dX9_readWords_54 : decode cX9_readWords 54 = .ok (.iload_n 1, 1) := by decide +kernel
theorem dX9_readWords_55 : decode cX9_readWords 55 = .ok (.if_icmp .ge 55, 3) := by decide +kernel
theorem dX9_readWords_58 : decode cX9_readWords 58 = .ok (.iload_n 2, 1) := by decide +kernel
theorem dX9_readWords_59 : decode cX9_readWords 59 = .ok (.sipush (-9999), 3) := by decide +kernel
theorem dX9_readWords_62 : decode cX9_readWords 62 = .ok (.if_icmp .eq 48, 3) := by decide +kernel
theorem dX9_readWords_65 : decode cX9_readWords 65 = .ok (.aload_n 0, 1) := by decide +kernel
theorem dX9_readWords_66 : decode cX9_readWords 66 = .ok (.iload_n 2, 1) := by decide +kernel
theorem dX9_readWords_67 : decode cX9_readWords 67 = .ok (.iconst 1, 1) := by decide +kernel
theorem dX9_readWords_68 : decode cX9_readWords 68 = .ok (.isub, 1) := by decide +kernel
theorem dX9_readWords_69 : decode cX9_readWords 69 = .ok (.invokestatic 75, 3) := by decide +kernel
theorem dX9_readWords_72 : decode cX9_readWords 72 = .ok (.iconst 0, 1) := by decide +kernel
theorem dX9_readWords_73 : decode cX9_readWords 73 = .ok (.iload_n 2, 1) := by decide +kernel
theorem dX9_readWords_74 : decode cX9_readWords 74 = .ok (.iconst 1, 1) := by decide +kernel
theorem dX9_readWords_75 : decode cX9_readWords 75 = .ok (.isub, 1) := by decide +kernel
theorem dX9_readWords_76 : decode cX9_readWords 76 = .ok (.invokevirtual 139, 3) := by decide +kernel
theorem dX9_readWords_79 : decode cX9_readWords 79 = .ok (.istore 4, 2) := by decide +kernel
theorem dX9_readWords_81 : decode cX9_readWords 81 = .ok (.iload 4, 2) := by decide +kernel
theorem dX9_readWords_83 : decode cX9_readWords 83 = .ok (.sipush (-9999), 3) := by decide +kernel
theorem dX9_readWords_86 : decode cX9_readWords 86 = .ok (.if_icmp .ne 5, 3) := by decide +kernel
theorem dX9_readWords_89 : decode cX9_readWords 89 = .ok (.iconst 0, 1) := by decide +kernel
theorem dX9_readWords_90 : decode cX9_readWords 90 = .ok (.ireturn, 1) := by decide +kernel
theorem dX9_readWords_91 : decode cX9_readWords 91 = .ok (.aload_n 0, 1) := by decide +kernel
theorem dX9_readWords_92 : decode cX9_readWords 92 = .ok (.getfield 35, 3) := by decide +kernel
theorem dX9_readWords_95 : decode cX9_readWords 95 = .ok (.iload_n 3, 1) := by decide +kernel
theorem dX9_readWords_96 : decode cX9_readWords 96 = .ok (.aload_n 0, 1) := by decide +kernel
theorem dX9_readWords_97 : decode cX9_readWords 97 = .ok (.getfield 38, 3) := by decide +kernel
theorem dX9_readWords_100 : decode cX9_readWords 100 = .ok (.iload 4, 2) := by decide +kernel
theorem dX9_readWords_102 : decode cX9_readWords 102 = .ok (.iaload, 1) := by decide +kernel
theorem dX9_readWords_103 : decode cX9_readWords 103 = .ok (.iastore, 1) := by decide +kernel
theorem dX9_readWords_104 : decode cX9_readWords 104 = .ok (.iinc 3 1, 3) := by decide +kernel
theorem dX9_readWords_107 : decode cX9_readWords 107 = .ok (.goto (-54), 3) := by decide +kernel
theorem dX9_readWords_110 : decode cX9_readWords 110 = .ok (.iload_n 2, 1) := by decide +kernel
theorem dX9_readWords_111 : decode cX9_readWords 111 = .ok (.sipush (-9999), 3) := by decide +kernel
theorem dX9_readWords_114 : decode cX9_readWords 114 = .ok (.if_icmp .eq 7, 3) := by decide +kernel
theorem dX9_readWords_117 : decode cX9_readWords 117 = .ok (.iconst 1, 1) := by decide +kernel
theorem dX9_readWords_118 : decode cX9_readWords 118 = .ok (.goto 4, 3) := by decide +kernel
theorem dX9_readWords_121 : decode cX9_readWords 121 = .ok (.iconst 0, 1) := by decide +kernel
theorem dX9_readWords_122 : decode cX9_readWords 122 = .ok (.ireturn, 1) := by decide +kernel
theorem dX9_readRuns_0 : decode cX9_readRuns 0 = .ok (.iconst 0, 1) := by decide +kernel
theorem dX9_readRuns_1 : decode cX9_readRuns 1 = .ok (.istore_n 2, 1) := by decide +kernel
theorem dX9_readRuns_2 : decode cX9_readRuns 2 = .ok (.iload_n 2, 1) := by decide +kernel
theorem dX9_readRuns_3 : decode cX9_readRuns 3 = .ok (.iload_n 1, 1) := by decide +kernel
theorem dX9_readRuns_4 : decode cX9_readRuns 4 = .ok (.if_icmp .ge 77, 3) := by decide +kernel
theorem dX9_readRuns_7 : decode cX9_readRuns 7 = .ok (.aload_n 0, 1) := by decide +kernel
theorem dX9_readRuns_8 : decode cX9_readRuns 8 = .ok (.bipush 10, 2) := by decide +kernel
theorem dX9_readRuns_10 : decode cX9_readRuns 10 = .ok (.iconst 0, 1) := by decide +kernel
theorem dX9_readRuns_11 : decode cX9_readRuns 11 = .ok (.sipush 1023, 3) := by decide +kernel
theorem dX9_readRuns_14 : decode cX9_readRuns 14 = .ok (.invokevirtual 139, 3) := by decide +kernel
theorem dX9_readRuns_17 : decode cX9_readRuns 17 = .ok (.istore_n 3, 1) := by decide +kernel
theorem dX9_readRuns_18 : decode cX9_readRuns 18 = .ok (.iload_n 3, 1) := by decide +kernel
theorem dX9_readRuns_19 : decode cX9_readRuns 19 = .ok (.sipush (-9999), 3) := by decide +kernel
theorem dX9_readRuns_22 : decode cX9_readRuns 22 = .ok (.if_icmp .ne 9, 3) := by decide +kernel
theorem dX9_readRuns_25 : decode cX9_readRuns 25 = .ok (.sipush (-9999), 3) := by decide +kernel
theorem dX9_readRuns_28 : decode cX9_readRuns 28 = .ok (.goto 12, 3) := by decide +kernel
theorem dX9_readRuns_31 : decode cX9_readRuns 31 = .ok (.aload_n 0, 1) := by decide +kernel
theorem dX9_readRuns_32 : decode cX9_readRuns 32 = .ok (.iconst 4, 1) := by decide +kernel
theorem dX9_readRuns_33 : decode cX9_readRuns 33 = .ok (.iconst 1, 1) := by decide +kernel
theorem dX9_readRuns_34 : decode cX9_readRuns 34 = .ok (.iload_n 1, 1) := by decide +kernel
theorem dX9_readRuns_35 : decode cX9_readRuns 35 = .ok (.iload_n 2, 1) := by decide +kernel
theorem dX9_readRuns_36 : decode cX9_readRuns 36 = .ok (.isub, 1) := by decide +kernel
theorem dX9_readRuns_37 : decode cX9_readRuns 37 = .ok (.invokevirtual 139, 3) := by decide +kernel
theorem dX9_readRuns_40 : decode cX9_readRuns 40 = .ok (.istore 4, 2) := by decide +kernel
theorem dX9_readRuns_42 : decode cX9_readRuns 42 = .ok (.iload 4, 2) := by decide +kernel
theorem dX9_readRuns_44 : decode cX9_readRuns 44 = .ok (.sipush (-9999), 3) := by decide +kernel
theorem dX9_readRuns_47 : decode cX9_readRuns 47 = .ok (.if_icmp .ne 5, 3) := by decide +kernel
theorem dX9_readRuns_50 : decode cX9_readRuns 50 = .ok (.iconst 0, 1) := by decide +kernel
theorem dX9_readRuns_51 : decode cX9_readRuns 51 = .ok (.ireturn, 1) := by decide +kernel
theorem dX9_readRuns_52 : decode cX9_readRuns 52 = .ok (.iconst 0, 1) := by decide +kernel
theorem dX9_readRuns_53 : decode cX9_readRuns 53 = .ok (.istore 5, 2) := by decide +kernel
theorem dX9_readRuns_55 : decode cX9_readRuns 55 = .ok (.iload 5, 2) := by decide +kernel
theorem dX9_readRuns_57 : decode cX9_readRuns 57 = .ok (.iload 4, 2) := by decide +kernel
theorem dX9_readRuns_59 : decode cX9_readRuns 59 = .ok (.if_icmp .ge 19, 3) := by decide +kernel
theorem dX9_readRuns_62 : decode cX9_readRuns 62 = .ok (.aload_n 0, 1) := by decide +kernel
theorem dX9_readRuns_63 : decode cX9_readRuns 63 = .ok (.getfield 35, 3) := by decide +kernel
theorem dX9_readRuns_66 : decode cX9_readRuns 66 = .ok (.iload_n 2, 1) := by decide +kernel
theorem dX9_readRuns_67 : decode cX9_readRuns 67 = .ok (.iload_n 3, 1) := by decide +kernel
theorem dX9_readRuns_68 : decode cX9_readRuns 68 = .ok (.iastore, 1) := by decide +kernel
theorem dX9_readRuns_69 : decode cX9_readRuns 69 = .ok (.iinc 2 1, 3) := by decide +kernel
theorem dX9_readRuns_72 : decode cX9_readRuns 72 = .ok (.iinc 5 1, 3) := by decide +kernel
theorem dX9_readRuns_75 : decode cX9_readRuns 75 = .ok (.goto (-20), 3) := by decide +kernel
theorem dX9_readRuns_78 : decode cX9_readRuns 78 = .ok (.goto (-76), 3) := by decide +kernel
theorem dX9_readRuns_81 : decode cX9_readRuns 81 = .ok (.iconst 1, 1) := by decide +kernel
theorem dX9_readRuns_82 : decode cX9_readRuns 82 = .ok (.ireturn, 1) := by decide +kernel
theorem dX9_readSmall_0 : decode cX9_readSmall 0 = .ok (.aload_n 0, 1) := by decide +kernel
theorem dX9_readSmall_1 : decode cX9_readSmall 1 = .ok (.bipush 10, 2) := by decide +kernel
theorem dX9_readSmall_3 : decode cX9_readSmall 3 = .ok (.iconst 0, 1) := by decide +kernel
theorem dX9_readSmall_4 : decode cX9_readSmall 4 = .ok (.sipush 1023, 3) := by decide +kernel
theorem dX9_readSmall_7 : decode cX9_readSmall 7 = .ok (.invokevirtual 139, 3) := by decide +kernel
theorem dX9_readSmall_10 : decode cX9_readSmall 10 = .ok (.istore_n 2, 1) := by decide +kernel
theorem dX9_readSmall_11 : decode cX9_readSmall 11 = .ok (.iload_n 2, 1) := by decide +kernel
theorem dX9_readSmall_12 : decode cX9_readSmall 12 = .ok (.sipush (-9999), 3) := by decide +kernel
theorem dX9_readSmall_15 : decode cX9_readSmall 15 = .ok (.if_icmp .ne 9, 3) := by decide +kernel
theorem dX9_readSmall_18 : decode cX9_readSmall 18 = .ok (.sipush (-9999), 3) := by decide +kernel
theorem dX9_readSmall_21 : decode cX9_readSmall 21 = .ok (.goto 11, 3) := by decide +kernel
theorem dX9_readSmall_24 : decode cX9_readSmall 24 = .ok (.aload_n 0, 1) := by decide +kernel
theorem dX9_readSmall_25 : decode cX9_readSmall 25 = .ok (.iconst 4, 1) := by decide +kernel
theorem dX9_readSmall_26 : decode cX9_readSmall 26 = .ok (.iconst 0, 1) := by decide +kernel
theorem dX9_readSmall_27 : decode cX9_readSmall 27 = .ok (.bipush 10, 2) := by decide +kernel
theorem dX9_readSmall_29 : decode cX9_readSmall 29 = .ok (.invokevirtual 139, 3) := by decide +kernel
theorem dX9_readSmall_32 : decode cX9_readSmall 32 = .ok (.istore_n 3, 1) := by decide +kernel
theorem dX9_readSmall_33 : decode cX9_readSmall 33 = .ok (.iconst 0, 1) := by decide +kernel
theorem dX9_readSmall_34 : decode cX9_readSmall 34 = .ok (.istore 4, 2) := by decide +kernel
theorem dX9_readSmall_36 : decode cX9_readSmall 36 = .ok (.iload 4, 2) := by decide +kernel
theorem dX9_readSmall_38 : decode cX9_readSmall 38 = .ok (.iload_n 1, 1) := by decide +kernel
theorem dX9_readSmall_39 : decode cX9_readSmall 39 = .ok (.if_icmp .ge 50, 3) := by decide +kernel
theorem dX9_readSmall_42 : decode cX9_readSmall 42 = .ok (.iload_n 3, 1) := by decide +kernel
theorem dX9_readSmall_43 : decode cX9_readSmall 43 = .ok (.sipush (-9999), 3) := by decide +kernel
theorem dX9_readSmall_46 : decode cX9_readSmall 46 = .ok (.if_icmp .eq 43, 3) := by decide +kernel
theorem dX9_readSmall_49 : decode cX9_readSmall 49 = .ok (.aload_n 0, 1) := by decide +kernel
theorem dX9_readSmall_50 : decode cX9_readSmall 50 = .ok (.iload_n 3, 1) := by decide +kernel
theorem dX9_readSmall_51 : decode cX9_readSmall 51 = .ok (.iconst 0, 1) := by decide +kernel
theorem dX9_readSmall_52 : decode cX9_readSmall 52 = .ok (.sipush 1023, 3) := by decide +kernel
theorem dX9_readSmall_55 : decode cX9_readSmall 55 = .ok (.iload_n 2, 1) := by decide +kernel
theorem dX9_readSmall_56 : decode cX9_readSmall 56 = .ok (.isub, 1) := by decide +kernel
theorem dX9_readSmall_57 : decode cX9_readSmall 57 = .ok (.invokevirtual 139, 3) := by decide +kernel
theorem dX9_readSmall_60 : decode cX9_readSmall 60 = .ok (.istore 5, 2) := by decide +kernel
theorem dX9_readSmall_62 : decode cX9_readSmall 62 = .ok (.iload 5, 2) := by decide +kernel
theorem dX9_readSmall_64 : decode cX9_readSmall 64 = .ok (.sipush (-9999), 3) := by decide +kernel
theorem dX9_readSmall_67 : decode cX9_readSmall 67 = .ok (.if_icmp .ne 5, 3) := by decide +kernel
theorem dX9_readSmall_70 : decode cX9_readSmall 70 = .ok (.iconst 0, 1) := by decide +kernel
theorem dX9_readSmall_71 : decode cX9_readSmall 71 = .ok (.ireturn, 1) := by decide +kernel
theorem dX9_readSmall_72 : decode cX9_readSmall 72 = .ok (.aload_n 0, 1) := by decide +kernel
theorem dX9_readSmall_73 : decode cX9_readSmall 73 = .ok (.getfield 35, 3) := by decide +kernel
theorem dX9_readSmall_76 : decode cX9_readSmall 76 = .ok (.iload 4, 2) := by decide +kernel
theorem dX9_readSmall_78 : decode cX9_readSmall 78 = .ok (.iload_n 2, 1) := by decide +kernel
theorem dX9_readSmall_79 : decode cX9_readSmall 79 = .ok (.iload 5, 2) := by decide +kernel
theorem dX9_readSmall_81 : decode cX9_readSmall 81 = .ok (.iadd, 1) := by decide +kernel
theorem dX9_readSmall_82 : decode cX9_readSmall 82 = .ok (.iastore, 1) := by decide +kernel
theorem dX9_readSmall_83 : decode cX9_readSmall 83 = .ok (.iinc 4 1, 3) := by decide +kernel
theorem dX9_readSmall_86 : decode cX9_readSmall 86 = .ok (.goto (-50), 3) := by decide +kernel
theorem dX9_readSmall_89 : decode cX9_readSmall 89 = .ok (.iload_n 3, 1) := by decide +kernel
theorem dX9_readSmall_90 : decode cX9_readSmall 90 = .ok (.sipush (-9999), 3) := by decide +kernel
theorem dX9_readSmall_93 : decode cX9_readSmall 93 = .ok (.if_icmp .eq 7, 3) := by decide +kernel
theorem dX9_readSmall_96 : decode cX9_readSmall 96 = .ok (.iconst 1, 1) := by decide +kernel
theorem dX9_readSmall_97 : decode cX9_readSmall 97 = .ok (.goto 4, 3) := by decide +kernel
theorem dX9_readSmall_100 : decode cX9_readSmall 100 = .ok (.iconst 0, 1) := by decide +kernel
theorem dX9_readSmall_101 : decode cX9_readSmall 101 = .ok (.ireturn, 1) := by decide +kernel
theorem dX9_readSteps_0 : decode cX9_readSteps 0 = .ok (.aload_n 0, 1) := by decide +kernel
theorem dX9_readSteps_1 : decode cX9_readSteps 1 = .ok (.bipush 10, 2) := by decide +kernel
theorem dX9_readSteps_3 : decode cX9_readSteps 3 = .ok (.iconst 0, 1) := by decide +kernel
theorem dX9_readSteps_4 : decode cX9_readSteps 4 = .ok (.sipush 1023, 3) := by decide +kernel
theorem dX9_readSteps_7 : decode cX9_readSteps 7 = .ok (.invokevirtual 139, 3) := by decide +kernel
theorem dX9_readSteps_10 : decode cX9_readSteps 10 = .ok (.istore_n 2, 1) := by decide +kernel
theorem dX9_readSteps_11 : decode cX9_readSteps 11 = .ok (.iload_n 2, 1) := by decide +kernel
theorem dX9_readSteps_12 : decode cX9_readSteps 12 = .ok (.sipush (-9999), 3) := by decide +kernel
theorem dX9_readSteps_15 : decode cX9_readSteps 15 = .ok (.if_icmp .ne 9, 3) := by decide +kernel
theorem dX9_readSteps_18 : decode cX9_readSteps 18 = .ok (.sipush (-9999), 3) := by decide +kernel
theorem dX9_readSteps_21 : decode cX9_readSteps 21 = .ok (.goto 11, 3) := by decide +kernel
theorem dX9_readSteps_24 : decode cX9_readSteps 24 = .ok (.aload_n 0, 1) := by decide +kernel
theorem dX9_readSteps_25 : decode cX9_readSteps 25 = .ok (.iconst 4, 1) := by decide +kernel
theorem dX9_readSteps_26 : decode cX9_readSteps 26 = .ok (.iconst 1, 1) := by decide +kernel
theorem dX9_readSteps_27 : decode cX9_readSteps 27 = .ok (.bipush 11, 2) := by decide +kernel
theorem dX9_readSteps_29 : decode cX9_readSteps 29 = .ok (.invokevirtual 139, 3) := by decide +kernel
theorem dX9_readSteps_32 : decode cX9_readSteps 32 = .ok (.istore_n 3, 1) := by decide +kernel
theorem dX9_readSteps_33 : decode cX9_readSteps 33 = .ok (.iload_n 3, 1) := by decide +kernel
theorem dX9_readSteps_34 : decode cX9_readSteps 34 = .ok (.sipush (-9999), 3) := by decide +kernel
theorem dX9_readSteps_37 : decode cX9_readSteps 37 = .ok (.if_icmp .ne 5, 3) := by decide +kernel
theorem dX9_readSteps_40 : decode cX9_readSteps 40 = .ok (.iconst 0, 1) := by decide +kernel
theorem dX9_readSteps_41 : decode cX9_readSteps 41 = .ok (.ireturn, 1) := by decide +kernel
theorem dX9_readSteps_42 : decode cX9_readSteps 42 = .ok (.aload_n 0, 1) := by decide +kernel
theorem dX9_readSteps_43 : decode cX9_readSteps 43 = .ok (.getfield 35, 3) := by decide +kernel
theorem dX9_readSteps_46 : decode cX9_readSteps 46 = .ok (.iconst 0, 1) := by decide +kernel
theorem dX9_readSteps_47 : decode cX9_readSteps 47 = .ok (.iload_n 2, 1) := by decide +kernel
theorem dX9_readSteps_48 : decode cX9_readSteps 48 = .ok (.iastore, 1) := by decide +kernel
theorem dX9_readSteps_49 : decode cX9_readSteps 49 = .ok (.iconst 1, 1) := by decide +kernel
theorem dX9_readSteps_50 : decode cX9_readSteps 50 = .ok (.istore 4, 2) := by decide +kernel
theorem dX9_readSteps_52 : decode cX9_readSteps 52 = .ok (.iload 4, 2) := by decide +kernel
theorem dX9_readSteps_54 : decode cX9_readSteps 54 = .ok (.iload_n 1, 1) := by decide +kernel
theorem dX9_readSteps_55 : decode cX9_readSteps 55 = .ok (.if_icmp .ge 119, 3) := by decide +kernel
theorem dX9_readSteps_58 : decode cX9_readSteps 58 = .ok (.iconst 1, 1) := by decide +kernel
theorem dX9_readSteps_59 : decode cX9_readSteps 59 = .ok (.iload_n 3, 1) := by decide +kernel
theorem dX9_readSteps_60 : decode cX9_readSteps 60 = .ok (.iconst 1, 1) := by decide +kernel
theorem dX9_readSteps_61 : decode cX9_readSteps 61 = .ok (.isub, 1) := by decide +kernel
theorem dX9_readSteps_62 : decode cX9_readSteps 62 = .ok (.ishl, 1) := by decide +kernel
theorem dX9_readSteps_63 : decode cX9_readSteps 63 = .ok (.istore 5, 2) := by decide +kernel
theorem dX9_readSteps_65 : decode cX9_readSteps 65 = .ok (.iload 5, 2) := by decide +kernel
theorem dX9_readSteps_67 : decode cX9_readSteps 67 = .ok (.aload_n 0, 1) := by decide +kernel
theorem dX9_readSteps_68 : decode cX9_readSteps 68 = .ok (.getfield 35, 3) := by decide +kernel
theorem dX9_readSteps_71 : decode cX9_readSteps 71 = .ok (.iload 4, 2) := by decide +kernel
theorem dX9_readSteps_73 : decode cX9_readSteps 73 = .ok (.iconst 1, 1) := by decide +kernel
theorem dX9_readSteps_74 : decode cX9_readSteps 74 = .ok (.isub, 1) := by decide +kernel
theorem dX9_readSteps_75 : decode cX9_readSteps 75 = .ok (.iaload, 1) := by decide +kernel
theorem dX9_readSteps_76 : decode cX9_readSteps 76 = .ok (.invokestatic 60, 3) := by decide +kernel
theorem dX9_readSteps_79 : decode cX9_readSteps 79 = .ok (.istore 6, 2) := by decide +kernel
theorem dX9_readSteps_81 : decode cX9_readSteps 81 = .ok (.aload_n 0, 1) := by decide +kernel
theorem dX9_readSteps_82 : decode cX9_readSteps 82 = .ok (.iload_n 3, 1) := by decide +kernel
theorem dX9_readSteps_83 : decode cX9_readSteps 83 = .ok (.iconst 0, 1) := by decide +kernel
theorem dX9_readSteps_84 : decode cX9_readSteps 84 = .ok (.iload 5, 2) := by decide +kernel
theorem dX9_readSteps_86 : decode cX9_readSteps 86 = .ok (.iconst 1, 1) := by decide +kernel
theorem dX9_readSteps_87 : decode cX9_readSteps 87 = .ok (.isub, 1) := by decide +kernel
theorem dX9_readSteps_88 : decode cX9_readSteps 88 = .ok (.sipush 1023, 3) := by decide +kernel
theorem dX9_readSteps_91 : decode cX9_readSteps 91 = .ok (.aload_n 0, 1) := by decide +kernel
theorem dX9_readSteps_92 : decode cX9_readSteps 92 = .ok (.getfield 35, 3) := by decide +kernel
theorem dX9_readSteps_95 : decode cX9_readSteps 95 = .ok (.iload 4, 2) := by decide +kernel
theorem dX9_readSteps_97 : decode cX9_readSteps 97 = .ok (.iconst 1, 1) := by decide +kernel
theorem dX9_readSteps_98 : decode cX9_readSteps 98 = .ok (.isub, 1) := by decide +kernel
theorem dX9_readSteps_99 : decode cX9_readSteps 99 = .ok (.iaload, 1) := by decide +kernel
theorem dX9_readSteps_100 : decode cX9_readSteps 100 = .ok (.isub, 1) := by decide +kernel
theorem dX9_readSteps_101 : decode cX9_readSteps 101 = .ok (.invokestatic 60, 3) := by decide +kernel
theorem dX9_readSteps_104 : decode cX9_readSteps 104 = .ok (.iconst 2, 1) := by decide +kernel
theorem dX9_readSteps_105 : decode cX9_readSteps 105 = .ok (.iload 5, 2) := by decide +kernel
theorem dX9_readSteps_107 : decode cX9_readSteps 107 = .ok (.imul, 1) := by decide +kernel
theorem dX9_readSteps_108 : decode cX9_readSteps 108 = .ok (.iload 6, 2) := by decide +kernel
theorem dX9_readSteps_110 : decode cX9_readSteps 110 = .ok (.isub, 1) := by decide +kernel
theorem dX9_readSteps_111 : decode cX9_readSteps 111 = .ok (.iconst 2, 1) := by decide +kernel
theorem dX9_readSteps_112 : decode cX9_readSteps 112 = .ok (.iload 5, 2) := by decide +kernel
theorem dX9_readSteps_114 : decode cX9_readSteps 114 = .ok (.imul, 1) := by decide +kernel
theorem dX9_readSteps_115 : decode cX9_readSteps 115 = .ok (.iconst 1, 1) := by decide +kernel
theorem dX9_readSteps_116 : decode cX9_readSteps 116 = .ok (.isub, 1) := by decide +kernel
theorem dX9_readSteps_117 : decode cX9_readSteps 117 = .ok (.invokevirtual 135, 3) := by decide +kernel
theorem dX9_readSteps_120 : decode cX9_readSteps 120 = .ok (.istore 7, 2) := by decide +kernel
theorem dX9_readSteps_122 : decode cX9_readSteps 122 = .ok (.iload 7, 2) := by decide +kernel
theorem dX9_readSteps_124 : decode cX9_readSteps 124 = .ok (.sipush (-9999), 3) := by decide +kernel
theorem dX9_readSteps_127 : decode cX9_readSteps 127 = .ok (.if_icmp .ne 5, 3) := by decide +kernel
theorem dX9_readSteps_130 : decode cX9_readSteps 130 = .ok (.iconst 0, 1) := by decide +kernel
theorem dX9_readSteps_131 : decode cX9_readSteps 131 = .ok (.ireturn, 1) := by decide +kernel
theorem dX9_readSteps_132 : decode cX9_readSteps 132 = .ok (.aload_n 0, 1) := by decide +kernel
theorem dX9_readSteps_133 : decode cX9_readSteps 133 = .ok (.getfield 35, 3) := by decide +kernel
theorem dX9_readSteps_136 : decode cX9_readSteps 136 = .ok (.iload 4, 2) := by decide +kernel
theorem dX9_readSteps_138 : decode cX9_readSteps 138 = .ok (.aload_n 0, 1) := by decide +kernel
theorem dX9_readSteps_139 : decode cX9_readSteps 139 = .ok (.getfield 35, 3) := by decide +kernel
theorem dX9_readSteps_142 : decode cX9_readSteps 142 = .ok (.iload 4, 2) := by decide +kernel
theorem dX9_readSteps_144 : decode cX9_readSteps 144 = .ok (.iconst 1, 1) := by decide +kernel
theorem dX9_readSteps_145 : decode cX9_readSteps 145 = .ok (.isub, 1) := by decide +kernel
theorem dX9_readSteps_146 : decode cX9_readSteps 146 = .ok (.iaload, 1) := by decide +kernel
theorem dX9_readSteps_147 : decode cX9_readSteps 147 = .ok (.iload 7, 2) := by decide +kernel
theorem dX9_readSteps_149 : decode cX9_readSteps 149 = .ok (.iload 5, 2) := by decide +kernel
theorem dX9_readSteps_151 : decode cX9_readSteps 151 = .ok (.if_icmp .ge 8, 3) := by decide +kernel
theorem dX9_readSteps_154 : decode cX9_readSteps 154 = .ok (.iload 7, 2) := by decide +kernel
theorem dX9_readSteps_156 : decode cX9_readSteps 156 = .ok (.goto 10, 3) := by decide +kernel
theorem dX9_readSteps_159 : decode cX9_readSteps 159 = .ok (.iload 7, 2) := by decide +kernel
theorem dX9_readSteps_161 : decode cX9_readSteps 161 = .ok (.iconst 2, 1) := by decide +kernel
theorem dX9_readSteps_162 : decode cX9_readSteps 162 = .ok (.iload 5, 2) := by decide +kernel
theorem dX9_readSteps_164 : decode cX9_readSteps 164 = .ok (.imul, 1) := by decide +kernel
theorem dX9_readSteps_165 : decode cX9_readSteps 165 = .ok (.isub, 1) := by decide +kernel
theorem dX9_readSteps_166 : decode cX9_readSteps 166 = .ok (.iadd, 1) := by decide +kernel
theorem dX9_readSteps_167 : decode cX9_readSteps 167 = .ok (.iastore, 1) := by decide +kernel
theorem dX9_readSteps_168 : decode cX9_readSteps 168 = .ok (.iinc 4 1, 3) := by decide +kernel
theorem dX9_readSteps_171 : decode cX9_readSteps 171 = .ok (.goto (-119), 3) := by decide +kernel
theorem dX9_readSteps_174 : decode cX9_readSteps 174 = .ok (.iconst 1, 1) := by decide +kernel
theorem dX9_readSteps_175 : decode cX9_readSteps 175 = .ok (.ireturn, 1) := by decide +kernel
theorem dX9_readPage_0 : decode cX9_readPage 0 = .ok (.aload_n 0, 1) := by decide +kernel
theorem dX9_readPage_1 : decode cX9_readPage 1 = .ok (.iconst 0, 1) := by decide +kernel
theorem dX9_readPage_2 : decode cX9_readPage 2 = .ok (.putfield 132, 3) := by decide +kernel
theorem dX9_readPage_5 : decode cX9_readPage 5 = .ok (.aload_n 0, 1) := by decide +kernel
theorem dX9_readPage_6 : decode cX9_readPage 6 = .ok (.iconst 3, 1) := by decide +kernel
theorem dX9_readPage_7 : decode cX9_readPage 7 = .ok (.iconst 0, 1) := by decide +kernel
theorem dX9_readPage_8 : decode cX9_readPage 8 = .ok (.iconst 4, 1) := by decide +kernel
theorem dX9_readPage_9 : decode cX9_readPage 9 = .ok (.invokevirtual 139, 3) := by decide +kernel
theorem dX9_readPage_12 : decode cX9_readPage 12 = .ok (.istore_n 1, 1) := by decide +kernel
theorem dX9_readPage_13 : decode cX9_readPage 13 = .ok (.iload_n 1, 1) := by decide +kernel
theorem dX9_readPage_14 : decode cX9_readPage 14 = .ok (.sipush (-9999), 3) := by decide +kernel
theorem dX9_readPage_17 : decode cX9_readPage 17 = .ok (.if_icmp .ne 9, 3) := by decide +kernel
theorem dX9_readPage_20 : decode cX9_readPage 20 = .ok (.sipush (-9999), 3) := by decide +kernel
theorem dX9_readPage_23 : decode cX9_readPage 23 = .ok (.goto 11, 3) := by decide +kernel
theorem dX9_readPage_26 : decode cX9_readPage 26 = .ok (.aload_n 0, 1) := by decide +kernel
theorem dX9_readPage_27 : decode cX9_readPage 27 = .ok (.iconst 4, 1) := by decide +kernel
theorem dX9_readPage_28 : decode cX9_readPage 28 = .ok (.iconst 1, 1) := by decide +kernel
theorem dX9_readPage_29 : decode cX9_readPage 29 = .ok (.bipush 12, 2) := by decide +kernel
theorem dX9_readPage_31 : decode cX9_readPage 31 = .ok (.invokevirtual 139, 3) := by decide +kernel
theorem dX9_readPage_34 : decode cX9_readPage 34 = .ok (.istore_n 2, 1) := by decide +kernel
theorem dX9_readPage_35 : decode cX9_readPage 35 = .ok (.iload_n 2, 1) := by decide +kernel
theorem dX9_readPage_36 : decode cX9_readPage 36 = .ok (.sipush (-9999), 3) := by decide +kernel
theorem dX9_readPage_39 : decode cX9_readPage 39 = .ok (.if_icmp .ne 5, 3) := by decide +kernel
theorem dX9_readPage_42 : decode cX9_readPage 42 = .ok (.iconst 0, 1) := by decide +kernel
theorem dX9_readPage_43 : decode cX9_readPage 43 = .ok (.ireturn, 1) := by decide +kernel
theorem dX9_readPage_44 : decode cX9_readPage 44 = .ok (.aload_n 0, 1) := by decide +kernel
theorem dX9_readPage_45 : decode cX9_readPage 45 = .ok (.iload_n 2, 1) := by decide +kernel
theorem dX9_readPage_46 : decode cX9_readPage 46 = .ok (.putfield 143, 3) := by decide +kernel
theorem dX9_readPage_49 : decode cX9_readPage 49 = .ok (.iload_n 1, 1) := by decide +kernel
theorem dX9_readPage_50 : decode cX9_readPage 50 = .ok (.ifCond .ne 11, 3) := by decide +kernel
theorem dX9_readPage_53 : decode cX9_readPage 53 = .ok (.aload_n 0, 1) := by decide +kernel
theorem dX9_readPage_54 : decode cX9_readPage 54 = .ok (.iload_n 2, 1) := by decide +kernel
theorem dX9_readPage_55 : decode cX9_readPage 55 = .ok (.invokevirtual 146, 3) := by decide +kernel
theorem dX9_readPage_58 : decode cX9_readPage 58 = .ok (.goto 47, 3) := by decide +kernel
theorem dX9_readPage_61 : decode cX9_readPage 61 = .ok (.iload_n 1, 1) := by decide +kernel
theorem dX9_readPage_62 : decode cX9_readPage 62 = .ok (.iconst 1, 1) := by decide +kernel
theorem dX9_readPage_63 : decode cX9_readPage 63 = .ok (.if_icmp .ne 11, 3) := by decide +kernel
theorem dX9_readPage_66 : decode cX9_readPage 66 = .ok (.aload_n 0, 1) := by decide +kernel
theorem dX9_readPage_67 : decode cX9_readPage 67 = .ok (.iload_n 2, 1) := by decide +kernel
theorem dX9_readPage_68 : decode cX9_readPage 68 = .ok (.invokevirtual 149, 3) := by decide +kernel
theorem dX9_readPage_71 : decode cX9_readPage 71 = .ok (.goto 34, 3) := by decide +kernel
theorem dX9_readPage_74 : decode cX9_readPage 74 = .ok (.iload_n 1, 1) := by decide +kernel
theorem dX9_readPage_75 : decode cX9_readPage 75 = .ok (.iconst 2, 1) := by decide +kernel
theorem dX9_readPage_76 : decode cX9_readPage 76 = .ok (.if_icmp .ne 11, 3) := by decide +kernel
theorem dX9_readPage_79 : decode cX9_readPage 79 = .ok (.aload_n 0, 1) := by decide +kernel
theorem dX9_readPage_80 : decode cX9_readPage 80 = .ok (.iload_n 2, 1) := by decide +kernel
theorem dX9_readPage_81 : decode cX9_readPage 81 = .ok (.invokevirtual 152, 3) := by decide +kernel
theorem dX9_readPage_84 : decode cX9_readPage 84 = .ok (.goto 21, 3) := by decide +kernel
theorem dX9_readPage_87 : decode cX9_readPage 87 = .ok (.iload_n 1, 1) := by decide +kernel
theorem dX9_readPage_88 : decode cX9_readPage 88 = .ok (.iconst 3, 1) := by decide +kernel
theorem dX9_readPage_89 : decode cX9_readPage 89 = .ok (.if_icmp .ne 11, 3) := by decide +kernel
theorem dX9_readPage_92 : decode cX9_readPage 92 = .ok (.aload_n 0, 1) := by decide +kernel
theorem dX9_readPage_93 : decode cX9_readPage 93 = .ok (.iload_n 2, 1) := by decide +kernel
theorem dX9_readPage_94 : decode cX9_readPage 94 = .ok (.invokevirtual 155, 3) := by decide +kernel
theorem dX9_readPage_97 : decode cX9_readPage 97 = .ok (.goto 8, 3) := by decide +kernel
theorem dX9_readPage_100 : decode cX9_readPage 100 = .ok (.aload_n 0, 1) := by decide +kernel
theorem dX9_readPage_101 : decode cX9_readPage 101 = .ok (.iload_n 2, 1) := by decide +kernel
theorem dX9_readPage_102 : decode cX9_readPage 102 = .ok (.invokevirtual 158, 3) := by decide +kernel
theorem dX9_readPage_105 : decode cX9_readPage 105 = .ok (.istore_n 3, 1) := by decide +kernel
theorem dX9_readPage_106 : decode cX9_readPage 106 = .ok (.iload_n 3, 1) := by decide +kernel
theorem dX9_readPage_107 : decode cX9_readPage 107 = .ok (.ifCond .eq 18, 3) := by decide +kernel
theorem dX9_readPage_110 : decode cX9_readPage 110 = .ok (.aload_n 0, 1) := by decide +kernel
theorem dX9_readPage_111 : decode cX9_readPage 111 = .ok (.getfield 132, 3) := by decide +kernel
theorem dX9_readPage_114 : decode cX9_readPage 114 = .ok (.aload_n 0, 1) := by decide +kernel
theorem dX9_readPage_115 : decode cX9_readPage 115 = .ok (.getfield 125, 3) := by decide +kernel
theorem dX9_readPage_118 : decode cX9_readPage 118 = .ok (.if_icmp .ne 7, 3) := by decide +kernel
theorem dX9_readPage_121 : decode cX9_readPage 121 = .ok (.iconst 1, 1) := by decide +kernel
theorem dX9_readPage_122 : decode cX9_readPage 122 = .ok (.goto 4, 3) := by decide +kernel
theorem dX9_readPage_125 : decode cX9_readPage 125 = .ok (.iconst 0, 1) := by decide +kernel
theorem dX9_readPage_126 : decode cX9_readPage 126 = .ok (.ireturn, 1) := by decide +kernel
theorem dX9_errorPosition_0 : decode cX9_errorPosition 0 = .ok (.aload_n 0, 1) := by decide +kernel
theorem dX9_errorPosition_1 : decode cX9_errorPosition 1 = .ok (.invokevirtual 161, 3) := by decide +kernel
theorem dX9_errorPosition_4 : decode cX9_errorPosition 4 = .ok (.ifCond .eq 9, 3) := by decide +kernel
theorem dX9_errorPosition_7 : decode cX9_errorPosition 7 = .ok (.sipush (-9999), 3) := by decide +kernel
theorem dX9_errorPosition_10 : decode cX9_errorPosition 10 = .ok (.goto 7, 3) := by decide +kernel
theorem dX9_errorPosition_13 : decode cX9_errorPosition 13 = .ok (.aload_n 0, 1) := by decide +kernel
theorem dX9_errorPosition_14 : decode cX9_errorPosition 14 = .ok (.getfield 132, 3) := by decide +kernel
theorem dX9_errorPosition_17 : decode cX9_errorPosition 17 = .ok (.ireturn, 1) := by decide +kernel
theorem dX9_about_0 : decode cX9_about 0 = .ok (.aload_n 0, 1) := by decide +kernel
theorem dX9_about_1 : decode cX9_about 1 = .ok (.iload_n 1, 1) := by decide +kernel
theorem dX9_about_2 : decode cX9_about 2 = .ok (.i2l, 1) := by decide +kernel
theorem dX9_about_3 : decode cX9_about 3 = .ok (.lconst 0, 1) := by decide +kernel
theorem dX9_about_4 : decode cX9_about 4 = .ok (.ldc2_w 165, 3) := by decide +kernel
theorem dX9_about_7 : decode cX9_about 7 = .ok (.invokestatic 52, 3) := by decide +kernel
theorem dX9_about_10 : decode cX9_about 10 = .ok (.ifCond .eq 7, 3) := by decide +kernel
theorem dX9_about_13 : decode cX9_about 13 = .ok (.iconst 0, 1) := by decide +kernel
theorem dX9_about_14 : decode cX9_about 14 = .ok (.goto 4, 3) := by decide +kernel
theorem dX9_about_17 : decode cX9_about 17 = .ok (.iconst 1, 1) := by decide +kernel
theorem dX9_about_18 : decode cX9_about 18 = .ok (.invokevirtual 128, 3) := by decide +kernel
theorem dX9_about_21 : decode cX9_about 21 = .ok (.ifCond .eq 5, 3) := by decide +kernel
theorem dX9_about_24 : decode cX9_about 24 = .ok (.iconst 0, 1) := by decide +kernel
theorem dX9_about_25 : decode cX9_about 25 = .ok (.ireturn, 1) := by decide +kernel
theorem dX9_about_26 : decode cX9_about 26 = .ok (.aload_n 0, 1) := by decide +kernel
theorem dX9_about_27 : decode cX9_about 27 = .ok (.getfield 13, 3) := by decide +kernel
theorem dX9_about_30 : decode cX9_about 30 = .ok (.invokestatic 56, 3) := by decide +kernel
theorem dX9_about_33 : decode cX9_about 33 = .ok (.istore_n 2, 1) := by decide +kernel
theorem dX9_about_34 : decode cX9_about 34 = .ok (.iload_n 1, 1) := by decide +kernel
theorem dX9_about_35 : decode cX9_about 35 = .ok (.tableswitch 161 0 7 #[45, 47, 54, 61, 69, 74, 119, 140], 45) := by decide +kernel
theorem dX9_about_80 : decode cX9_about 80 = .ok (.iload_n 2, 1) := by decide +kernel
theorem dX9_about_81 : decode cX9_about 81 = .ok (.ireturn, 1) := by decide +kernel
theorem dX9_about_82 : decode cX9_about 82 = .ok (.aload_n 0, 1) := by decide +kernel
theorem dX9_about_83 : decode cX9_about 83 = .ok (.getfield 13, 3) := by decide +kernel
theorem dX9_about_86 : decode cX9_about 86 = .ok (.iconst 0, 1) := by decide +kernel
theorem dX9_about_87 : decode cX9_about 87 = .ok (.iaload, 1) := by decide +kernel
theorem dX9_about_88 : decode cX9_about 88 = .ok (.ireturn, 1) := by decide +kernel
theorem dX9_about_89 : decode cX9_about 89 = .ok (.aload_n 0, 1) := by decide +kernel
theorem dX9_about_90 : decode cX9_about 90 = .ok (.getfield 13, 3) := by decide +kernel
theorem dX9_about_93 : decode cX9_about 93 = .ok (.iconst 1, 1) := by decide +kernel
theorem dX9_about_94 : decode cX9_about 94 = .ok (.iaload, 1) := by decide +kernel
theorem dX9_about_95 : decode cX9_about 95 = .ok (.ireturn, 1) := by decide +kernel
theorem dX9_about_96 : decode cX9_about 96 = .ok (.aload_n 0, 1) := by decide +kernel
theorem dX9_about_97 : decode cX9_about 97 = .ok (.getfield 13, 3) := by decide +kernel
theorem dX9_about_100 : decode cX9_about 100 = .ok (.invokestatic 167, 3) := by decide +kernel
theorem dX9_about_103 : decode cX9_about 103 = .ok (.ireturn, 1) := by decide +kernel
theorem dX9_about_104 : decode cX9_about 104 = .ok (.bipush 10, 2) := by decide +kernel
theorem dX9_about_106 : decode cX9_about 106 = .ok (.iload_n 2, 1) := by decide +kernel
theorem dX9_about_107 : decode cX9_about 107 = .ok (.imul, 1) := by decide +kernel
theorem dX9_about_108 : decode cX9_about 108 = .ok (.ireturn, 1) := by decide +kernel
theorem dX9_about_109 : decode cX9_about 109 = .ok (.iconst 0, 1) := by decide +kernel
theorem dX9_about_110 : decode cX9_about 110 = .ok (.istore_n 3, 1) := by decide +kernel
theorem dX9_about_111 : decode cX9_about 111 = .ok (.iconst 0, 1) := by decide +kernel
theorem dX9_about_112 : decode cX9_about 112 = .ok (.istore 4, 2) := by decide +kernel
theorem dX9_about_114 : decode cX9_about 114 = .ok (.iload 4, 2) := by decide +kernel
theorem dX9_about_116 : decode cX9_about 116 = .ok (.aload_n 0, 1) := by decide +kernel
theorem dX9_about_117 : decode cX9_about 117 = .ok (.getfield 13, 3) := by decide +kernel
theorem dX9_about_120 : decode cX9_about 120 = .ok (.iconst 0, 1) := by decide +kernel
theorem dX9_about_121 : decode cX9_about 121 = .ok (.iaload, 1) := by decide +kernel
theorem dX9_about_122 : decode cX9_about 122 = .ok (.if_icmp .ge 30, 3) := by decide +kernel
theorem dX9_about_125 : decode cX9_about 125 = .ok (.iload_n 3, 1) := by decide +kernel
theorem dX9_about_126 : decode cX9_about 126 = .ok (.aload_n 0, 1) := by decide +kernel
theorem dX9_about_127 : decode cX9_about 127 = .ok (.getfield 13, 3) := by decide +kernel
theorem dX9_about_130 : decode cX9_about 130 = .ok (.bipush 12, 2) := by decide +kernel
theorem dX9_about_132 : decode cX9_about 132 = .ok (.iload 4, 2) := by decide +kernel
theorem dX9_about_134 : decode cX9_about 134 = .ok (.iadd, 1) := by decide +kernel
theorem dX9_about_135 : decode cX9_about 135 = .ok (.iaload, 1) := by decide +kernel
theorem dX9_about_136 : decode cX9_about 136 = .ok (.ifCond .le 7, 3) := by decide +kernel
theorem dX9_about_139 : decode cX9_about 139 = .ok (.iconst 1, 1) := by decide +kernel
theorem dX9_about_140 : decode cX9_about 140 = .ok (.goto 4, 3) := by decide +kernel
theorem dX9_about_143 : decode cX9_about 143 = .ok (.iconst 0, 1) := by decide +kernel
theorem dX9_about_144 : decode cX9_about 144 = .ok (.iadd, 1) := by decide +kernel
theorem dX9_about_145 : decode cX9_about 145 = .ok (.istore_n 3, 1) := by decide +kernel
theorem dX9_about_146 : decode cX9_about 146 = .ok (.iinc 4 1, 3) := by decide +kernel
theorem dX9_about_149 : decode cX9_about 149 = .ok (.goto (-35), 3) := by decide +kernel
theorem dX9_about_152 : decode cX9_about 152 = .ok (.iload_n 3, 1) := by decide +kernel
theorem dX9_about_153 : decode cX9_about 153 = .ok (.ireturn, 1) := by decide +kernel
theorem dX9_about_154 : decode cX9_about 154 = .ok (.iload_n 2, 1) := by decide +kernel
theorem dX9_about_155 : decode cX9_about 155 = .ok (.ifCond .ne 9, 3) := by decide +kernel
theorem dX9_about_158 : decode cX9_about 158 = .ok (.sipush (-9999), 3) := by decide +kernel
theorem dX9_about_161 : decode cX9_about 161 = .ok (.goto 13, 3) := by decide +kernel
theorem dX9_about_164 : decode cX9_about 164 = .ok (.aload_n 0, 1) := by decide +kernel
theorem dX9_about_165 : decode cX9_about 165 = .ok (.getfield 13, 3) := by decide +kernel
theorem dX9_about_168 : decode cX9_about 168 = .ok (.bipush 22, 2) := by decide +kernel
theorem dX9_about_170 : decode cX9_about 170 = .ok (.iload_n 2, 1) := by decide +kernel
theorem dX9_about_171 : decode cX9_about 171 = .ok (.invokestatic 85, 3) := by decide +kernel
theorem dX9_about_174 : decode cX9_about 174 = .ok (.ireturn, 1) := by decide +kernel
theorem dX9_about_175 : decode cX9_about 175 = .ok (.iload_n 2, 1) := by decide +kernel
theorem dX9_about_176 : decode cX9_about 176 = .ok (.ifCond .ne 9, 3) := by decide +kernel
theorem dX9_about_179 : decode cX9_about 179 = .ok (.sipush (-9999), 3) := by decide +kernel
theorem dX9_about_182 : decode cX9_about 182 = .ok (.goto 13, 3) := by decide +kernel
theorem dX9_about_185 : decode cX9_about 185 = .ok (.aload_n 0, 1) := by decide +kernel
theorem dX9_about_186 : decode cX9_about 186 = .ok (.getfield 13, 3) := by decide +kernel
theorem dX9_about_189 : decode cX9_about 189 = .ok (.bipush 22, 2) := by decide +kernel
theorem dX9_about_191 : decode cX9_about 191 = .ok (.iload_n 2, 1) := by decide +kernel
theorem dX9_about_192 : decode cX9_about 192 = .ok (.invokestatic 82, 3) := by decide +kernel
theorem dX9_about_195 : decode cX9_about 195 = .ok (.ireturn, 1) := by decide +kernel
theorem dX9_about_196 : decode cX9_about 196 = .ok (.aload_n 0, 1) := by decide +kernel
theorem dX9_about_197 : decode cX9_about 197 = .ok (.getfield 13, 3) := by decide +kernel
theorem dX9_about_200 : decode cX9_about 200 = .ok (.bipush 22, 2) := by decide +kernel
theorem dX9_about_202 : decode cX9_about 202 = .ok (.iload_n 2, 1) := by decide +kernel
theorem dX9_about_203 : decode cX9_about 203 = .ok (.invokestatic 71, 3) := by decide +kernel
theorem dX9_about_206 : decode cX9_about 206 = .ok (.ireturn, 1) := by decide +kernel
theorem dX9_at_0 : decode cX9_at 0 = .ok (.aload_n 0, 1) := by decide +kernel
theorem dX9_at_1 : decode cX9_at 1 = .ok (.aload_n 0, 1) := by decide +kernel
theorem dX9_at_2 : decode cX9_at 2 = .ok (.getfield 13, 3) := by decide +kernel
theorem dX9_at_5 : decode cX9_at 5 = .ok (.iload_n 1, 1) := by decide +kernel
theorem dX9_at_6 : decode cX9_at 6 = .ok (.invokestatic 170, 3) := by decide +kernel
theorem dX9_at_9 : decode cX9_at 9 = .ok (.ifCond .eq 7, 3) := by decide +kernel
theorem dX9_at_12 : decode cX9_at 12 = .ok (.iconst 0, 1) := by decide +kernel
theorem dX9_at_13 : decode cX9_at 13 = .ok (.goto 4, 3) := by decide +kernel
theorem dX9_at_16 : decode cX9_at 16 = .ok (.iconst 1, 1) := by decide +kernel
theorem dX9_at_17 : decode cX9_at 17 = .ok (.invokevirtual 128, 3) := by decide +kernel
theorem dX9_at_20 : decode cX9_at 20 = .ok (.ifCond .eq 5, 3) := by decide +kernel
theorem dX9_at_23 : decode cX9_at 23 = .ok (.iconst 0, 1) := by decide +kernel
theorem dX9_at_24 : decode cX9_at 24 = .ok (.ireturn, 1) := by decide +kernel
theorem dX9_at_25 : decode cX9_at 25 = .ok (.aload_n 0, 1) := by decide +kernel
theorem dX9_at_26 : decode cX9_at 26 = .ok (.getfield 13, 3) := by decide +kernel
theorem dX9_at_29 : decode cX9_at 29 = .ok (.bipush 22, 2) := by decide +kernel
theorem dX9_at_31 : decode cX9_at 31 = .ok (.iload_n 1, 1) := by decide +kernel
theorem dX9_at_32 : decode cX9_at 32 = .ok (.iadd, 1) := by decide +kernel
theorem dX9_at_33 : decode cX9_at 33 = .ok (.iaload, 1) := by decide +kernel
theorem dX9_at_34 : decode cX9_at 34 = .ok (.ireturn, 1) := by decide +kernel
theorem dX9_page_0 : decode cX9_page 0 = .ok (.aload_n 0, 1) := by decide +kernel
theorem dX9_page_1 : decode cX9_page 1 = .ok (.aload_n 0, 1) := by decide +kernel
theorem dX9_page_2 : decode cX9_page 2 = .ok (.getfield 13, 3) := by decide +kernel
theorem dX9_page_5 : decode cX9_page 5 = .ok (.iload_n 1, 1) := by decide +kernel
theorem dX9_page_6 : decode cX9_page 6 = .ok (.invokestatic 174, 3) := by decide +kernel
theorem dX9_page_9 : decode cX9_page 9 = .ok (.ifCond .ne 7, 3) := by decide +kernel
theorem dX9_page_12 : decode cX9_page 12 = .ok (.iconst 1, 1) := by decide +kernel
theorem dX9_page_13 : decode cX9_page 13 = .ok (.goto 20, 3) := by decide +kernel
theorem dX9_page_16 : decode cX9_page 16 = .ok (.iload_n 2, 1) := by decide +kernel
theorem dX9_page_17 : decode cX9_page 17 = .ok (.i2l, 1) := by decide +kernel
theorem dX9_page_18 : decode cX9_page 18 = .ok (.lconst 0, 1) := by decide +kernel
theorem dX9_page_19 : decode cX9_page 19 = .ok (.ldc2_w 165, 3) := by decide +kernel
theorem dX9_page_22 : decode cX9_page 22 = .ok (.invokestatic 52, 3) := by decide +kernel
theorem dX9_page_25 : decode cX9_page 25 = .ok (.ifCond .eq 7, 3) := by decide +kernel
theorem dX9_page_28 : decode cX9_page 28 = .ok (.iconst 0, 1) := by decide +kernel
theorem dX9_page_29 : decode cX9_page 29 = .ok (.goto 4, 3) := by decide +kernel
theorem dX9_page_32 : decode cX9_page 32 = .ok (.iconst 2, 1) := by decide +kernel
theorem dX9_page_33 : decode cX9_page 33 = .ok (.invokevirtual 128, 3) := by decide +kernel
theorem dX9_page_36 : decode cX9_page 36 = .ok (.ifCond .eq 5, 3) := by decide +kernel
theorem dX9_page_39 : decode cX9_page 39 = .ok (.iconst 0, 1) := by decide +kernel
theorem dX9_page_40 : decode cX9_page 40 = .ok (.ireturn, 1) := by decide +kernel
theorem dX9_page_41 : decode cX9_page 41 = .ok (.aload_n 0, 1) := by decide +kernel
theorem dX9_page_42 : decode cX9_page 42 = .ok (.getfield 13, 3) := by decide +kernel
theorem dX9_page_45 : decode cX9_page 45 = .ok (.iload_n 1, 1) := by decide +kernel
theorem dX9_page_46 : decode cX9_page 46 = .ok (.invokestatic 48, 3) := by decide +kernel
theorem dX9_page_49 : decode cX9_page 49 = .ok (.istore_n 3, 1) := by decide +kernel
theorem dX9_page_50 : decode cX9_page 50 = .ok (.aload_n 0, 1) := by decide +kernel
theorem dX9_page_51 : decode cX9_page 51 = .ok (.getfield 13, 3) := by decide +kernel
theorem dX9_page_54 : decode cX9_page 54 = .ok (.iconst 2, 1) := by decide +kernel
theorem dX9_page_55 : decode cX9_page 55 = .ok (.iload_n 1, 1) := by decide +kernel
theorem dX9_page_56 : decode cX9_page 56 = .ok (.iadd, 1) := by decide +kernel
theorem dX9_page_57 : decode cX9_page 57 = .ok (.iaload, 1) := by decide +kernel
theorem dX9_page_58 : decode cX9_page 58 = .ok (.istore 4, 2) := by decide +kernel
theorem dX9_page_60 : decode cX9_page 60 = .ok (.iload_n 2, 1) := by decide +kernel
theorem dX9_page_61 : decode cX9_page 61 = .ok (.tableswitch 126 0 7 #[47, 49, 52, 61, 70, 84, 98, 112], 47) := by decide +kernel
theorem dX9_page_108 : decode cX9_page 108 = .ok (.iload_n 3, 1) := by decide +kernel
theorem dX9_page_109 : decode cX9_page 109 = .ok (.ireturn, 1) := by decide +kernel
theorem dX9_page_110 : decode cX9_page 110 = .ok (.iload 4, 2) := by decide +kernel
theorem dX9_page_112 : decode cX9_page 112 = .ok (.ireturn, 1) := by decide +kernel
theorem dX9_page_113 : decode cX9_page 113 = .ok (.aload_n 0, 1) := by decide +kernel
theorem dX9_page_114 : decode cX9_page 114 = .ok (.getfield 13, 3) := by decide +kernel
theorem dX9_page_117 : decode cX9_page 117 = .ok (.iload_n 1, 1) := by decide +kernel
theorem dX9_page_118 : decode cX9_page 118 = .ok (.invokestatic 114, 3) := by decide +kernel
theorem dX9_page_121 : decode cX9_page 121 = .ok (.ireturn, 1) := by decide +kernel
theorem dX9_page_122 : decode cX9_page 122 = .ok (.aload_n 0, 1) := by decide +kernel
theorem dX9_page_123 : decode cX9_page 123 = .ok (.getfield 13, 3) := by decide +kernel
theorem dX9_page_126 : decode cX9_page 126 = .ok (.iload_n 1, 1) := by decide +kernel
theorem dX9_page_127 : decode cX9_page 127 = .ok (.invokestatic 101, 3) := by decide +kernel
theorem dX9_page_130 : decode cX9_page 130 = .ok (.ireturn, 1) := by decide +kernel
theorem dX9_page_131 : decode cX9_page 131 = .ok (.aload_n 0, 1) := by decide +kernel
theorem dX9_page_132 : decode cX9_page 132 = .ok (.getfield 13, 3) := by decide +kernel
theorem dX9_page_135 : decode cX9_page 135 = .ok (.bipush 22, 2) := by decide +kernel
theorem dX9_page_137 : decode cX9_page 137 = .ok (.iload_n 3, 1) := by decide +kernel
theorem dX9_page_138 : decode cX9_page 138 = .ok (.iadd, 1) := by decide +kernel
theorem dX9_page_139 : decode cX9_page 139 = .ok (.iload 4, 2) := by decide +kernel
theorem dX9_page_141 : decode cX9_page 141 = .ok (.invokestatic 85, 3) := by decide +kernel
theorem dX9_page_144 : decode cX9_page 144 = .ok (.ireturn, 1) := by decide +kernel
theorem dX9_page_145 : decode cX9_page 145 = .ok (.aload_n 0, 1) := by decide +kernel
theorem dX9_page_146 : decode cX9_page 146 = .ok (.getfield 13, 3) := by decide +kernel
theorem dX9_page_149 : decode cX9_page 149 = .ok (.bipush 22, 2) := by decide +kernel
theorem dX9_page_151 : decode cX9_page 151 = .ok (.iload_n 3, 1) := by decide +kernel
theorem dX9_page_152 : decode cX9_page 152 = .ok (.iadd, 1) := by decide +kernel
theorem dX9_page_153 : decode cX9_page 153 = .ok (.iload 4, 2) := by decide +kernel
theorem dX9_page_155 : decode cX9_page 155 = .ok (.invokestatic 82, 3) := by decide +kernel
theorem dX9_page_158 : decode cX9_page 158 = .ok (.ireturn, 1) := by decide +kernel
theorem dX9_page_159 : decode cX9_page 159 = .ok (.aload_n 0, 1) := by decide +kernel
theorem dX9_page_160 : decode cX9_page 160 = .ok (.getfield 13, 3) := by decide +kernel
theorem dX9_page_163 : decode cX9_page 163 = .ok (.bipush 22, 2) := by decide +kernel
theorem dX9_page_165 : decode cX9_page 165 = .ok (.iload_n 3, 1) := by decide +kernel
theorem dX9_page_166 : decode cX9_page 166 = .ok (.iadd, 1) := by decide +kernel
theorem dX9_page_167 : decode cX9_page 167 = .ok (.iload 4, 2) := by decide +kernel
theorem dX9_page_169 : decode cX9_page 169 = .ok (.invokestatic 71, 3) := by decide +kernel
theorem dX9_page_172 : decode cX9_page 172 = .ok (.ireturn, 1) := by decide +kernel
theorem dX9_page_173 : decode cX9_page 173 = .ok (.aload_n 0, 1) := by decide +kernel
theorem dX9_page_174 : decode cX9_page 174 = .ok (.getfield 13, 3) := by decide +kernel
theorem dX9_page_177 : decode cX9_page 177 = .ok (.bipush 22, 2) := by decide +kernel
theorem dX9_page_179 : decode cX9_page 179 = .ok (.iload_n 3, 1) := by decide +kernel
theorem dX9_page_180 : decode cX9_page 180 = .ok (.iadd, 1) := by decide +kernel
theorem dX9_page_181 : decode cX9_page 181 = .ok (.iload 4, 2) := by decide +kernel
theorem dX9_page_183 : decode cX9_page 183 = .ok (.invokestatic 79, 3) := by decide +kernel
theorem dX9_page_186 : decode cX9_page 186 = .ok (.ireturn, 1) := by decide +kernel
theorem dX9_page_187 : decode cX9_page 187 = .ok (.aload_n 0, 1) := by decide +kernel
theorem dX9_page_188 : decode cX9_page 188 = .ok (.getfield 13, 3) := by decide +kernel
theorem dX9_page_191 : decode cX9_page 191 = .ok (.bipush 12, 2) := by decide +kernel
theorem dX9_page_193 : decode cX9_page 193 = .ok (.iload_n 1, 1) := by decide +kernel
theorem dX9_page_194 : decode cX9_page 194 = .ok (.iadd, 1) := by decide +kernel
theorem dX9_page_195 : decode cX9_page 195 = .ok (.iaload, 1) := by decide +kernel
theorem dX9_page_196 : decode cX9_page 196 = .ok (.ifCond .ne 9, 3) := by decide +kernel
theorem dX9_page_199 : decode cX9_page 199 = .ok (.sipush (-9999), 3) := by decide +kernel
theorem dX9_page_202 : decode cX9_page 202 = .ok (.goto 14, 3) := by decide +kernel
theorem dX9_page_205 : decode cX9_page 205 = .ok (.aload_n 0, 1) := by decide +kernel
theorem dX9_page_206 : decode cX9_page 206 = .ok (.getfield 13, 3) := by decide +kernel
theorem dX9_page_209 : decode cX9_page 209 = .ok (.bipush 12, 2) := by decide +kernel
theorem dX9_page_211 : decode cX9_page 211 = .ok (.iload_n 1, 1) := by decide +kernel
theorem dX9_page_212 : decode cX9_page 212 = .ok (.iadd, 1) := by decide +kernel
theorem dX9_page_213 : decode cX9_page 213 = .ok (.iaload, 1) := by decide +kernel
theorem dX9_page_214 : decode cX9_page 214 = .ok (.iconst 1, 1) := by decide +kernel
theorem dX9_page_215 : decode cX9_page 215 = .ok (.isub, 1) := by decide +kernel
theorem dX9_page_216 : decode cX9_page 216 = .ok (.ireturn, 1) := by decide +kernel
theorem dX9_bit_0 : decode cX9_bit 0 = .ok (.aload_n 0, 1) := by decide +kernel
theorem dX9_bit_1 : decode cX9_bit 1 = .ok (.aload_n 0, 1) := by decide +kernel
theorem dX9_bit_2 : decode cX9_bit 2 = .ok (.getfield 13, 3) := by decide +kernel
theorem dX9_bit_5 : decode cX9_bit 5 = .ok (.iload_n 1, 1) := by decide +kernel
theorem dX9_bit_6 : decode cX9_bit 6 = .ok (.invokestatic 174, 3) := by decide +kernel
theorem dX9_bit_9 : decode cX9_bit 9 = .ok (.ifCond .ne 7, 3) := by decide +kernel
theorem dX9_bit_12 : decode cX9_bit 12 = .ok (.iconst 1, 1) := by decide +kernel
theorem dX9_bit_13 : decode cX9_bit 13 = .ok (.goto 12, 3) := by decide +kernel
theorem dX9_bit_16 : decode cX9_bit 16 = .ok (.iload_n 2, 1) := by decide +kernel
theorem dX9_bit_17 : decode cX9_bit 17 = .ok (.ifCond .ge 7, 3) := by decide +kernel
theorem dX9_bit_20 : decode cX9_bit 20 = .ok (.iconst 2, 1) := by decide +kernel
theorem dX9_bit_21 : decode cX9_bit 21 = .ok (.goto 4, 3) := by decide +kernel
theorem dX9_bit_24 : decode cX9_bit 24 = .ok (.iconst 0, 1) := by decide +kernel
theorem dX9_bit_25 : decode cX9_bit 25 = .ok (.invokevirtual 128, 3) := by decide +kernel
theorem dX9_bit_28 : decode cX9_bit 28 = .ok (.ifCond .eq 5, 3) := by decide +kernel
theorem dX9_bit_31 : decode cX9_bit 31 = .ok (.iconst 0, 1) := by decide +kernel
theorem dX9_bit_32 : decode cX9_bit 32 = .ok (.ireturn, 1) := by decide +kernel
theorem dX9_bit_33 : decode cX9_bit 33 = .ok (.aload_n 0, 1) := by decide +kernel
theorem dX9_bit_34 : decode cX9_bit 34 = .ok (.iload_n 1, 1) := by decide +kernel
theorem dX9_bit_35 : decode cX9_bit 35 = .ok (.invokevirtual 177, 3) := by decide +kernel
theorem dX9_bit_38 : decode cX9_bit 38 = .ok (.iload_n 2, 1) := by decide +kernel
theorem dX9_bit_39 : decode cX9_bit 39 = .ok (.aload_n 0, 1) := by decide +kernel
theorem dX9_bit_40 : decode cX9_bit 40 = .ok (.getfield 104, 3) := by decide +kernel
theorem dX9_bit_43 : decode cX9_bit 43 = .ok (.if_icmp .ge 12, 3) := by decide +kernel
theorem dX9_bit_46 : decode cX9_bit 46 = .ok (.aload_n 0, 1) := by decide +kernel
theorem dX9_bit_47 : decode cX9_bit 47 = .ok (.getfield 32, 3) := by decide +kernel
theorem dX9_bit_50 : decode cX9_bit 50 = .ok (.iload_n 2, 1) := by decide +kernel
theorem dX9_bit_51 : decode cX9_bit 51 = .ok (.iaload, 1) := by decide +kernel
theorem dX9_bit_52 : decode cX9_bit 52 = .ok (.goto 6, 3) := by decide +kernel
theorem dX9_bit_55 : decode cX9_bit 55 = .ok (.sipush (-9999), 3) := by decide +kernel
theorem dX9_bit_58 : decode cX9_bit 58 = .ok (.ireturn, 1) := by decide +kernel
theorem dX9_size_0 : decode cX9_size 0 = .ok (.aload_n 0, 1) := by decide +kernel
theorem dX9_size_1 : decode cX9_size 1 = .ok (.aload_n 0, 1) := by decide +kernel
theorem dX9_size_2 : decode cX9_size 2 = .ok (.getfield 13, 3) := by decide +kernel
theorem dX9_size_5 : decode cX9_size 5 = .ok (.iload_n 1, 1) := by decide +kernel
theorem dX9_size_6 : decode cX9_size 6 = .ok (.invokestatic 174, 3) := by decide +kernel
theorem dX9_size_9 : decode cX9_size 9 = .ok (.ifCond .ne 7, 3) := by decide +kernel
theorem dX9_size_12 : decode cX9_size 12 = .ok (.iconst 1, 1) := by decide +kernel
theorem dX9_size_13 : decode cX9_size 13 = .ok (.goto 20, 3) := by decide +kernel
theorem dX9_size_16 : decode cX9_size 16 = .ok (.iload_n 2, 1) := by decide +kernel
theorem dX9_size_17 : decode cX9_size 17 = .ok (.i2l, 1) := by decide +kernel
theorem dX9_size_18 : decode cX9_size 18 = .ok (.lconst 0, 1) := by decide +kernel
theorem dX9_size_19 : decode cX9_size 19 = .ok (.ldc2_w 181, 3) := by decide +kernel
theorem dX9_size_22 : decode cX9_size 22 = .ok (.invokestatic 52, 3) := by decide +kernel
theorem dX9_size_25 : decode cX9_size 25 = .ok (.ifCond .eq 7, 3) := by decide +kernel
theorem dX9_size_28 : decode cX9_size 28 = .ok (.iconst 0, 1) := by decide +kernel
theorem dX9_size_29 : decode cX9_size 29 = .ok (.goto 4, 3) := by decide +kernel
theorem dX9_size_32 : decode cX9_size 32 = .ok (.iconst 2, 1) := by decide +kernel
theorem dX9_size_33 : decode cX9_size 33 = .ok (.invokevirtual 128, 3) := by decide +kernel
theorem dX9_size_36 : decode cX9_size 36 = .ok (.ifCond .eq 5, 3) := by decide +kernel
theorem dX9_size_39 : decode cX9_size 39 = .ok (.iconst 0, 1) := by decide +kernel
theorem dX9_size_40 : decode cX9_size 40 = .ok (.ireturn, 1) := by decide +kernel
theorem dX9_size_41 : decode cX9_size 41 = .ok (.aload_n 0, 1) := by decide +kernel
theorem dX9_size_42 : decode cX9_size 42 = .ok (.getfield 13, 3) := by decide +kernel
theorem dX9_size_45 : decode cX9_size 45 = .ok (.bipush 22, 2) := by decide +kernel
theorem dX9_size_47 : decode cX9_size 47 = .ok (.aload_n 0, 1) := by decide +kernel
theorem dX9_size_48 : decode cX9_size 48 = .ok (.getfield 13, 3) := by decide +kernel
theorem dX9_size_51 : decode cX9_size 51 = .ok (.iload_n 1, 1) := by decide +kernel
theorem dX9_size_52 : decode cX9_size 52 = .ok (.invokestatic 48, 3) := by decide +kernel
theorem dX9_size_55 : decode cX9_size 55 = .ok (.iadd, 1) := by decide +kernel
theorem dX9_size_56 : decode cX9_size 56 = .ok (.aload_n 0, 1) := by decide +kernel
theorem dX9_size_57 : decode cX9_size 57 = .ok (.getfield 13, 3) := by decide +kernel
theorem dX9_size_60 : decode cX9_size 60 = .ok (.iconst 2, 1) := by decide +kernel
theorem dX9_size_61 : decode cX9_size 61 = .ok (.iload_n 1, 1) := by decide +kernel
theorem dX9_size_62 : decode cX9_size 62 = .ok (.iadd, 1) := by decide +kernel
theorem dX9_size_63 : decode cX9_size 63 = .ok (.iaload, 1) := by decide +kernel
theorem dX9_size_64 : decode cX9_size 64 = .ok (.iload_n 2, 1) := by decide +kernel
theorem dX9_size_65 : decode cX9_size 65 = .ok (.invokestatic 91, 3) := by decide +kernel
theorem dX9_size_68 : decode cX9_size 68 = .ok (.ireturn, 1) := by decide +kernel
theorem dX9_costOf_0 : decode cX9_costOf 0 = .ok (.bipush 22, 2) := by decide +kernel
theorem dX9_costOf_2 : decode cX9_costOf 2 = .ok (.aload_n 0, 1) := by decide +kernel
theorem dX9_costOf_3 : decode cX9_costOf 3 = .ok (.iload_n 1, 1) := by decide +kernel
theorem dX9_costOf_4 : decode cX9_costOf 4 = .ok (.invokestatic 48, 3) := by decide +kernel
theorem dX9_costOf_7 : decode cX9_costOf 7 = .ok (.iadd, 1) := by decide +kernel
theorem dX9_costOf_8 : decode cX9_costOf 8 = .ok (.istore_n 3, 1) := by decide +kernel
theorem dX9_costOf_9 : decode cX9_costOf 9 = .ok (.aload_n 0, 1) := by decide +kernel
theorem dX9_costOf_10 : decode cX9_costOf 10 = .ok (.iconst 2, 1) := by decide +kernel
theorem dX9_costOf_11 : decode cX9_costOf 11 = .ok (.iload_n 1, 1) := by decide +kernel
theorem dX9_costOf_12 : decode cX9_costOf 12 = .ok (.iadd, 1) := by decide +kernel
theorem dX9_costOf_13 : decode cX9_costOf 13 = .ok (.iaload, 1) := by decide +kernel
theorem dX9_costOf_14 : decode cX9_costOf 14 = .ok (.istore 4, 2) := by decide +kernel
theorem dX9_costOf_16 : decode cX9_costOf 16 = .ok (.iload_n 2, 1) := by decide +kernel
theorem dX9_costOf_17 : decode cX9_costOf 17 = .ok (.aload_n 0, 1) := by decide +kernel
theorem dX9_costOf_18 : decode cX9_costOf 18 = .ok (.iload_n 3, 1) := by decide +kernel
theorem dX9_costOf_19 : decode cX9_costOf 19 = .ok (.iload 4, 2) := by decide +kernel
theorem dX9_costOf_21 : decode cX9_costOf 21 = .ok (.invokestatic 85, 3) := by decide +kernel
theorem dX9_costOf_24 : decode cX9_costOf 24 = .ok (.if_icmp .lt 14, 3) := by decide +kernel
theorem dX9_costOf_27 : decode cX9_costOf 27 = .ok (.iload_n 2, 1) := by decide +kernel
theorem dX9_costOf_28 : decode cX9_costOf 28 = .ok (.aload_n 0, 1) := by decide +kernel
theorem dX9_costOf_29 : decode cX9_costOf 29 = .ok (.iload_n 3, 1) := by decide +kernel
theorem dX9_costOf_30 : decode cX9_costOf 30 = .ok (.iload 4, 2) := by decide +kernel
theorem dX9_costOf_32 : decode cX9_costOf 32 = .ok (.invokestatic 82, 3) := by decide +kernel
theorem dX9_costOf_35 : decode cX9_costOf 35 = .ok (.if_icmp .le 5, 3) := by decide +kernel
theorem dX9_costOf_38 : decode cX9_costOf 38 = .ok (.iconst 1, 1) := by decide +kernel
theorem dX9_costOf_39 : decode cX9_costOf 39 = .ok (.ireturn, 1) := by decide +kernel
theorem dX9_costOf_40 : decode cX9_costOf 40 = .ok (.aload_n 0, 1) := by decide +kernel
theorem dX9_costOf_41 : decode cX9_costOf 41 = .ok (.iload_n 1, 1) := by decide +kernel
theorem dX9_costOf_42 : decode cX9_costOf 42 = .ok (.invokestatic 114, 3) := by decide +kernel
theorem dX9_costOf_45 : decode cX9_costOf 45 = .ok (.istore 5, 2) := by decide +kernel
theorem dX9_costOf_47 : decode cX9_costOf 47 = .ok (.iload 5, 2) := by decide +kernel
theorem dX9_costOf_49 : decode cX9_costOf 49 = .ok (.iconst 1, 1) := by decide +kernel
theorem dX9_costOf_50 : decode cX9_costOf 50 = .ok (.if_icmp .ne 44, 3) := by decide +kernel
theorem dX9_costOf_53 : decode cX9_costOf 53 = .ok (.aload_n 0, 1) := by decide +kernel
theorem dX9_costOf_54 : decode cX9_costOf 54 = .ok (.iload_n 3, 1) := by decide +kernel
theorem dX9_costOf_55 : decode cX9_costOf 55 = .ok (.iload 4, 2) := by decide +kernel
theorem dX9_costOf_57 : decode cX9_costOf 57 = .ok (.invokestatic 71, 3) := by decide +kernel
theorem dX9_costOf_60 : decode cX9_costOf 60 = .ok (.istore 6, 2) := by decide +kernel
theorem dX9_costOf_62 : decode cX9_costOf 62 = .ok (.aload_n 0, 1) := by decide +kernel
theorem dX9_costOf_63 : decode cX9_costOf 63 = .ok (.iload_n 3, 1) := by decide +kernel
theorem dX9_costOf_64 : decode cX9_costOf 64 = .ok (.iload 4, 2) := by decide +kernel
theorem dX9_costOf_66 : decode cX9_costOf 66 = .ok (.iload_n 2, 1) := by decide +kernel
theorem dX9_costOf_67 : decode cX9_costOf 67 = .ok (.invokestatic 111, 3) := by decide +kernel
theorem dX9_costOf_70 : decode cX9_costOf 70 = .ok (.istore 7, 2) := by decide +kernel
theorem dX9_costOf_72 : decode cX9_costOf 72 = .ok (.iload 7, 2) := by decide +kernel
theorem dX9_costOf_74 : decode cX9_costOf 74 = .ok (.iload 6, 2) := by decide +kernel
theorem dX9_costOf_76 : decode cX9_costOf 76 = .ok (.if_icmp .ne 10, 3) := by decide +kernel
theorem dX9_costOf_79 : decode cX9_costOf 79 = .ok (.iconst 1, 1) := by decide +kernel
theorem dX9_costOf_80 : decode cX9_costOf 80 = .ok (.iload 6, 2) := by decide +kernel
theorem dX9_costOf_82 : decode cX9_costOf 82 = .ok (.iadd, 1) := by decide +kernel
theorem dX9_costOf_83 : decode cX9_costOf 83 = .ok (.goto 10, 3) := by decide +kernel
theorem dX9_costOf_86 : decode cX9_costOf 86 = .ok (.iconst 2, 1) := by decide +kernel
theorem dX9_costOf_87 : decode cX9_costOf 87 = .ok (.iload 7, 2) := by decide +kernel
theorem dX9_costOf_89 : decode cX9_costOf 89 = .ok (.iadd, 1) := by decide +kernel
theorem dX9_costOf_90 : decode cX9_costOf 90 = .ok (.iload 4, 2) := by decide +kernel
theorem dX9_costOf_92 : decode cX9_costOf 92 = .ok (.iadd, 1) := by decide +kernel
theorem dX9_costOf_93 : decode cX9_costOf 93 = .ok (.ireturn, 1) := by decide +kernel
theorem dX9_costOf_94 : decode cX9_costOf 94 = .ok (.iconst 1, 1) := by decide +kernel
theorem dX9_costOf_95 : decode cX9_costOf 95 = .ok (.iload 5, 2) := by decide +kernel
theorem dX9_costOf_97 : decode cX9_costOf 97 = .ok (.iconst 2, 1) := by decide +kernel
theorem dX9_costOf_98 : decode cX9_costOf 98 = .ok (.if_icmp .ne 13, 3) := by decide +kernel
theorem dX9_costOf_101 : decode cX9_costOf 101 = .ok (.aload_n 0, 1) := by decide +kernel
theorem dX9_costOf_102 : decode cX9_costOf 102 = .ok (.iload_n 3, 1) := by decide +kernel
theorem dX9_costOf_103 : decode cX9_costOf 103 = .ok (.iload 4, 2) := by decide +kernel
theorem dX9_costOf_105 : decode cX9_costOf 105 = .ok (.invokestatic 79, 3) := by decide +kernel
theorem dX9_costOf_108 : decode cX9_costOf 108 = .ok (.goto 5, 3) := by decide +kernel
theorem dX9_costOf_111 : decode cX9_costOf 111 = .ok (.iload 4, 2) := by decide +kernel
theorem dX9_costOf_113 : decode cX9_costOf 113 = .ok (.iadd, 1) := by decide +kernel
theorem dX9_costOf_114 : decode cX9_costOf 114 = .ok (.ireturn, 1) := by decide +kernel
theorem dX9_scan_0 : decode cX9_scan 0 = .ok (.aload_n 0, 1) := by decide +kernel
theorem dX9_scan_1 : decode cX9_scan 1 = .ok (.iload_n 1, 1) := by decide +kernel
theorem dX9_scan_2 : decode cX9_scan 2 = .ok (.i2l, 1) := by decide +kernel
theorem dX9_scan_3 : decode cX9_scan 3 = .ok (.lconst 0, 1) := by decide +kernel
theorem dX9_scan_4 : decode cX9_scan 4 = .ok (.ldc2_w 183, 3) := by decide +kernel
theorem dX9_scan_7 : decode cX9_scan 7 = .ok (.invokestatic 52, 3) := by decide +kernel
theorem dX9_scan_10 : decode cX9_scan 10 = .ok (.ifCond .eq 7, 3) := by decide +kernel
theorem dX9_scan_13 : decode cX9_scan 13 = .ok (.iconst 0, 1) := by decide +kernel
theorem dX9_scan_14 : decode cX9_scan 14 = .ok (.goto 4, 3) := by decide +kernel
theorem dX9_scan_17 : decode cX9_scan 17 = .ok (.iconst 1, 1) := by decide +kernel
theorem dX9_scan_18 : decode cX9_scan 18 = .ok (.invokevirtual 128, 3) := by decide +kernel
theorem dX9_scan_21 : decode cX9_scan 21 = .ok (.ifCond .eq 5, 3) := by decide +kernel
theorem dX9_scan_24 : decode cX9_scan 24 = .ok (.iconst 0, 1) := by decide +kernel
theorem dX9_scan_25 : decode cX9_scan 25 = .ok (.ireturn, 1) := by decide +kernel
theorem dX9_scan_26 : decode cX9_scan 26 = .ok (.iconst 0, 1) := by decide +kernel
theorem dX9_scan_27 : decode cX9_scan 27 = .ok (.istore_n 3, 1) := by decide +kernel
theorem dX9_scan_28 : decode cX9_scan 28 = .ok (.iload_n 2, 1) := by decide +kernel
theorem dX9_scan_29 : decode cX9_scan 29 = .ok (.ifCond .eq 48, 3) := by decide +kernel
theorem dX9_scan_32 : decode cX9_scan 32 = .ok (.iconst 0, 1) := by decide +kernel
theorem dX9_scan_33 : decode cX9_scan 33 = .ok (.istore 4, 2) := by decide +kernel
theorem dX9_scan_35 : decode cX9_scan 35 = .ok (.iload 4, 2) := by decide +kernel
theorem dX9_scan_37 : decode cX9_scan 37 = .ok (.aload_n 0, 1) := by decide +kernel
theorem dX9_scan_38 : decode cX9_scan 38 = .ok (.getfield 13, 3) := by decide +kernel
theorem dX9_scan_41 : decode cX9_scan 41 = .ok (.invokestatic 56, 3) := by decide +kernel
theorem dX9_scan_44 : decode cX9_scan 44 = .ok (.if_icmp .ge 31, 3) := by decide +kernel
theorem dX9_scan_47 : decode cX9_scan 47 = .ok (.iload_n 3, 1) := by decide +kernel
theorem dX9_scan_48 : decode cX9_scan 48 = .ok (.aload_n 0, 1) := by decide +kernel
theorem dX9_scan_49 : decode cX9_scan 49 = .ok (.getfield 13, 3) := by decide +kernel
theorem dX9_scan_52 : decode cX9_scan 52 = .ok (.bipush 22, 2) := by decide +kernel
theorem dX9_scan_54 : decode cX9_scan 54 = .ok (.iload 4, 2) := by decide +kernel
theorem dX9_scan_56 : decode cX9_scan 56 = .ok (.iadd, 1) := by decide +kernel
theorem dX9_scan_57 : decode cX9_scan 57 = .ok (.iaload, 1) := by decide +kernel
theorem dX9_scan_58 : decode cX9_scan 58 = .ok (.iload_n 1, 1) := by decide +kernel
theorem dX9_scan_59 : decode cX9_scan 59 = .ok (.if_icmp .ne 7, 3) := by decide +kernel
theorem dX9_scan_62 : decode cX9_scan 62 = .ok (.iconst 1, 1) := by decide +kernel
theorem dX9_scan_63 : decode cX9_scan 63 = .ok (.goto 4, 3) := by decide +kernel
theorem dX9_scan_66 : decode cX9_scan 66 = .ok (.iconst 0, 1) := by decide +kernel
theorem dX9_scan_67 : decode cX9_scan 67 = .ok (.iadd, 1) := by decide +kernel
theorem dX9_scan_68 : decode cX9_scan 68 = .ok (.istore_n 3, 1) := by decide +kernel
theorem dX9_scan_69 : decode cX9_scan 69 = .ok (.iinc 4 1, 3) := by decide +kernel
theorem dX9_scan_72 : decode cX9_scan 72 = .ok (.goto (-37), 3) := by decide +kernel
theorem dX9_scan_75 : decode cX9_scan 75 = .ok (.iload_n 3, 1) := by decide +kernel
theorem dX9_scan_76 : decode cX9_scan 76 = .ok (.ireturn, 1) := by decide +kernel
