theorem dX0_init_0 : decode cX0_init 0 = .ok (.aload_n 0, 1) := by decide +kernel
theorem dX0_init_1 : decode cX0_init 1 = .ok (.invokespecial 3, 3) := by decide +kernel
theorem dX0_init_4 : decode cX0_init 4 = .ok (.aload_n 0, 1) := by decide +kernel
theorem dX0_init_5 : decode cX0_init 5 = .ok (.new 9, 3) := by decide +kernel
theorem dX0_init_8 : decode cX0_init 8 = .ok (.dup, 1) := by decide +kernel
theorem dX0_init_9 : decode cX0_init 9 = .ok (.bipush 120, 2) := by decide +kernel
theorem dX0_init_11 : decode cX0_init 11 = .ok (.invokespecial 11, 3) := by decide +kernel
theorem dX0_init_14 : decode cX0_init 14 = .ok (.putfield 14, 3) := by decide +kernel
theorem dX0_init_17 : decode cX0_init 17 = .ok (.aload_n 0, 1) := by decide +kernel
theorem dX0_init_18 : decode cX0_init 18 = .ok (.new 9, 3) := by decide +kernel
theorem dX0_init_21 : decode cX0_init 21 = .ok (.dup, 1) := by decide +kernel
theorem dX0_init_22 : decode cX0_init 22 = .ok (.bipush 10, 2) := by decide +kernel
theorem dX0_init_24 : decode cX0_init 24 = .ok (.invokespecial 11, 3) := by decide +kernel
theorem dX0_init_27 : decode cX0_init 27 = .ok (.putfield 20, 3) := by decide +kernel
theorem dX0_init_30 : decode cX0_init 30 = .ok (.aload_n 0, 1) := by decide +kernel
theorem dX0_init_31 : decode cX0_init 31 = .ok (.new 9, 3) := by decide +kernel
theorem dX0_init_34 : decode cX0_init 34 = .ok (.dup, 1) := by decide +kernel
theorem dX0_init_35 : decode cX0_init 35 = .ok (.bipush 10, 2) := by decide +kernel
theorem dX0_init_37 : decode cX0_init 37 = .ok (.invokespecial 11, 3) := by decide +kernel
theorem dX0_init_40 : decode cX0_init 40 = .ok (.putfield 23, 3) := by decide +kernel
theorem dX0_init_43 : decode cX0_init 43 = .ok (.aload_n 0, 1) := by decide +kernel
theorem dX0_init_44 : decode cX0_init 44 = .ok (.new 26, 3) := by decide +kernel
theorem dX0_init_47 : decode cX0_init 47 = .ok (.dup, 1) := by decide +kernel
theorem dX0_init_48 : decode cX0_init 48 = .ok (.invokespecial 28, 3) := by decide +kernel
theorem dX0_init_51 : decode cX0_init 51 = .ok (.putfield 29, 3) := by decide +kernel
theorem dX0_init_54 : decode cX0_init 54 = .ok (.aload_n 0, 1) := by decide +kernel
theorem dX0_init_55 : decode cX0_init 55 = .ok (.bipush 8, 2) := by decide +kernel
theorem dX0_init_57 : decode cX0_init 57 = .ok (.putfield 33, 3) := by decide +kernel
theorem dX0_init_60 : decode cX0_init 60 = .ok (.return_, 1) := by decide +kernel
theorem dX0_copyFrom_0 : decode cX0_copyFrom 0 = .ok (.aload_n 0, 1) := by decide +kernel
theorem dX0_copyFrom_1 : decode cX0_copyFrom 1 = .ok (.getfield 14, 3) := by decide +kernel
theorem dX0_copyFrom_4 : decode cX0_copyFrom 4 = .ok (.aload_n 1, 1) := by decide +kernel
theorem dX0_copyFrom_5 : decode cX0_copyFrom 5 = .ok (.getfield 14, 3) := by decide +kernel
theorem dX0_copyFrom_8 : decode cX0_copyFrom 8 = .ok (.invokevirtual 37, 3) := by decide +kernel
theorem dX0_copyFrom_11 : decode cX0_copyFrom 11 = .ok (.aload_n 0, 1) := by decide +kernel
theorem dX0_copyFrom_12 : decode cX0_copyFrom 12 = .ok (.getfield 20, 3) := by decide +kernel
theorem dX0_copyFrom_15 : decode cX0_copyFrom 15 = .ok (.aload_n 1, 1) := by decide +kernel
theorem dX0_copyFrom_16 : decode cX0_copyFrom 16 = .ok (.getfield 20, 3) := by decide +kernel
theorem dX0_copyFrom_19 : decode cX0_copyFrom 19 = .ok (.invokevirtual 37, 3) := by decide +kernel
theorem dX0_copyFrom_22 : decode cX0_copyFrom 22 = .ok (.aload_n 0, 1) := by decide +kernel
theorem dX0_copyFrom_23 : decode cX0_copyFrom 23 = .ok (.getfield 23, 3) := by decide +kernel
theorem dX0_copyFrom_26 : decode cX0_copyFrom 26 = .ok (.aload_n 1, 1) := by decide +kernel
theorem dX0_copyFrom_27 : decode cX0_copyFrom 27 = .ok (.getfield 23, 3) := by decide +kernel
theorem dX0_copyFrom_30 : decode cX0_copyFrom 30 = .ok (.invokevirtual 37, 3) := by decide +kernel
theorem dX0_copyFrom_33 : decode cX0_copyFrom 33 = .ok (.aload_n 0, 1) := by decide +kernel
theorem dX0_copyFrom_34 : decode cX0_copyFrom 34 = .ok (.aload_n 1, 1) := by decide +kernel
theorem dX0_copyFrom_35 : decode cX0_copyFrom 35 = .ok (.getfield 41, 3) := by decide +kernel
theorem dX0_copyFrom_38 : decode cX0_copyFrom 38 = .ok (.putfield 41, 3) := by decide +kernel
theorem dX0_copyFrom_41 : decode cX0_copyFrom 41 = .ok (.aload_n 0, 1) := by decide +kernel
theorem dX0_copyFrom_42 : decode cX0_copyFrom 42 = .ok (.aload_n 1, 1) := by decide +kernel
theorem dX0_copyFrom_43 : decode cX0_copyFrom 43 = .ok (.getfield 44, 3) := by decide +kernel
theorem dX0_copyFrom_46 : decode cX0_copyFrom 46 = .ok (.putfield 44, 3) := by decide +kernel
theorem dX0_copyFrom_49 : decode cX0_copyFrom 49 = .ok (.aload_n 0, 1) := by decide +kernel
theorem dX0_copyFrom_50 : decode cX0_copyFrom 50 = .ok (.aload_n 1, 1) := by decide +kernel
theorem dX0_copyFrom_51 : decode cX0_copyFrom 51 = .ok (.getfield 33, 3) := by decide +kernel
theorem dX0_copyFrom_54 : decode cX0_copyFrom 54 = .ok (.putfield 33, 3) := by decide +kernel
theorem dX0_copyFrom_57 : decode cX0_copyFrom 57 = .ok (.return_, 1) := by decide +kernel
theorem dX0_hasValue_0 : decode cX0_hasValue 0 = .ok (.iload_n 1, 1) := by decide +kernel
theorem dX0_hasValue_1 : decode cX0_hasValue 1 = .ok (.ifCond .lt 15, 3) := by decide +kernel
theorem dX0_hasValue_4 : decode cX0_hasValue 4 = .ok (.iload_n 1, 1) := by decide +kernel
theorem dX0_hasValue_5 : decode cX0_hasValue 5 = .ok (.aload_n 0, 1) := by decide +kernel
theorem dX0_hasValue_6 : decode cX0_hasValue 6 = .ok (.getfield 41, 3) := by decide +kernel
theorem dX0_hasValue_9 : decode cX0_hasValue 9 = .ok (.if_icmp .ge 7, 3) := by decide +kernel
theorem dX0_hasValue_12 : decode cX0_hasValue 12 = .ok (.iconst 1, 1) := by decide +kernel
theorem dX0_hasValue_13 : decode cX0_hasValue 13 = .ok (.goto 4, 3) := by decide +kernel
theorem dX0_hasValue_16 : decode cX0_hasValue 16 = .ok (.iconst 0, 1) := by decide +kernel
theorem dX0_hasValue_17 : decode cX0_hasValue 17 = .ok (.ireturn, 1) := by decide +kernel
theorem dX0_hasPage_0 : decode cX0_hasPage 0 = .ok (.iload_n 1, 1) := by decide +kernel
theorem dX0_hasPage_1 : decode cX0_hasPage 1 = .ok (.ifCond .lt 15, 3) := by decide +kernel
theorem dX0_hasPage_4 : decode cX0_hasPage 4 = .ok (.iload_n 1, 1) := by decide +kernel
theorem dX0_hasPage_5 : decode cX0_hasPage 5 = .ok (.aload_n 0, 1) := by decide +kernel
theorem dX0_hasPage_6 : decode cX0_hasPage 6 = .ok (.getfield 44, 3) := by decide +kernel
theorem dX0_hasPage_9 : decode cX0_hasPage 9 = .ok (.if_icmp .ge 7, 3) := by decide +kernel
theorem dX0_hasPage_12 : decode cX0_hasPage 12 = .ok (.iconst 1, 1) := by decide +kernel
theorem dX0_hasPage_13 : decode cX0_hasPage 13 = .ok (.goto 4, 3) := by decide +kernel
theorem dX0_hasPage_16 : decode cX0_hasPage 16 = .ok (.iconst 0, 1) := by decide +kernel
theorem dX0_hasPage_17 : decode cX0_hasPage 17 = .ok (.ireturn, 1) := by decide +kernel
theorem dX0_hasNext_0 : decode cX0_hasNext 0 = .ok (.iload_n 1, 1) := by decide +kernel
theorem dX0_hasNext_1 : decode cX0_hasNext 1 = .ok (.ifCond .lt 17, 3) := by decide +kernel
theorem dX0_hasNext_4 : decode cX0_hasNext 4 = .ok (.iload_n 1, 1) := by decide +kernel
theorem dX0_hasNext_5 : decode cX0_hasNext 5 = .ok (.aload_n 0, 1) := by decide +kernel
theorem dX0_hasNext_6 : decode cX0_hasNext 6 = .ok (.getfield 44, 3) := by decide +kernel
theorem dX0_hasNext_9 : decode cX0_hasNext 9 = .ok (.iconst 1, 1) := by decide +kernel
theorem dX0_hasNext_10 : decode cX0_hasNext 10 = .ok (.isub, 1) := by decide +kernel
theorem dX0_hasNext_11 : decode cX0_hasNext 11 = .ok (.if_icmp .ge 7, 3) := by decide +kernel
theorem dX0_hasNext_14 : decode cX0_hasNext 14 = .ok (.iconst 1, 1) := by decide +kernel
theorem dX0_hasNext_15 : decode cX0_hasNext 15 = .ok (.goto 4, 3) := by decide +kernel
theorem dX0_hasNext_18 : decode cX0_hasNext 18 = .ok (.iconst 0, 1) := by decide +kernel
theorem dX0_hasNext_19 : decode cX0_hasNext 19 = .ok (.ireturn, 1) := by decide +kernel
theorem dX0_hasCut_0 : decode cX0_hasCut 0 = .ok (.iload_n 2, 1) := by decide +kernel
theorem dX0_hasCut_1 : decode cX0_hasCut 1 = .ok (.iconst 1, 1) := by decide +kernel
theorem dX0_hasCut_2 : decode cX0_hasCut 2 = .ok (.if_icmp .lt 16, 3) := by decide +kernel
theorem dX0_hasCut_5 : decode cX0_hasCut 5 = .ok (.iload_n 2, 1) := by decide +kernel
theorem dX0_hasCut_6 : decode cX0_hasCut 6 = .ok (.aload_n 0, 1) := by decide +kernel
theorem dX0_hasCut_7 : decode cX0_hasCut 7 = .ok (.iload_n 1, 1) := by decide +kernel
theorem dX0_hasCut_8 : decode cX0_hasCut 8 = .ok (.invokevirtual 47, 3) := by decide +kernel
theorem dX0_hasCut_11 : decode cX0_hasCut 11 = .ok (.if_icmp .ge 7, 3) := by decide +kernel
theorem dX0_hasCut_14 : decode cX0_hasCut 14 = .ok (.iconst 1, 1) := by decide +kernel
theorem dX0_hasCut_15 : decode cX0_hasCut 15 = .ok (.goto 4, 3) := by decide +kernel
theorem dX0_hasCut_18 : decode cX0_hasCut 18 = .ok (.iconst 0, 1) := by decide +kernel
theorem dX0_hasCut_19 : decode cX0_hasCut 19 = .ok (.ireturn, 1) := by decide +kernel
theorem dX0_isFull_0 : decode cX0_isFull 0 = .ok (.aload_n 0, 1) := by decide +kernel
theorem dX0_isFull_1 : decode cX0_isFull 1 = .ok (.getfield 44, 3) := by decide +kernel
theorem dX0_isFull_4 : decode cX0_isFull 4 = .ok (.bipush 10, 2) := by decide +kernel
theorem dX0_isFull_6 : decode cX0_isFull 6 = .ok (.if_icmp .lt 7, 3) := by decide +kernel
theorem dX0_isFull_9 : decode cX0_isFull 9 = .ok (.iconst 1, 1) := by decide +kernel
theorem dX0_isFull_10 : decode cX0_isFull 10 = .ok (.goto 4, 3) := by decide +kernel
theorem dX0_isFull_13 : decode cX0_isFull 13 = .ok (.iconst 0, 1) := by decide +kernel
theorem dX0_isFull_14 : decode cX0_isFull 14 = .ok (.ireturn, 1) := by decide +kernel
theorem dX0_valueAt_0 : decode cX0_valueAt 0 = .ok (.aload_n 0, 1) := by decide +kernel
theorem dX0_valueAt_1 : decode cX0_valueAt 1 = .ok (.getfield 14, 3) := by decide +kernel
theorem dX0_valueAt_4 : decode cX0_valueAt 4 = .ok (.iload_n 1, 1) := by decide +kernel
theorem dX0_valueAt_5 : decode cX0_valueAt 5 = .ok (.invokevirtual 51, 3) := by decide +kernel
theorem dX0_valueAt_8 : decode cX0_valueAt 8 = .ok (.ireturn, 1) := by decide +kernel
theorem dX0_lastValue_0 : decode cX0_lastValue 0 = .ok (.aload_n 0, 1) := by decide +kernel
theorem dX0_lastValue_1 : decode cX0_lastValue 1 = .ok (.getfield 41, 3) := by decide +kernel
theorem dX0_lastValue_4 : decode cX0_lastValue 4 = .ok (.ifCond .le 19, 3) := by decide +kernel
theorem dX0_lastValue_7 : decode cX0_lastValue 7 = .ok (.aload_n 0, 1) := by decide +kernel
theorem dX0_lastValue_8 : decode cX0_lastValue 8 = .ok (.getfield 14, 3) := by decide +kernel
theorem dX0_lastValue_11 : decode cX0_lastValue 11 = .ok (.aload_n 0, 1) := by decide +kernel
theorem dX0_lastValue_12 : decode cX0_lastValue 12 = .ok (.getfield 41, 3) := by decide +kernel
theorem dX0_lastValue_15 : decode cX0_lastValue 15 = .ok (.iconst 1, 1) := by decide +kernel
theorem dX0_lastValue_16 : decode cX0_lastValue 16 = .ok (.isub, 1) := by decide +kernel
theorem dX0_lastValue_17 : decode cX0_lastValue 17 = .ok (.invokevirtual 51, 3) := by decide +kernel
theorem dX0_lastValue_20 : decode cX0_lastValue 20 = .ok (.goto 4, 3) := by decide +kernel
theorem dX0_lastValue_23 : decode cX0_lastValue 23 = .ok (.iconst 0, 1) := by decide +kernel
theorem dX0_lastValue_24 : decode cX0_lastValue 24 = .ok (.ireturn, 1) := by decide +kernel
theorem dX0_lengthOf_0 : decode cX0_lengthOf 0 = .ok (.aload_n 0, 1) := by decide +kernel
theorem dX0_lengthOf_1 : decode cX0_lengthOf 1 = .ok (.getfield 20, 3) := by decide +kernel
theorem dX0_lengthOf_4 : decode cX0_lengthOf 4 = .ok (.iload_n 1, 1) := by decide +kernel
theorem dX0_lengthOf_5 : decode cX0_lengthOf 5 = .ok (.invokevirtual 51, 3) := by decide +kernel
theorem dX0_lengthOf_8 : decode cX0_lengthOf 8 = .ok (.ireturn, 1) := by decide +kernel
theorem dX0_pinOf_0 : decode cX0_pinOf 0 = .ok (.aload_n 0, 1) := by decide +kernel
theorem dX0_pinOf_1 : decode cX0_pinOf 1 = .ok (.getfield 23, 3) := by decide +kernel
theorem dX0_pinOf_4 : decode cX0_pinOf 4 = .ok (.iload_n 1, 1) := by decide +kernel
theorem dX0_pinOf_5 : decode cX0_pinOf 5 = .ok (.invokevirtual 51, 3) := by decide +kernel
theorem dX0_pinOf_8 : decode cX0_pinOf 8 = .ok (.ireturn, 1) := by decide +kernel
theorem dX0_firstOf_0 : decode cX0_firstOf 0 = .ok (.iconst 0, 1) := by decide +kernel
theorem dX0_firstOf_1 : decode cX0_firstOf 1 = .ok (.istore_n 2, 1) := by decide +kernel
theorem dX0_firstOf_2 : decode cX0_firstOf 2 = .ok (.iconst 0, 1) := by decide +kernel
theorem dX0_firstOf_3 : decode cX0_firstOf 3 = .ok (.istore_n 3, 1) := by decide +kernel
theorem dX0_firstOf_4 : decode cX0_firstOf 4 = .ok (.iload_n 3, 1) := by decide +kernel
theorem dX0_firstOf_5 : decode cX0_firstOf 5 = .ok (.iload_n 1, 1) := by decide +kernel
theorem dX0_firstOf_6 : decode cX0_firstOf 6 = .ok (.if_icmp .ge 28, 3) := by decide +kernel
theorem dX0_firstOf_9 : decode cX0_firstOf 9 = .ok (.iload_n 3, 1) := by decide +kernel
theorem dX0_firstOf_10 : decode cX0_firstOf 10 = .ok (.aload_n 0, 1) := by decide +kernel
theorem dX0_firstOf_11 : decode cX0_firstOf 11 = .ok (.getfield 44, 3) := by decide +kernel
theorem dX0_firstOf_14 : decode cX0_firstOf 14 = .ok (.if_icmp .ge 20, 3) := by decide +kernel
theorem dX0_firstOf_17 : decode cX0_firstOf 17 = .ok (.iload_n 2, 1) := by decide +kernel
theorem dX0_firstOf_18 : decode cX0_firstOf 18 = .ok (.aload_n 0, 1) := by decide +kernel
theorem dX0_firstOf_19 : decode cX0_firstOf 19 = .ok (.getfield 20, 3) := by decide +kernel
theorem dX0_firstOf_22 : decode cX0_firstOf 22 = .ok (.iload_n 3, 1) := by decide +kernel
theorem dX0_firstOf_23 : decode cX0_firstOf 23 = .ok (.invokevirtual 51, 3) := by decide +kernel
theorem dX0_firstOf_26 : decode cX0_firstOf 26 = .ok (.iadd, 1) := by decide +kernel
theorem dX0_firstOf_27 : decode cX0_firstOf 27 = .ok (.istore_n 2, 1) := by decide +kernel
theorem dX0_firstOf_28 : decode cX0_firstOf 28 = .ok (.iinc 3 1, 3) := by decide +kernel
theorem dX0_firstOf_31 : decode cX0_firstOf 31 = .ok (.goto (-27), 3) := by decide +kernel
theorem dX0_firstOf_34 : decode cX0_firstOf 34 = .ok (.iload_n 2, 1) := by decide +kernel
theorem dX0_firstOf_35 : decode cX0_firstOf 35 = .ok (.ireturn, 1) := by decide +kernel
theorem dX0_pageOf_0 : decode cX0_pageOf 0 = .ok (.iconst 0, 1) := by decide +kernel
theorem dX0_pageOf_1 : decode cX0_pageOf 1 = .ok (.istore_n 2, 1) := by decide +kernel
theorem dX0_pageOf_2 : decode cX0_pageOf 2 = .ok (.iconst 0, 1) := by decide +kernel
theorem dX0_pageOf_3 : decode cX0_pageOf 3 = .ok (.istore_n 3, 1) := by decide +kernel
theorem dX0_pageOf_4 : decode cX0_pageOf 4 = .ok (.iload_n 3, 1) := by decide +kernel
theorem dX0_pageOf_5 : decode cX0_pageOf 5 = .ok (.aload_n 0, 1) := by decide +kernel
theorem dX0_pageOf_6 : decode cX0_pageOf 6 = .ok (.getfield 44, 3) := by decide +kernel
theorem dX0_pageOf_9 : decode cX0_pageOf 9 = .ok (.if_icmp .ge 27, 3) := by decide +kernel
theorem dX0_pageOf_12 : decode cX0_pageOf 12 = .ok (.iload_n 2, 1) := by decide +kernel
theorem dX0_pageOf_13 : decode cX0_pageOf 13 = .ok (.aload_n 0, 1) := by decide +kernel
theorem dX0_pageOf_14 : decode cX0_pageOf 14 = .ok (.getfield 20, 3) := by decide +kernel
theorem dX0_pageOf_17 : decode cX0_pageOf 17 = .ok (.iload_n 3, 1) := by decide +kernel
theorem dX0_pageOf_18 : decode cX0_pageOf 18 = .ok (.invokevirtual 51, 3) := by decide +kernel
theorem dX0_pageOf_21 : decode cX0_pageOf 21 = .ok (.iadd, 1) := by decide +kernel
theorem dX0_pageOf_22 : decode cX0_pageOf 22 = .ok (.istore_n 2, 1) := by decide +kernel
theorem dX0_pageOf_23 : decode cX0_pageOf 23 = .ok (.iload_n 1, 1) := by decide +kernel
theorem dX0_pageOf_24 : decode cX0_pageOf 24 = .ok (.iload_n 2, 1) := by decide +kernel
theorem dX0_pageOf_25 : decode cX0_pageOf 25 = .ok (.if_icmp .ge 5, 3) := by decide +kernel
theorem dX0_pageOf_28 : decode cX0_pageOf 28 = .ok (.iload_n 3, 1) := by decide +kernel
theorem dX0_pageOf_29 : decode cX0_pageOf 29 = .ok (.ireturn, 1) := by decide +kernel
theorem dX0_pageOf_30 : decode cX0_pageOf 30 = .ok (.iinc 3 1, 3) := by decide +kernel
theorem dX0_pageOf_33 : decode cX0_pageOf 33 = .ok (.goto (-29), 3) := by decide +kernel
theorem dX0_pageOf_36 : decode cX0_pageOf 36 = .ok (.sipush (-9999), 3) := by decide +kernel
theorem dX0_pageOf_39 : decode cX0_pageOf 39 = .ok (.ireturn, 1) := by decide +kernel
theorem dX0_pinnedPages_0 : decode cX0_pinnedPages 0 = .ok (.iconst 0, 1) := by decide +kernel
theorem dX0_pinnedPages_1 : decode cX0_pinnedPages 1 = .ok (.istore_n 1, 1) := by decide +kernel
theorem dX0_pinnedPages_2 : decode cX0_pinnedPages 2 = .ok (.iconst 0, 1) := by decide +kernel
theorem dX0_pinnedPages_3 : decode cX0_pinnedPages 3 = .ok (.istore_n 2, 1) := by decide +kernel
theorem dX0_pinnedPages_4 : decode cX0_pinnedPages 4 = .ok (.iload_n 2, 1) := by decide +kernel
theorem dX0_pinnedPages_5 : decode cX0_pinnedPages 5 = .ok (.aload_n 0, 1) := by decide +kernel
theorem dX0_pinnedPages_6 : decode cX0_pinnedPages 6 = .ok (.getfield 44, 3) := by decide +kernel
theorem dX0_pinnedPages_9 : decode cX0_pinnedPages 9 = .ok (.if_icmp .ge 31, 3) := by decide +kernel
theorem dX0_pinnedPages_12 : decode cX0_pinnedPages 12 = .ok (.iload_n 1, 1) := by decide +kernel
theorem dX0_pinnedPages_13 : decode cX0_pinnedPages 13 = .ok (.aload_n 0, 1) := by decide +kernel
theorem dX0_pinnedPages_14 : decode cX0_pinnedPages 14 = .ok (.getfield 23, 3) := by decide +kernel
theorem dX0_pinnedPages_17 : decode cX0_pinnedPages 17 = .ok (.iload_n 2, 1) := by decide +kernel
theorem dX0_pinnedPages_18 : decode cX0_pinnedPages 18 = .ok (.invokevirtual 51, 3) := by decide +kernel
theorem dX0_pinnedPages_21 : decode cX0_pinnedPages 21 = .ok (.sipush (-9999), 3) := by decide +kernel
theorem dX0_pinnedPages_24 : decode cX0_pinnedPages 24 = .ok (.if_icmp .ne 7, 3) := by decide +kernel
theorem dX0_pinnedPages_27 : decode cX0_pinnedPages 27 = .ok (.iconst 0, 1) := by decide +kernel
theorem dX0_pinnedPages_28 : decode cX0_pinnedPages 28 = .ok (.goto 4, 3) := by decide +kernel
theorem dX0_pinnedPages_31 : decode cX0_pinnedPages 31 = .ok (.iconst 1, 1) := by decide +kernel
theorem dX0_pinnedPages_32 : decode cX0_pinnedPages 32 = .ok (.iadd, 1) := by decide +kernel
theorem dX0_pinnedPages_33 : decode cX0_pinnedPages 33 = .ok (.istore_n 1, 1) := by decide +kernel
theorem dX0_pinnedPages_34 : decode cX0_pinnedPages 34 = .ok (.iinc 2 1, 3) := by decide +kernel
theorem dX0_pinnedPages_37 : decode cX0_pinnedPages 37 = .ok (.goto (-33), 3) := by decide +kernel
theorem dX0_pinnedPages_40 : decode cX0_pinnedPages 40 = .ok (.iload_n 1, 1) := by decide +kernel
theorem dX0_pinnedPages_41 : decode cX0_pinnedPages 41 = .ok (.ireturn, 1) := by decide +kernel
theorem dX0_smallestValue_0 : decode cX0_smallestValue 0 = .ok (.sipush (-9999), 3) := by decide +kernel
theorem dX0_smallestValue_3 : decode cX0_smallestValue 3 = .ok (.istore_n 1, 1) := by decide +kernel
theorem dX0_smallestValue_4 : decode cX0_smallestValue 4 = .ok (.iconst 0, 1) := by decide +kernel
theorem dX0_smallestValue_5 : decode cX0_smallestValue 5 = .ok (.istore_n 2, 1) := by decide +kernel
theorem dX0_smallestValue_6 : decode cX0_smallestValue 6 = .ok (.iload_n 2, 1) := by decide +kernel
theorem dX0_smallestValue_7 : decode cX0_smallestValue 7 = .ok (.aload_n 0, 1) := by decide +kernel
theorem dX0_smallestValue_8 : decode cX0_smallestValue 8 = .ok (.getfield 41, 3) := by decide +kernel
theorem dX0_smallestValue_11 : decode cX0_smallestValue 11 = .ok (.if_icmp .ge 37, 3) := by decide +kernel
theorem dX0_smallestValue_14 : decode cX0_smallestValue 14 = .ok (.iload_n 2, 1) := by decide +kernel
theorem dX0_smallestValue_15 : decode cX0_smallestValue 15 = .ok (.ifCond .ne 14, 3) := by decide +kernel
theorem dX0_smallestValue_18 : decode cX0_smallestValue 18 = .ok (.aload_n 0, 1) := by decide +kernel
theorem dX0_smallestValue_19 : decode cX0_smallestValue 19 = .ok (.getfield 14, 3) := by decide +kernel
theorem dX0_smallestValue_22 : decode cX0_smallestValue 22 = .ok (.iload_n 2, 1) := by decide +kernel
theorem dX0_smallestValue_23 : decode cX0_smallestValue 23 = .ok (.invokevirtual 51, 3) := by decide +kernel
theorem dX0_smallestValue_26 : decode cX0_smallestValue 26 = .ok (.goto 15, 3) := by decide +kernel
theorem dX0_smallestValue_29 : decode cX0_smallestValue 29 = .ok (.iload_n 1, 1) := by decide +kernel
theorem dX0_smallestValue_30 : decode cX0_smallestValue 30 = .ok (.aload_n 0, 1) := by decide +kernel
theorem dX0_smallestValue_31 : decode cX0_smallestValue 31 = .ok (.getfield 14, 3) := by decide +kernel
theorem dX0_smallestValue_34 : decode cX0_smallestValue 34 = .ok (.iload_n 2, 1) := by decide +kernel
theorem dX0_smallestValue_35 : decode cX0_smallestValue 35 = .ok (.invokevirtual 51, 3) := by decide +kernel
theorem dX0_smallestValue_38 : decode cX0_smallestValue 38 = .ok (.invokestatic 54, 3) := by decide +kernel
theorem dX0_smallestValue_41 : decode cX0_smallestValue 41 = .ok (.istore_n 1, 1) := by decide +kernel
theorem dX0_smallestValue_42 : decode cX0_smallestValue 42 = .ok (.iinc 2 1, 3) := by decide +kernel
theorem dX0_smallestValue_45 : decode cX0_smallestValue 45 = .ok (.goto (-39), 3) := by decide +kernel
theorem dX0_smallestValue_48 : decode cX0_smallestValue 48 = .ok (.iload_n 1, 1) := by decide +kernel
theorem dX0_smallestValue_49 : decode cX0_smallestValue 49 = .ok (.ireturn, 1) := by decide +kernel
theorem dX0_greatestValue_0 : decode cX0_greatestValue 0 = .ok (.sipush (-9999), 3) := by decide +kernel
theorem dX0_greatestValue_3 : decode cX0_greatestValue 3 = .ok (.istore_n 1, 1) := by decide +kernel
theorem dX0_greatestValue_4 : decode cX0_greatestValue 4 = .ok (.iconst 0, 1) := by decide +kernel
theorem dX0_greatestValue_5 : decode cX0_greatestValue 5 = .ok (.istore_n 2, 1) := by decide +kernel
theorem dX0_greatestValue_6 : decode cX0_greatestValue 6 = .ok (.iload_n 2, 1) := by decide +kernel
theorem dX0_greatestValue_7 : decode cX0_greatestValue 7 = .ok (.aload_n 0, 1) := by decide +kernel
theorem dX0_greatestValue_8 : decode cX0_greatestValue 8 = .ok (.getfield 41, 3) := by decide +kernel
theorem dX0_greatestValue_11 : decode cX0_greatestValue 11 = .ok (.if_icmp .ge 22, 3) := by decide +kernel
theorem dX0_greatestValue_14 : decode cX0_greatestValue 14 = .ok (.iload_n 1, 1) := by decide +kernel
theorem dX0_greatestValue_15 : decode cX0_greatestValue 15 = .ok (.aload_n 0, 1) := by decide +kernel
theorem dX0_greatestValue_16 : decode cX0_greatestValue 16 = .ok (.getfield 14, 3) := by decide +kernel
theorem dX0_greatestValue_19 : decode cX0_greatestValue 19 = .ok (.iload_n 2, 1) := by decide +kernel
theorem dX0_greatestValue_20 : decode cX0_greatestValue 20 = .ok (.invokevirtual 51, 3) := by decide +kernel
theorem dX0_greatestValue_23 : decode cX0_greatestValue 23 = .ok (.invokestatic 60, 3) := by decide +kernel
theorem dX0_greatestValue_26 : decode cX0_greatestValue 26 = .ok (.istore_n 1, 1) := by decide +kernel
theorem dX0_greatestValue_27 : decode cX0_greatestValue 27 = .ok (.iinc 2 1, 3) := by decide +kernel
theorem dX0_greatestValue_30 : decode cX0_greatestValue 30 = .ok (.goto (-24), 3) := by decide +kernel
theorem dX0_greatestValue_33 : decode cX0_greatestValue 33 = .ok (.iload_n 1, 1) := by decide +kernel
theorem dX0_greatestValue_34 : decode cX0_greatestValue 34 = .ok (.ireturn, 1) := by decide +kernel
theorem dX0_differentValues_0 : decode cX0_differentValues 0 = .ok (.iconst 0, 1) := by decide +kernel
theorem dX0_differentValues_1 : decode cX0_differentValues 1 = .ok (.istore_n 1, 1) := by decide +kernel
theorem dX0_differentValues_2 : decode cX0_differentValues 2 = .ok (.iconst 0, 1) := by decide +kernel
theorem dX0_differentValues_3 : decode cX0_differentValues 3 = .ok (.istore_n 2, 1) := by decide +kernel
theorem dX0_differentValues_4 : decode cX0_differentValues 4 = .ok (.iload_n 2, 1) := by decide +kernel
theorem dX0_differentValues_5 : decode cX0_differentValues 5 = .ok (.aload_n 0, 1) := by decide +kernel
theorem dX0_differentValues_6 : decode cX0_differentValues 6 = .ok (.getfield 41, 3) := by decide +kernel
theorem dX0_differentValues_9 : decode cX0_differentValues 9 = .ok (.if_icmp .ge 33, 3) := by decide +kernel
theorem dX0_differentValues_12 : decode cX0_differentValues 12 = .ok (.iload_n 1, 1) := by decide +kernel
theorem dX0_differentValues_13 : decode cX0_differentValues 13 = .ok (.aload_n 0, 1) := by decide +kernel
theorem dX0_differentValues_14 : decode cX0_differentValues 14 = .ok (.aload_n 0, 1) := by decide +kernel
theorem dX0_differentValues_15 : decode cX0_differentValues 15 = .ok (.getfield 14, 3) := by decide +kernel
theorem dX0_differentValues_18 : decode cX0_differentValues 18 = .ok (.iload_n 2, 1) := by decide +kernel
theorem dX0_differentValues_19 : decode cX0_differentValues 19 = .ok (.invokevirtual 51, 3) := by decide +kernel
theorem dX0_differentValues_22 : decode cX0_differentValues 22 = .ok (.invokevirtual 63, 3) := by decide +kernel
theorem dX0_differentValues_25 : decode cX0_differentValues 25 = .ok (.iload_n 2, 1) := by decide +kernel
theorem dX0_differentValues_26 : decode cX0_differentValues 26 = .ok (.if_icmp .ne 7, 3) := by decide +kernel
theorem dX0_differentValues_29 : decode cX0_differentValues 29 = .ok (.iconst 1, 1) := by decide +kernel
theorem dX0_differentValues_30 : decode cX0_differentValues 30 = .ok (.goto 4, 3) := by decide +kernel
theorem dX0_differentValues_33 : decode cX0_differentValues 33 = .ok (.iconst 0, 1) := by decide +kernel
theorem dX0_differentValues_34 : decode cX0_differentValues 34 = .ok (.iadd, 1) := by decide +kernel
theorem dX0_differentValues_35 : decode cX0_differentValues 35 = .ok (.istore_n 1, 1) := by decide +kernel
theorem dX0_differentValues_36 : decode cX0_differentValues 36 = .ok (.iinc 2 1, 3) := by decide +kernel
theorem dX0_differentValues_39 : decode cX0_differentValues 39 = .ok (.goto (-35), 3) := by decide +kernel
theorem dX0_differentValues_42 : decode cX0_differentValues 42 = .ok (.iload_n 1, 1) := by decide +kernel
theorem dX0_differentValues_43 : decode cX0_differentValues 43 = .ok (.ireturn, 1) := by decide +kernel
theorem dX0_placeOf_0 : decode cX0_placeOf 0 = .ok (.iconst 0, 1) := by decide +kernel
theorem dX0_placeOf_1 : decode cX0_placeOf 1 = .ok (.istore_n 2, 1) := by decide +kernel
theorem dX0_placeOf_2 : decode cX0_placeOf 2 = .ok (.iload_n 2, 1) := by decide +kernel
theorem dX0_placeOf_3 : decode cX0_placeOf 3 = .ok (.aload_n 0, 1) := by decide +kernel
theorem dX0_placeOf_4 : decode cX0_placeOf 4 = .ok (.getfield 41, 3) := by decide +kernel
theorem dX0_placeOf_7 : decode cX0_placeOf 7 = .ok (.if_icmp .ge 23, 3) := by decide +kernel
theorem dX0_placeOf_10 : decode cX0_placeOf 10 = .ok (.aload_n 0, 1) := by decide +kernel
theorem dX0_placeOf_11 : decode cX0_placeOf 11 = .ok (.getfield 14, 3) := by decide +kernel
theorem dX0_placeOf_14 : decode cX0_placeOf 14 = .ok (.iload_n 2, 1) := by decide +kernel
theorem dX0_placeOf_15 : decode cX0_placeOf 15 = .ok (.invokevirtual 51, 3) := by decide +kernel
theorem dX0_placeOf_18 : decode cX0_placeOf 18 = .ok (.iload_n 1, 1) := by decide +kernel
theorem dX0_placeOf_19 : decode cX0_placeOf 19 = .ok (.if_icmp .ne 5, 3) := by decide +kernel
theorem dX0_placeOf_22 : decode cX0_placeOf 22 = .ok (.iload_n 2, 1) := by decide +kernel
theorem dX0_placeOf_23 : decode cX0_placeOf 23 = .ok (.ireturn, 1) := by decide +kernel
theorem dX0_placeOf_24 : decode cX0_placeOf 24 = .ok (.iinc 2 1, 3) := by decide +kernel
theorem dX0_placeOf_27 : decode cX0_placeOf 27 = .ok (.goto (-25), 3) := by decide +kernel
theorem dX0_placeOf_30 : decode cX0_placeOf 30 = .ok (.sipush (-9999), 3) := by decide +kernel
theorem dX0_placeOf_33 : decode cX0_placeOf 33 = .ok (.ireturn, 1) := by decide +kernel
theorem dX0_timesOf_0 : decode cX0_timesOf 0 = .ok (.iconst 0, 1) := by decide +kernel
theorem dX0_timesOf_1 : decode cX0_timesOf 1 = .ok (.istore_n 2, 1) := by decide +kernel
theorem dX0_timesOf_2 : decode cX0_timesOf 2 = .ok (.iconst 0, 1) := by decide +kernel
theorem dX0_timesOf_3 : decode cX0_timesOf 3 = .ok (.istore_n 3, 1) := by decide +kernel
theorem dX0_timesOf_4 : decode cX0_timesOf 4 = .ok (.iload_n 3, 1) := by decide +kernel
theorem dX0_timesOf_5 : decode cX0_timesOf 5 = .ok (.aload_n 0, 1) := by decide +kernel
theorem dX0_timesOf_6 : decode cX0_timesOf 6 = .ok (.getfield 41, 3) := by decide +kernel
theorem dX0_timesOf_9 : decode cX0_timesOf 9 = .ok (.if_icmp .ge 29, 3) := by decide +kernel
theorem dX0_timesOf_12 : decode cX0_timesOf 12 = .ok (.iload_n 2, 1) := by decide +kernel
theorem dX0_timesOf_13 : decode cX0_timesOf 13 = .ok (.aload_n 0, 1) := by decide +kernel
theorem dX0_timesOf_14 : decode cX0_timesOf 14 = .ok (.getfield 14, 3) := by decide +kernel
theorem dX0_timesOf_17 : decode cX0_timesOf 17 = .ok (.iload_n 3, 1) := by decide +kernel
theorem dX0_timesOf_18 : decode cX0_timesOf 18 = .ok (.invokevirtual 51, 3) := by decide +kernel
theorem dX0_timesOf_21 : decode cX0_timesOf 21 = .ok (.iload_n 1, 1) := by decide +kernel
theorem dX0_timesOf_22 : decode cX0_timesOf 22 = .ok (.if_icmp .ne 7, 3) := by decide +kernel
theorem dX0_timesOf_25 : decode cX0_timesOf 25 = .ok (.iconst 1, 1) := by decide +kernel
theorem dX0_timesOf_26 : decode cX0_timesOf 26 = .ok (.goto 4, 3) := by decide +kernel
theorem dX0_timesOf_29 : decode cX0_timesOf 29 = .ok (.iconst 0, 1) := by decide +kernel
theorem dX0_timesOf_30 : decode cX0_timesOf 30 = .ok (.iadd, 1) := by decide +kernel
theorem dX0_timesOf_31 : decode cX0_timesOf 31 = .ok (.istore_n 2, 1) := by decide +kernel
theorem dX0_timesOf_32 : decode cX0_timesOf 32 = .ok (.iinc 3 1, 3) := by decide +kernel
theorem dX0_timesOf_35 : decode cX0_timesOf 35 = .ok (.goto (-31), 3) := by decide +kernel
theorem dX0_timesOf_38 : decode cX0_timesOf 38 = .ok (.iload_n 2, 1) := by decide +kernel
theorem dX0_timesOf_39 : decode cX0_timesOf 39 = .ok (.ireturn, 1) := by decide +kernel
theorem dX0_measurePage_0 : decode cX0_measurePage 0 = .ok (.aload_n 0, 1) := by decide +kernel
theorem dX0_measurePage_1 : decode cX0_measurePage 1 = .ok (.aload_n 0, 1) := by decide +kernel
theorem dX0_measurePage_2 : decode cX0_measurePage 2 = .ok (.iload_n 1, 1) := by decide +kernel
theorem dX0_measurePage_3 : decode cX0_measurePage 3 = .ok (.invokevirtual 66, 3) := by decide +kernel
theorem dX0_measurePage_6 : decode cX0_measurePage 6 = .ok (.aload_n 0, 1) := by decide +kernel
theorem dX0_measurePage_7 : decode cX0_measurePage 7 = .ok (.iload_n 1, 1) := by decide +kernel
theorem dX0_measurePage_8 : decode cX0_measurePage 8 = .ok (.invokevirtual 47, 3) := by decide +kernel
theorem dX0_measurePage_11 : decode cX0_measurePage 11 = .ok (.invokevirtual 69, 3) := by decide +kernel
theorem dX0_measurePage_14 : decode cX0_measurePage 14 = .ok (.areturn, 1) := by decide +kernel
theorem dX0_measureValues_0 : decode cX0_measureValues 0 = .ok (.aload_n 0, 1) := by decide +kernel
theorem dX0_measureValues_1 : decode cX0_measureValues 1 = .ok (.getfield 29, 3) := by decide +kernel
theorem dX0_measureValues_4 : decode cX0_measureValues 4 = .ok (.invokevirtual 73, 3) := by decide +kernel
theorem dX0_measureValues_7 : decode cX0_measureValues 7 = .ok (.iconst 0, 1) := by decide +kernel
theorem dX0_measureValues_8 : decode cX0_measureValues 8 = .ok (.istore_n 3, 1) := by decide +kernel
theorem dX0_measureValues_9 : decode cX0_measureValues 9 = .ok (.iload_n 3, 1) := by decide +kernel
theorem dX0_measureValues_10 : decode cX0_measureValues 10 = .ok (.iload_n 2, 1) := by decide +kernel
theorem dX0_measureValues_11 : decode cX0_measureValues 11 = .ok (.if_icmp .ge 32, 3) := by decide +kernel
theorem dX0_measureValues_14 : decode cX0_measureValues 14 = .ok (.iload_n 3, 1) := by decide +kernel
theorem dX0_measureValues_15 : decode cX0_measureValues 15 = .ok (.bipush 12, 2) := by decide +kernel
theorem dX0_measureValues_17 : decode cX0_measureValues 17 = .ok (.if_icmp .ge 26, 3) := by decide +kernel
theorem dX0_measureValues_20 : decode cX0_measureValues 20 = .ok (.aload_n 0, 1) := by decide +kernel
theorem dX0_measureValues_21 : decode cX0_measureValues 21 = .ok (.getfield 29, 3) := by decide +kernel
theorem dX0_measureValues_24 : decode cX0_measureValues 24 = .ok (.aload_n 0, 1) := by decide +kernel
theorem dX0_measureValues_25 : decode cX0_measureValues 25 = .ok (.getfield 14, 3) := by decide +kernel
theorem dX0_measureValues_28 : decode cX0_measureValues 28 = .ok (.iload_n 1, 1) := by decide +kernel
theorem dX0_measureValues_29 : decode cX0_measureValues 29 = .ok (.iload_n 3, 1) := by decide +kernel
theorem dX0_measureValues_30 : decode cX0_measureValues 30 = .ok (.iadd, 1) := by decide +kernel
theorem dX0_measureValues_31 : decode cX0_measureValues 31 = .ok (.invokevirtual 51, 3) := by decide +kernel
theorem dX0_measureValues_34 : decode cX0_measureValues 34 = .ok (.invokevirtual 76, 3) := by decide +kernel
theorem dX0_measureValues_37 : decode cX0_measureValues 37 = .ok (.iinc 3 1, 3) := by decide +kernel
theorem dX0_measureValues_40 : decode cX0_measureValues 40 = .ok (.goto (-31), 3) := by decide +kernel
theorem dX0_measureValues_43 : decode cX0_measureValues 43 = .ok (.aload_n 0, 1) := by decide +kernel
theorem dX0_measureValues_44 : decode cX0_measureValues 44 = .ok (.getfield 29, 3) := by decide +kernel
theorem dX0_measureValues_47 : decode cX0_measureValues 47 = .ok (.areturn, 1) := by decide +kernel
theorem dX0_codingOf_0 : decode cX0_codingOf 0 = .ok (.aload_n 0, 1) := by decide +kernel
theorem dX0_codingOf_1 : decode cX0_codingOf 1 = .ok (.iload_n 1, 1) := by decide +kernel
theorem dX0_codingOf_2 : decode cX0_codingOf 2 = .ok (.invokevirtual 79, 3) := by decide +kernel
theorem dX0_codingOf_5 : decode cX0_codingOf 5 = .ok (.aload_n 0, 1) := by decide +kernel
theorem dX0_codingOf_6 : decode cX0_codingOf 6 = .ok (.iload_n 1, 1) := by decide +kernel
theorem dX0_codingOf_7 : decode cX0_codingOf 7 = .ok (.invokevirtual 83, 3) := by decide +kernel
theorem dX0_codingOf_10 : decode cX0_codingOf 10 = .ok (.invokevirtual 86, 3) := by decide +kernel
theorem dX0_codingOf_13 : decode cX0_codingOf 13 = .ok (.ireturn, 1) := by decide +kernel
theorem dX0_sizeOf_0 : decode cX0_sizeOf 0 = .ok (.aload_n 0, 1) := by decide +kernel
theorem dX0_sizeOf_1 : decode cX0_sizeOf 1 = .ok (.iload_n 1, 1) := by decide +kernel
theorem dX0_sizeOf_2 : decode cX0_sizeOf 2 = .ok (.invokevirtual 79, 3) := by decide +kernel
theorem dX0_sizeOf_5 : decode cX0_sizeOf 5 = .ok (.aload_n 0, 1) := by decide +kernel
theorem dX0_sizeOf_6 : decode cX0_sizeOf 6 = .ok (.iload_n 1, 1) := by decide +kernel
theorem dX0_sizeOf_7 : decode cX0_sizeOf 7 = .ok (.invokevirtual 83, 3) := by decide +kernel
theorem dX0_sizeOf_10 : decode cX0_sizeOf 10 = .ok (.invokevirtual 89, 3) := by decide +kernel
theorem dX0_sizeOf_13 : decode cX0_sizeOf 13 = .ok (.ireturn, 1) := by decide +kernel
theorem dX0_totalSize_0 : decode cX0_totalSize 0 = .ok (.iconst 0, 1) := by decide +kernel
theorem dX0_totalSize_1 : decode cX0_totalSize 1 = .ok (.istore_n 1, 1) := by decide +kernel
theorem dX0_totalSize_2 : decode cX0_totalSize 2 = .ok (.iconst 0, 1) := by decide +kernel
theorem dX0_totalSize_3 : decode cX0_totalSize 3 = .ok (.istore_n 2, 1) := by decide +kernel
theorem dX0_totalSize_4 : decode cX0_totalSize 4 = .ok (.iconst 0, 1) := by decide +kernel
theorem dX0_totalSize_5 : decode cX0_totalSize 5 = .ok (.istore_n 3, 1) := by decide +kernel
theorem dX0_totalSize_6 : decode cX0_totalSize 6 = .ok (.iload_n 3, 1) := by decide +kernel
theorem dX0_totalSize_7 : decode cX0_totalSize 7 = .ok (.aload_n 0, 1) := by decide +kernel
theorem dX0_totalSize_8 : decode cX0_totalSize 8 = .ok (.getfield 44, 3) := by decide +kernel
theorem dX0_totalSize_11 : decode cX0_totalSize 11 = .ok (.if_icmp .ge 38, 3) := by decide +kernel
theorem dX0_totalSize_14 : decode cX0_totalSize 14 = .ok (.iload_n 1, 1) := by decide +kernel
theorem dX0_totalSize_15 : decode cX0_totalSize 15 = .ok (.aload_n 0, 1) := by decide +kernel
theorem dX0_totalSize_16 : decode cX0_totalSize 16 = .ok (.iload_n 2, 1) := by decide +kernel
theorem dX0_totalSize_17 : decode cX0_totalSize 17 = .ok (.aload_n 0, 1) := by decide +kernel
theorem dX0_totalSize_18 : decode cX0_totalSize 18 = .ok (.iload_n 3, 1) := by decide +kernel
theorem dX0_totalSize_19 : decode cX0_totalSize 19 = .ok (.invokevirtual 47, 3) := by decide +kernel
theorem dX0_totalSize_22 : decode cX0_totalSize 22 = .ok (.invokevirtual 69, 3) := by decide +kernel
theorem dX0_totalSize_25 : decode cX0_totalSize 25 = .ok (.aload_n 0, 1) := by decide +kernel
theorem dX0_totalSize_26 : decode cX0_totalSize 26 = .ok (.iload_n 3, 1) := by decide +kernel
theorem dX0_totalSize_27 : decode cX0_totalSize 27 = .ok (.invokevirtual 83, 3) := by decide +kernel
theorem dX0_totalSize_30 : decode cX0_totalSize 30 = .ok (.invokevirtual 89, 3) := by decide +kernel
theorem dX0_totalSize_33 : decode cX0_totalSize 33 = .ok (.iadd, 1) := by decide +kernel
theorem dX0_totalSize_34 : decode cX0_totalSize 34 = .ok (.istore_n 1, 1) := by decide +kernel
theorem dX0_totalSize_35 : decode cX0_totalSize 35 = .ok (.iload_n 2, 1) := by decide +kernel
theorem dX0_totalSize_36 : decode cX0_totalSize 36 = .ok (.aload_n 0, 1) := by decide +kernel
theorem dX0_totalSize_37 : decode cX0_totalSize 37 = .ok (.iload_n 3, 1) := by decide +kernel
theorem dX0_totalSize_38 : decode cX0_totalSize 38 = .ok (.invokevirtual 47, 3) := by decide +kernel
theorem dX0_totalSize_41 : decode cX0_totalSize 41 = .ok (.iadd, 1) := by decide +kernel
theorem dX0_totalSize_42 : decode cX0_totalSize 42 = .ok (.istore_n 2, 1) := by decide +kernel
theorem dX0_totalSize_43 : decode cX0_totalSize 43 = .ok (.iinc 3 1, 3) := by decide +kernel
theorem dX0_totalSize_46 : decode cX0_totalSize 46 = .ok (.goto (-40), 3) := by decide +kernel
theorem dX0_totalSize_49 : decode cX0_totalSize 49 = .ok (.iload_n 1, 1) := by decide +kernel
theorem dX0_totalSize_50 : decode cX0_totalSize 50 = .ok (.ireturn, 1) := by decide +kernel
theorem dX0_differentCodings_0 : decode cX0_differentCodings 0 = .ok (.iconst 0, 1) := by decide +kernel
theorem dX0_differentCodings_1 : decode cX0_differentCodings 1 = .ok (.istore_n 1, 1) := by decide +kernel
theorem dX0_differentCodings_2 : decode cX0_differentCodings 2 = .ok (.iconst 0, 1) := by decide +kernel
theorem dX0_differentCodings_3 : decode cX0_differentCodings 3 = .ok (.istore_n 2, 1) := by decide +kernel
theorem dX0_differentCodings_4 : decode cX0_differentCodings 4 = .ok (.iload_n 2, 1) := by decide +kernel
theorem dX0_differentCodings_5 : decode cX0_differentCodings 5 = .ok (.aload_n 0, 1) := by decide +kernel
theorem dX0_differentCodings_6 : decode cX0_differentCodings 6 = .ok (.getfield 44, 3) := by decide +kernel
theorem dX0_differentCodings_9 : decode cX0_differentCodings 9 = .ok (.if_icmp .ge 19, 3) := by decide +kernel
theorem dX0_differentCodings_12 : decode cX0_differentCodings 12 = .ok (.iload_n 1, 1) := by decide +kernel
theorem dX0_differentCodings_13 : decode cX0_differentCodings 13 = .ok (.iconst 1, 1) := by decide +kernel
theorem dX0_differentCodings_14 : decode cX0_differentCodings 14 = .ok (.aload_n 0, 1) := by decide +kernel
theorem dX0_differentCodings_15 : decode cX0_differentCodings 15 = .ok (.iload_n 2, 1) := by decide +kernel
theorem dX0_differentCodings_16 : decode cX0_differentCodings 16 = .ok (.invokevirtual 92, 3) := by decide +kernel
theorem dX0_differentCodings_19 : decode cX0_differentCodings 19 = .ok (.ishl, 1) := by decide +kernel
theorem dX0_differentCodings_20 : decode cX0_differentCodings 20 = .ok (.ior, 1) := by decide +kernel
theorem dX0_differentCodings_21 : decode cX0_differentCodings 21 = .ok (.istore_n 1, 1) := by decide +kernel
theorem dX0_differentCodings_22 : decode cX0_differentCodings 22 = .ok (.iinc 2 1, 3) := by decide +kernel
theorem dX0_differentCodings_25 : decode cX0_differentCodings 25 = .ok (.goto (-21), 3) := by decide +kernel
theorem dX0_differentCodings_28 : decode cX0_differentCodings 28 = .ok (.iload_n 1, 1) := by decide +kernel
theorem dX0_differentCodings_29 : decode cX0_differentCodings 29 = .ok (.invokestatic 95, 3) := by decide +kernel
theorem dX0_differentCodings_32 : decode cX0_differentCodings 32 = .ok (.ireturn, 1) := by decide +kernel
theorem dX0_scanCost_0 : decode cX0_scanCost 0 = .ok (.iconst 0, 1) := by decide +kernel
theorem dX0_scanCost_1 : decode cX0_scanCost 1 = .ok (.istore_n 2, 1) := by decide +kernel
theorem dX0_scanCost_2 : decode cX0_scanCost 2 = .ok (.iconst 0, 1) := by decide +kernel
theorem dX0_scanCost_3 : decode cX0_scanCost 3 = .ok (.istore_n 3, 1) := by decide +kernel
theorem dX0_scanCost_4 : decode cX0_scanCost 4 = .ok (.iload_n 3, 1) := by decide +kernel
theorem dX0_scanCost_5 : decode cX0_scanCost 5 = .ok (.aload_n 0, 1) := by decide +kernel
theorem dX0_scanCost_6 : decode cX0_scanCost 6 = .ok (.getfield 44, 3) := by decide +kernel
theorem dX0_scanCost_9 : decode cX0_scanCost 9 = .ok (.if_icmp .ge 52, 3) := by decide +kernel
theorem dX0_scanCost_12 : decode cX0_scanCost 12 = .ok (.aload_n 0, 1) := by decide +kernel
theorem dX0_scanCost_13 : decode cX0_scanCost 13 = .ok (.iload_n 3, 1) := by decide +kernel
theorem dX0_scanCost_14 : decode cX0_scanCost 14 = .ok (.invokevirtual 79, 3) := by decide +kernel
theorem dX0_scanCost_17 : decode cX0_scanCost 17 = .ok (.astore 4, 2) := by decide +kernel
theorem dX0_scanCost_19 : decode cX0_scanCost 19 = .ok (.iinc 2 1, 3) := by decide +kernel
theorem dX0_scanCost_22 : decode cX0_scanCost 22 = .ok (.iload_n 1, 1) := by decide +kernel
theorem dX0_scanCost_23 : decode cX0_scanCost 23 = .ok (.aload 4, 2) := by decide +kernel
theorem dX0_scanCost_25 : decode cX0_scanCost 25 = .ok (.getfield 100, 3) := by decide +kernel
theorem dX0_scanCost_28 : decode cX0_scanCost 28 = .ok (.if_icmp .lt 27, 3) := by decide +kernel
theorem dX0_scanCost_31 : decode cX0_scanCost 31 = .ok (.iload_n 1, 1) := by decide +kernel
theorem dX0_scanCost_32 : decode cX0_scanCost 32 = .ok (.aload 4, 2) := by decide +kernel
theorem dX0_scanCost_34 : decode cX0_scanCost 34 = .ok (.getfield 103, 3) := by decide +kernel
theorem dX0_scanCost_37 : decode cX0_scanCost 37 = .ok (.if_icmp .gt 18, 3) := by decide +kernel
theorem dX0_scanCost_40 : decode cX0_scanCost 40 = .ok (.iload_n 2, 1) := by decide +kernel
theorem dX0_scanCost_41 : decode cX0_scanCost 41 = .ok (.aload_n 0, 1) := by decide +kernel
theorem dX0_scanCost_42 : decode cX0_scanCost 42 = .ok (.aload 4, 2) := by decide +kernel
theorem dX0_scanCost_44 : decode cX0_scanCost 44 = .ok (.aload_n 0, 1) := by decide +kernel
theorem dX0_scanCost_45 : decode cX0_scanCost 45 = .ok (.iload_n 3, 1) := by decide +kernel
theorem dX0_scanCost_46 : decode cX0_scanCost 46 = .ok (.invokevirtual 83, 3) := by decide +kernel
theorem dX0_scanCost_49 : decode cX0_scanCost 49 = .ok (.iload_n 1, 1) := by decide +kernel
theorem dX0_scanCost_50 : decode cX0_scanCost 50 = .ok (.invokevirtual 106, 3) := by decide +kernel
theorem dX0_scanCost_53 : decode cX0_scanCost 53 = .ok (.iadd, 1) := by decide +kernel
theorem dX0_scanCost_54 : decode cX0_scanCost 54 = .ok (.istore_n 2, 1) := by decide +kernel
theorem dX0_scanCost_55 : decode cX0_scanCost 55 = .ok (.iinc 3 1, 3) := by decide +kernel
theorem dX0_scanCost_58 : decode cX0_scanCost 58 = .ok (.goto (-54), 3) := by decide +kernel
theorem dX0_scanCost_61 : decode cX0_scanCost 61 = .ok (.iload_n 2, 1) := by decide +kernel
theorem dX0_scanCost_62 : decode cX0_scanCost 62 = .ok (.ireturn, 1) := by decide +kernel
theorem dX0_searchCost_0 : decode cX0_searchCost 0 = .ok (.aload_n 1, 1) := by decide +kernel
theorem dX0_searchCost_1 : decode cX0_searchCost 1 = .ok (.iload_n 2, 1) := by decide +kernel
theorem dX0_searchCost_2 : decode cX0_searchCost 2 = .ok (.invokevirtual 86, 3) := by decide +kernel
theorem dX0_searchCost_5 : decode cX0_searchCost 5 = .ok (.lookupswitch 64 #[(1, 27), (2, 59)], 27) := by decide +kernel
theorem dX0_searchCost_32 : decode cX0_searchCost 32 = .ok (.aload_n 1, 1) := by decide +kernel
theorem dX0_searchCost_33 : decode cX0_searchCost 33 = .ok (.iload_n 3, 1) := by decide +kernel
theorem dX0_searchCost_34 : decode cX0_searchCost 34 = .ok (.invokevirtual 110, 3) := by decide +kernel
theorem dX0_searchCost_37 : decode cX0_searchCost 37 = .ok (.istore 4, 2) := by decide +kernel
theorem dX0_searchCost_39 : decode cX0_searchCost 39 = .ok (.iload 4, 2) := by decide +kernel
theorem dX0_searchCost_41 : decode cX0_searchCost 41 = .ok (.sipush (-9999), 3) := by decide +kernel
theorem dX0_searchCost_44 : decode cX0_searchCost 44 = .ok (.if_icmp .ne 10, 3) := by decide +kernel
theorem dX0_searchCost_47 : decode cX0_searchCost 47 = .ok (.aload_n 1, 1) := by decide +kernel
theorem dX0_searchCost_48 : decode cX0_searchCost 48 = .ok (.getfield 113, 3) := by decide +kernel
theorem dX0_searchCost_51 : decode cX0_searchCost 51 = .ok (.goto 12, 3) := by decide +kernel
theorem dX0_searchCost_54 : decode cX0_searchCost 54 = .ok (.iload 4, 2) := by decide +kernel
theorem dX0_searchCost_56 : decode cX0_searchCost 56 = .ok (.iconst 1, 1) := by decide +kernel
theorem dX0_searchCost_57 : decode cX0_searchCost 57 = .ok (.iadd, 1) := by decide +kernel
theorem dX0_searchCost_58 : decode cX0_searchCost 58 = .ok (.aload_n 1, 1) := by decide +kernel
theorem dX0_searchCost_59 : decode cX0_searchCost 59 = .ok (.getfield 116, 3) := by decide +kernel
theorem dX0_searchCost_62 : decode cX0_searchCost 62 = .ok (.iadd, 1) := by decide +kernel
theorem dX0_searchCost_63 : decode cX0_searchCost 63 = .ok (.ireturn, 1) := by decide +kernel
theorem dX0_searchCost_64 : decode cX0_searchCost 64 = .ok (.aload_n 1, 1) := by decide +kernel
theorem dX0_searchCost_65 : decode cX0_searchCost 65 = .ok (.getfield 119, 3) := by decide +kernel
theorem dX0_searchCost_68 : decode cX0_searchCost 68 = .ok (.ireturn, 1) := by decide +kernel
theorem dX0_searchCost_69 : decode cX0_searchCost 69 = .ok (.aload_n 1, 1) := by decide +kernel
theorem dX0_searchCost_70 : decode cX0_searchCost 70 = .ok (.getfield 116, 3) := by decide +kernel
theorem dX0_searchCost_73 : decode cX0_searchCost 73 = .ok (.ireturn, 1) := by decide +kernel
theorem dX0_sizeOfParts_0 : decode cX0_sizeOfParts 0 = .ok (.aload_n 0, 1) := by decide +kernel
theorem dX0_sizeOfParts_1 : decode cX0_sizeOfParts 1 = .ok (.iload_n 1, 1) := by decide +kernel
theorem dX0_sizeOfParts_2 : decode cX0_sizeOfParts 2 = .ok (.invokevirtual 66, 3) := by decide +kernel
theorem dX0_sizeOfParts_5 : decode cX0_sizeOfParts 5 = .ok (.istore_n 3, 1) := by decide +kernel
theorem dX0_sizeOfParts_6 : decode cX0_sizeOfParts 6 = .ok (.aload_n 0, 1) := by decide +kernel
theorem dX0_sizeOfParts_7 : decode cX0_sizeOfParts 7 = .ok (.iload_n 3, 1) := by decide +kernel
theorem dX0_sizeOfParts_8 : decode cX0_sizeOfParts 8 = .ok (.iload_n 2, 1) := by decide +kernel
theorem dX0_sizeOfParts_9 : decode cX0_sizeOfParts 9 = .ok (.invokevirtual 69, 3) := by decide +kernel
theorem dX0_sizeOfParts_12 : decode cX0_sizeOfParts 12 = .ok (.aload_n 0, 1) := by decide +kernel
theorem dX0_sizeOfParts_13 : decode cX0_sizeOfParts 13 = .ok (.iload_n 1, 1) := by decide +kernel
theorem dX0_sizeOfParts_14 : decode cX0_sizeOfParts 14 = .ok (.invokevirtual 83, 3) := by decide +kernel
theorem dX0_sizeOfParts_17 : decode cX0_sizeOfParts 17 = .ok (.invokevirtual 89, 3) := by decide +kernel
theorem dX0_sizeOfParts_20 : decode cX0_sizeOfParts 20 = .ok (.aload_n 0, 1) := by decide +kernel
theorem dX0_sizeOfParts_21 : decode cX0_sizeOfParts 21 = .ok (.iload_n 3, 1) := by decide +kernel
theorem dX0_sizeOfParts_22 : decode cX0_sizeOfParts 22 = .ok (.iload_n 2, 1) := by decide +kernel
theorem dX0_sizeOfParts_23 : decode cX0_sizeOfParts 23 = .ok (.iadd, 1) := by decide +kernel
theorem dX0_sizeOfParts_24 : decode cX0_sizeOfParts 24 = .ok (.aload_n 0, 1) := by decide +kernel
theorem dX0_sizeOfParts_25 : decode cX0_sizeOfParts 25 = .ok (.iload_n 1, 1) := by decide +kernel
theorem dX0_sizeOfParts_26 : decode cX0_sizeOfParts 26 = .ok (.invokevirtual 47, 3) := by decide +kernel
theorem dX0_sizeOfParts_29 : decode cX0_sizeOfParts 29 = .ok (.iload_n 2, 1) := by decide +kernel
theorem dX0_sizeOfParts_30 : decode cX0_sizeOfParts 30 = .ok (.isub, 1) := by decide +kernel
theorem dX0_sizeOfParts_31 : decode cX0_sizeOfParts 31 = .ok (.invokevirtual 69, 3) := by decide +kernel
theorem dX0_sizeOfParts_34 : decode cX0_sizeOfParts 34 = .ok (.aload_n 0, 1) := by decide +kernel
theorem dX0_sizeOfParts_35 : decode cX0_sizeOfParts 35 = .ok (.iload_n 1, 1) := by decide +kernel
theorem dX0_sizeOfParts_36 : decode cX0_sizeOfParts 36 = .ok (.invokevirtual 83, 3) := by decide +kernel
theorem dX0_sizeOfParts_39 : decode cX0_sizeOfParts 39 = .ok (.invokevirtual 89, 3) := by decide +kernel
theorem dX0_sizeOfParts_42 : decode cX0_sizeOfParts 42 = .ok (.iadd, 1) := by decide +kernel
theorem dX0_sizeOfParts_43 : decode cX0_sizeOfParts 43 = .ok (.ireturn, 1) := by decide +kernel
theorem dX0_canJoin_0 : decode cX0_canJoin 0 = .ok (.aload_n 0, 1) := by decide +kernel
theorem dX0_canJoin_1 : decode cX0_canJoin 1 = .ok (.iload_n 1, 1) := by decide +kernel
theorem dX0_canJoin_2 : decode cX0_canJoin 2 = .ok (.invokevirtual 122, 3) := by decide +kernel
theorem dX0_canJoin_5 : decode cX0_canJoin 5 = .ok (.ifCond .eq 25, 3) := by decide +kernel
theorem dX0_canJoin_8 : decode cX0_canJoin 8 = .ok (.aload_n 0, 1) := by decide +kernel
theorem dX0_canJoin_9 : decode cX0_canJoin 9 = .ok (.iload_n 1, 1) := by decide +kernel
theorem dX0_canJoin_10 : decode cX0_canJoin 10 = .ok (.invokevirtual 47, 3) := by decide +kernel
theorem dX0_canJoin_13 : decode cX0_canJoin 13 = .ok (.aload_n 0, 1) := by decide +kernel
theorem dX0_canJoin_14 : decode cX0_canJoin 14 = .ok (.iload_n 1, 1) := by decide +kernel
theorem dX0_canJoin_15 : decode cX0_canJoin 15 = .ok (.iconst 1, 1) := by decide +kernel
theorem dX0_canJoin_16 : decode cX0_canJoin 16 = .ok (.iadd, 1) := by decide +kernel
theorem dX0_canJoin_17 : decode cX0_canJoin 17 = .ok (.invokevirtual 47, 3) := by decide +kernel
theorem dX0_canJoin_20 : decode cX0_canJoin 20 = .ok (.iadd, 1) := by decide +kernel
theorem dX0_canJoin_21 : decode cX0_canJoin 21 = .ok (.bipush 12, 2) := by decide +kernel
theorem dX0_canJoin_23 : decode cX0_canJoin 23 = .ok (.if_icmp .gt 7, 3) := by decide +kernel
theorem dX0_canJoin_26 : decode cX0_canJoin 26 = .ok (.iconst 1, 1) := by decide +kernel
theorem dX0_canJoin_27 : decode cX0_canJoin 27 = .ok (.goto 4, 3) := by decide +kernel
theorem dX0_canJoin_30 : decode cX0_canJoin 30 = .ok (.iconst 0, 1) := by decide +kernel
theorem dX0_canJoin_31 : decode cX0_canJoin 31 = .ok (.ireturn, 1) := by decide +kernel
theorem dX0_joinedPin_0 : decode cX0_joinedPin 0 = .ok (.aload_n 0, 1) := by decide +kernel
theorem dX0_joinedPin_1 : decode cX0_joinedPin 1 = .ok (.iload_n 1, 1) := by decide +kernel
theorem dX0_joinedPin_2 : decode cX0_joinedPin 2 = .ok (.invokevirtual 83, 3) := by decide +kernel
theorem dX0_joinedPin_5 : decode cX0_joinedPin 5 = .ok (.aload_n 0, 1) := by decide +kernel
theorem dX0_joinedPin_6 : decode cX0_joinedPin 6 = .ok (.iload_n 1, 1) := by decide +kernel
theorem dX0_joinedPin_7 : decode cX0_joinedPin 7 = .ok (.iconst 1, 1) := by decide +kernel
theorem dX0_joinedPin_8 : decode cX0_joinedPin 8 = .ok (.iadd, 1) := by decide +kernel
theorem dX0_joinedPin_9 : decode cX0_joinedPin 9 = .ok (.invokevirtual 83, 3) := by decide +kernel
theorem dX0_joinedPin_12 : decode cX0_joinedPin 12 = .ok (.if_icmp .ne 11, 3) := by decide +kernel
theorem dX0_joinedPin_15 : decode cX0_joinedPin 15 = .ok (.aload_n 0, 1) := by decide +kernel
theorem dX0_joinedPin_16 : decode cX0_joinedPin 16 = .ok (.iload_n 1, 1) := by decide +kernel
theorem dX0_joinedPin_17 : decode cX0_joinedPin 17 = .ok (.invokevirtual 83, 3) := by decide +kernel
theorem dX0_joinedPin_20 : decode cX0_joinedPin 20 = .ok (.goto 6, 3) := by decide +kernel
theorem dX0_joinedPin_23 : decode cX0_joinedPin 23 = .ok (.sipush (-9999), 3) := by decide +kernel
theorem dX0_joinedPin_26 : decode cX0_joinedPin 26 = .ok (.ireturn, 1) := by decide +kernel
theorem dX0_savedByJoin_0 : decode cX0_savedByJoin 0 = .ok (.aload_n 0, 1) := by decide +kernel
theorem dX0_savedByJoin_1 : decode cX0_savedByJoin 1 = .ok (.iload_n 1, 1) := by decide +kernel
theorem dX0_savedByJoin_2 : decode cX0_savedByJoin 2 = .ok (.invokevirtual 126, 3) := by decide +kernel
theorem dX0_savedByJoin_5 : decode cX0_savedByJoin 5 = .ok (.ifCond .ne 7, 3) := by decide +kernel
theorem dX0_savedByJoin_8 : decode cX0_savedByJoin 8 = .ok (.sipush (-9999), 3) := by decide +kernel
theorem dX0_savedByJoin_11 : decode cX0_savedByJoin 11 = .ok (.ireturn, 1) := by decide +kernel
theorem dX0_savedByJoin_12 : decode cX0_savedByJoin 12 = .ok (.aload_n 0, 1) := by decide +kernel
theorem dX0_savedByJoin_13 : decode cX0_savedByJoin 13 = .ok (.iload_n 1, 1) := by decide +kernel
theorem dX0_savedByJoin_14 : decode cX0_savedByJoin 14 = .ok (.invokevirtual 66, 3) := by decide +kernel
theorem dX0_savedByJoin_17 : decode cX0_savedByJoin 17 = .ok (.istore_n 2, 1) := by decide +kernel
theorem dX0_savedByJoin_18 : decode cX0_savedByJoin 18 = .ok (.aload_n 0, 1) := by decide +kernel
theorem dX0_savedByJoin_19 : decode cX0_savedByJoin 19 = .ok (.iload_n 1, 1) := by decide +kernel
theorem dX0_savedByJoin_20 : decode cX0_savedByJoin 20 = .ok (.invokevirtual 47, 3) := by decide +kernel
theorem dX0_savedByJoin_23 : decode cX0_savedByJoin 23 = .ok (.istore_n 3, 1) := by decide +kernel
theorem dX0_savedByJoin_24 : decode cX0_savedByJoin 24 = .ok (.aload_n 0, 1) := by decide +kernel
theorem dX0_savedByJoin_25 : decode cX0_savedByJoin 25 = .ok (.iload_n 1, 1) := by decide +kernel
theorem dX0_savedByJoin_26 : decode cX0_savedByJoin 26 = .ok (.iconst 1, 1) := by decide +kernel
theorem dX0_savedByJoin_27 : decode cX0_savedByJoin 27 = .ok (.iadd, 1) := by decide +kernel
theorem dX0_savedByJoin_28 : decode cX0_savedByJoin 28 = .ok (.invokevirtual 47, 3) := by decide +kernel
theorem dX0_savedByJoin_31 : decode cX0_savedByJoin 31 = .ok (.istore 4, 2) := by decide +kernel
theorem dX0_savedByJoin_33 : decode cX0_savedByJoin 33 = .ok (.aload_n 0, 1) := by decide +kernel
theorem dX0_savedByJoin_34 : decode cX0_savedByJoin 34 = .ok (.iload_n 2, 1) := by decide +kernel
theorem dX0_savedByJoin_35 : decode cX0_savedByJoin 35 = .ok (.iload_n 3, 1) := by decide +kernel
theorem dX0_savedByJoin_36 : decode cX0_savedByJoin 36 = .ok (.invokevirtual 69, 3) := by decide +kernel
theorem dX0_savedByJoin_39 : decode cX0_savedByJoin 39 = .ok (.aload_n 0, 1) := by decide +kernel
theorem dX0_savedByJoin_40 : decode cX0_savedByJoin 40 = .ok (.iload_n 1, 1) := by decide +kernel
theorem dX0_savedByJoin_41 : decode cX0_savedByJoin 41 = .ok (.invokevirtual 83, 3) := by decide +kernel
theorem dX0_savedByJoin_44 : decode cX0_savedByJoin 44 = .ok (.invokevirtual 89, 3) := by decide +kernel
theorem dX0_savedByJoin_47 : decode cX0_savedByJoin 47 = .ok (.aload_n 0, 1) := by decide +kernel
theorem dX0_savedByJoin_48 : decode cX0_savedByJoin 48 = .ok (.iload_n 2, 1) := by decide +kernel
theorem dX0_savedByJoin_49 : decode cX0_savedByJoin 49 = .ok (.iload_n 3, 1) := by decide +kernel
theorem dX0_savedByJoin_50 : decode cX0_savedByJoin 50 = .ok (.iadd, 1) := by decide +kernel
theorem dX0_savedByJoin_51 : decode cX0_savedByJoin 51 = .ok (.iload 4, 2) := by decide +kernel
theorem dX0_savedByJoin_53 : decode cX0_savedByJoin 53 = .ok (.invokevirtual 69, 3) := by decide +kernel
theorem dX0_savedByJoin_56 : decode cX0_savedByJoin 56 = .ok (.aload_n 0, 1) := by decide +kernel
theorem dX0_savedByJoin_57 : decode cX0_savedByJoin 57 = .ok (.iload_n 1, 1) := by decide +kernel
theorem dX0_savedByJoin_58 : decode cX0_savedByJoin 58 = .ok (.iconst 1, 1) := by decide +kernel
theorem dX0_savedByJoin_59 : decode cX0_savedByJoin 59 = .ok (.iadd, 1) := by decide +kernel
theorem dX0_savedByJoin_60 : decode cX0_savedByJoin 60 = .ok (.invokevirtual 83, 3) := by decide +kernel
theorem dX0_savedByJoin_63 : decode cX0_savedByJoin 63 = .ok (.invokevirtual 89, 3) := by decide +kernel
theorem dX0_savedByJoin_66 : decode cX0_savedByJoin 66 = .ok (.iadd, 1) := by decide +kernel
theorem dX0_savedByJoin_67 : decode cX0_savedByJoin 67 = .ok (.aload_n 0, 1) := by decide +kernel
theorem dX0_savedByJoin_68 : decode cX0_savedByJoin 68 = .ok (.iload_n 2, 1) := by decide +kernel
theorem dX0_savedByJoin_69 : decode cX0_savedByJoin 69 = .ok (.iload_n 3, 1) := by decide +kernel
theorem dX0_savedByJoin_70 : decode cX0_savedByJoin 70 = .ok (.iload 4, 2) := by decide +kernel
theorem dX0_savedByJoin_72 : decode cX0_savedByJoin 72 = .ok (.iadd, 1) := by decide +kernel
theorem dX0_savedByJoin_73 : decode cX0_savedByJoin 73 = .ok (.invokevirtual 69, 3) := by decide +kernel
theorem dX0_savedByJoin_76 : decode cX0_savedByJoin 76 = .ok (.aload_n 0, 1) := by decide +kernel
theorem dX0_savedByJoin_77 : decode cX0_savedByJoin 77 = .ok (.iload_n 1, 1) := by decide +kernel
theorem dX0_savedByJoin_78 : decode cX0_savedByJoin 78 = .ok (.invokevirtual 129, 3) := by decide +kernel
theorem dX0_savedByJoin_81 : decode cX0_savedByJoin 81 = .ok (.invokevirtual 89, 3) := by decide +kernel
theorem dX0_savedByJoin_84 : decode cX0_savedByJoin 84 = .ok (.isub, 1) := by decide +kernel
theorem dX0_savedByJoin_85 : decode cX0_savedByJoin 85 = .ok (.ireturn, 1) := by decide +kernel
theorem dX0_lastPageHasRoom_0 : decode cX0_lastPageHasRoom 0 = .ok (.aload_n 0, 1) := by decide +kernel
theorem dX0_lastPageHasRoom_1 : decode cX0_lastPageHasRoom 1 = .ok (.getfield 44, 3) := by decide +kernel
theorem dX0_lastPageHasRoom_4 : decode cX0_lastPageHasRoom 4 = .ok (.ifCond .le 24, 3) := by decide +kernel
theorem dX0_lastPageHasRoom_7 : decode cX0_lastPageHasRoom 7 = .ok (.aload_n 0, 1) := by decide +kernel
theorem dX0_lastPageHasRoom_8 : decode cX0_lastPageHasRoom 8 = .ok (.aload_n 0, 1) := by decide +kernel
theorem dX0_lastPageHasRoom_9 : decode cX0_lastPageHasRoom 9 = .ok (.getfield 44, 3) := by decide +kernel
theorem dX0_lastPageHasRoom_12 : decode cX0_lastPageHasRoom 12 = .ok (.iconst 1, 1) := by decide +kernel
theorem dX0_lastPageHasRoom_13 : decode cX0_lastPageHasRoom 13 = .ok (.isub, 1) := by decide +kernel
theorem dX0_lastPageHasRoom_14 : decode cX0_lastPageHasRoom 14 = .ok (.invokevirtual 47, 3) := by decide +kernel
theorem dX0_lastPageHasRoom_17 : decode cX0_lastPageHasRoom 17 = .ok (.aload_n 0, 1) := by decide +kernel
theorem dX0_lastPageHasRoom_18 : decode cX0_lastPageHasRoom 18 = .ok (.getfield 33, 3) := by decide +kernel
theorem dX0_lastPageHasRoom_21 : decode cX0_lastPageHasRoom 21 = .ok (.if_icmp .ge 7, 3) := by decide +kernel
theorem dX0_lastPageHasRoom_24 : decode cX0_lastPageHasRoom 24 = .ok (.iconst 1, 1) := by decide +kernel
theorem dX0_lastPageHasRoom_25 : decode cX0_lastPageHasRoom 25 = .ok (.goto 4, 3) := by decide +kernel
theorem dX0_lastPageHasRoom_28 : decode cX0_lastPageHasRoom 28 = .ok (.iconst 0, 1) := by decide +kernel
theorem dX0_lastPageHasRoom_29 : decode cX0_lastPageHasRoom 29 = .ok (.ireturn, 1) := by decide +kernel
theorem dX0_canAppend_0 : decode cX0_canAppend 0 = .ok (.aload_n 0, 1) := by decide +kernel
theorem dX0_canAppend_1 : decode cX0_canAppend 1 = .ok (.invokevirtual 132, 3) := by decide +kernel
theorem dX0_canAppend_4 : decode cX0_canAppend 4 = .ok (.ifCond .ne 10, 3) := by decide +kernel
theorem dX0_canAppend_7 : decode cX0_canAppend 7 = .ok (.aload_n 0, 1) := by decide +kernel
theorem dX0_canAppend_8 : decode cX0_canAppend 8 = .ok (.invokevirtual 136, 3) := by decide +kernel
theorem dX0_canAppend_11 : decode cX0_canAppend 11 = .ok (.ifCond .ne 7, 3) := by decide +kernel
theorem dX0_canAppend_14 : decode cX0_canAppend 14 = .ok (.iconst 1, 1) := by decide +kernel
theorem dX0_canAppend_15 : decode cX0_canAppend 15 = .ok (.goto 4, 3) := by decide +kernel
theorem dX0_canAppend_18 : decode cX0_canAppend 18 = .ok (.iconst 0, 1) := by decide +kernel
theorem dX0_canAppend_19 : decode cX0_canAppend 19 = .ok (.ireturn, 1) := by decide +kernel
theorem dX0_appendValue_0 : decode cX0_appendValue 0 = .ok (.aload_n 0, 1) := by decide +kernel
theorem dX0_appendValue_1 : decode cX0_appendValue 1 = .ok (.invokevirtual 132, 3) := by decide +kernel
theorem dX0_appendValue_4 : decode cX0_appendValue 4 = .ok (.ifCond .ne 15, 3) := by decide +kernel
theorem dX0_appendValue_7 : decode cX0_appendValue 7 = .ok (.aload_n 0, 1) := by decide +kernel
theorem dX0_appendValue_8 : decode cX0_appendValue 8 = .ok (.aload_n 0, 1) := by decide +kernel
theorem dX0_appendValue_9 : decode cX0_appendValue 9 = .ok (.getfield 44, 3) := by decide +kernel
theorem dX0_appendValue_12 : decode cX0_appendValue 12 = .ok (.iconst 0, 1) := by decide +kernel
theorem dX0_appendValue_13 : decode cX0_appendValue 13 = .ok (.sipush (-9999), 3) := by decide +kernel
theorem dX0_appendValue_16 : decode cX0_appendValue 16 = .ok (.invokevirtual 139, 3) := by decide +kernel
theorem dX0_appendValue_19 : decode cX0_appendValue 19 = .ok (.aload_n 0, 1) := by decide +kernel
theorem dX0_appendValue_20 : decode cX0_appendValue 20 = .ok (.getfield 44, 3) := by decide +kernel
theorem dX0_appendValue_23 : decode cX0_appendValue 23 = .ok (.iconst 1, 1) := by decide +kernel
theorem dX0_appendValue_24 : decode cX0_appendValue 24 = .ok (.isub, 1) := by decide +kernel
theorem dX0_appendValue_25 : decode cX0_appendValue 25 = .ok (.istore_n 2, 1) := by decide +kernel
theorem dX0_appendValue_26 : decode cX0_appendValue 26 = .ok (.aload_n 0, 1) := by decide +kernel
theorem dX0_appendValue_27 : decode cX0_appendValue 27 = .ok (.getfield 14, 3) := by decide +kernel
theorem dX0_appendValue_30 : decode cX0_appendValue 30 = .ok (.aload_n 0, 1) := by decide +kernel
theorem dX0_appendValue_31 : decode cX0_appendValue 31 = .ok (.getfield 41, 3) := by decide +kernel
theorem dX0_appendValue_34 : decode cX0_appendValue 34 = .ok (.iload_n 1, 1) := by decide +kernel
theorem dX0_appendValue_35 : decode cX0_appendValue 35 = .ok (.invokevirtual 143, 3) := by decide +kernel
theorem dX0_appendValue_38 : decode cX0_appendValue 38 = .ok (.aload_n 0, 1) := by decide +kernel
theorem dX0_appendValue_39 : decode cX0_appendValue 39 = .ok (.dup, 1) := by decide +kernel
theorem dX0_appendValue_40 : decode cX0_appendValue 40 = .ok (.getfield 41, 3) := by decide +kernel
theorem dX0_appendValue_43 : decode cX0_appendValue 43 = .ok (.iconst 1, 1) := by decide +kernel
theorem dX0_appendValue_44 : decode cX0_appendValue 44 = .ok (.iadd, 1) := by decide +kernel
theorem dX0_appendValue_45 : decode cX0_appendValue 45 = .ok (.putfield 41, 3) := by decide +kernel
theorem dX0_appendValue_48 : decode cX0_appendValue 48 = .ok (.aload_n 0, 1) := by decide +kernel
theorem dX0_appendValue_49 : decode cX0_appendValue 49 = .ok (.getfield 20, 3) := by decide +kernel
theorem dX0_appendValue_52 : decode cX0_appendValue 52 = .ok (.iload_n 2, 1) := by decide +kernel
theorem dX0_appendValue_53 : decode cX0_appendValue 53 = .ok (.aload_n 0, 1) := by decide +kernel
theorem dX0_appendValue_54 : decode cX0_appendValue 54 = .ok (.iload_n 2, 1) := by decide +kernel
theorem dX0_appendValue_55 : decode cX0_appendValue 55 = .ok (.invokevirtual 47, 3) := by decide +kernel
theorem dX0_appendValue_58 : decode cX0_appendValue 58 = .ok (.iconst 1, 1) := by decide +kernel
theorem dX0_appendValue_59 : decode cX0_appendValue 59 = .ok (.iadd, 1) := by decide +kernel
theorem dX0_appendValue_60 : decode cX0_appendValue 60 = .ok (.invokevirtual 143, 3) := by decide +kernel
theorem dX0_appendValue_63 : decode cX0_appendValue 63 = .ok (.iload_n 2, 1) := by decide +kernel
theorem dX0_appendValue_64 : decode cX0_appendValue 64 = .ok (.ireturn, 1) := by decide +kernel
theorem dX0_appendPage_0 : decode cX0_appendPage 0 = .ok (.aload_n 0, 1) := by decide +kernel
theorem dX0_appendPage_1 : decode cX0_appendPage 1 = .ok (.aload_n 0, 1) := by decide +kernel
theorem dX0_appendPage_2 : decode cX0_appendPage 2 = .ok (.getfield 44, 3) := by decide +kernel
theorem dX0_appendPage_5 : decode cX0_appendPage 5 = .ok (.iload_n 2, 1) := by decide +kernel
theorem dX0_appendPage_6 : decode cX0_appendPage 6 = .ok (.sipush (-9999), 3) := by decide +kernel
theorem dX0_appendPage_9 : decode cX0_appendPage 9 = .ok (.invokevirtual 139, 3) := by decide +kernel
theorem dX0_appendPage_12 : decode cX0_appendPage 12 = .ok (.iconst 0, 1) := by decide +kernel
theorem dX0_appendPage_13 : decode cX0_appendPage 13 = .ok (.istore_n 3, 1) := by decide +kernel
theorem dX0_appendPage_14 : decode cX0_appendPage 14 = .ok (.iload_n 3, 1) := by decide +kernel
theorem dX0_appendPage_15 : decode cX0_appendPage 15 = .ok (.iload_n 2, 1) := by decide +kernel
theorem dX0_appendPage_16 : decode cX0_appendPage 16 = .ok (.if_icmp .ge 41, 3) := by decide +kernel
theorem dX0_appendPage_19 : decode cX0_appendPage 19 = .ok (.iload_n 3, 1) := by decide +kernel
theorem dX0_appendPage_20 : decode cX0_appendPage 20 = .ok (.bipush 12, 2) := by decide +kernel
theorem dX0_appendPage_22 : decode cX0_appendPage 22 = .ok (.if_icmp .ge 35, 3) := by decide +kernel
theorem dX0_appendPage_25 : decode cX0_appendPage 25 = .ok (.aload_n 0, 1) := by decide +kernel
theorem dX0_appendPage_26 : decode cX0_appendPage 26 = .ok (.getfield 14, 3) := by decide +kernel
theorem dX0_appendPage_29 : decode cX0_appendPage 29 = .ok (.aload_n 0, 1) := by decide +kernel
theorem dX0_appendPage_30 : decode cX0_appendPage 30 = .ok (.getfield 41, 3) := by decide +kernel
theorem dX0_appendPage_33 : decode cX0_appendPage 33 = .ok (.aload_n 1, 1) := by decide +kernel
theorem dX0_appendPage_34 : decode cX0_appendPage 34 = .ok (.iload_n 3, 1) := by decide +kernel
theorem dX0_appendPage_35 : decode cX0_appendPage 35 = .ok (.invokevirtual 51, 3) := by decide +kernel
theorem dX0_appendPage_38 : decode cX0_appendPage 38 = .ok (.invokevirtual 143, 3) := by decide +kernel
theorem dX0_appendPage_41 : decode cX0_appendPage 41 = .ok (.aload_n 0, 1) := by decide +kernel
theorem dX0_appendPage_42 : decode cX0_appendPage 42 = .ok (.dup, 1) := by decide +kernel
theorem dX0_appendPage_43 : decode cX0_appendPage 43 = .ok (.getfield 41, 3) := by decide +kernel
theorem dX0_appendPage_46 : decode cX0_appendPage 46 = .ok (.iconst 1, 1) := by decide +kernel
theorem dX0_appendPage_47 : decode cX0_appendPage 47 = .ok (.iadd, 1) := by decide +kernel
theorem dX0_appendPage_48 : decode cX0_appendPage 48 = .ok (.putfield 41, 3) := by decide +kernel
theorem dX0_appendPage_51 : decode cX0_appendPage 51 = .ok (.iinc 3 1, 3) := by decide +kernel
theorem dX0_appendPage_54 : decode cX0_appendPage 54 = .ok (.goto (-40), 3) := by decide +kernel
theorem dX0_appendPage_57 : decode cX0_appendPage 57 = .ok (.aload_n 0, 1) := by decide +kernel
theorem dX0_appendPage_58 : decode cX0_appendPage 58 = .ok (.getfield 44, 3) := by decide +kernel
theorem dX0_appendPage_61 : decode cX0_appendPage 61 = .ok (.iconst 1, 1) := by decide +kernel
theorem dX0_appendPage_62 : decode cX0_appendPage 62 = .ok (.isub, 1) := by decide +kernel
theorem dX0_appendPage_63 : decode cX0_appendPage 63 = .ok (.ireturn, 1) := by decide +kernel
theorem dX0_openPage_0 : decode cX0_openPage 0 = .ok (.aload_n 0, 1) := by decide +kernel
theorem dX0_openPage_1 : decode cX0_openPage 1 = .ok (.getfield 20, 3) := by decide +kernel
theorem dX0_openPage_4 : decode cX0_openPage 4 = .ok (.iload_n 1, 1) := by decide +kernel
theorem dX0_openPage_5 : decode cX0_openPage 5 = .ok (.iload_n 2, 1) := by decide +kernel
theorem dX0_openPage_6 : decode cX0_openPage 6 = .ok (.invokevirtual 147, 3) := by decide +kernel
theorem dX0_openPage_9 : decode cX0_openPage 9 = .ok (.aload_n 0, 1) := by decide +kernel
theorem dX0_openPage_10 : decode cX0_openPage 10 = .ok (.getfield 23, 3) := by decide +kernel
theorem dX0_openPage_13 : decode cX0_openPage 13 = .ok (.iload_n 1, 1) := by decide +kernel
theorem dX0_openPage_14 : decode cX0_openPage 14 = .ok (.iload_n 3, 1) := by decide +kernel
theorem dX0_openPage_15 : decode cX0_openPage 15 = .ok (.invokevirtual 147, 3) := by decide +kernel
theorem dX0_openPage_18 : decode cX0_openPage 18 = .ok (.aload_n 0, 1) := by decide +kernel
theorem dX0_openPage_19 : decode cX0_openPage 19 = .ok (.dup, 1) := by decide +kernel
theorem dX0_openPage_20 : decode cX0_openPage 20 = .ok (.getfield 44, 3) := by decide +kernel
theorem dX0_openPage_23 : decode cX0_openPage 23 = .ok (.iconst 1, 1) := by decide +kernel
theorem dX0_openPage_24 : decode cX0_openPage 24 = .ok (.iadd, 1) := by decide +kernel
theorem dX0_openPage_25 : decode cX0_openPage 25 = .ok (.putfield 44, 3) := by decide +kernel
theorem dX0_openPage_28 : decode cX0_openPage 28 = .ok (.return_, 1) := by decide +kernel
theorem dX0_closePage_0 : decode cX0_closePage 0 = .ok (.aload_n 0, 1) := by decide +kernel
theorem dX0_closePage_1 : decode cX0_closePage 1 = .ok (.getfield 20, 3) := by decide +kernel
theorem dX0_closePage_4 : decode cX0_closePage 4 = .ok (.iload_n 1, 1) := by decide +kernel
theorem dX0_closePage_5 : decode cX0_closePage 5 = .ok (.invokevirtual 150, 3) := by decide +kernel
theorem dX0_closePage_8 : decode cX0_closePage 8 = .ok (.aload_n 0, 1) := by decide +kernel
theorem dX0_closePage_9 : decode cX0_closePage 9 = .ok (.getfield 23, 3) := by decide +kernel
theorem dX0_closePage_12 : decode cX0_closePage 12 = .ok (.iload_n 1, 1) := by decide +kernel
theorem dX0_closePage_13 : decode cX0_closePage 13 = .ok (.invokevirtual 150, 3) := by decide +kernel
theorem dX0_closePage_16 : decode cX0_closePage 16 = .ok (.aload_n 0, 1) := by decide +kernel
theorem dX0_closePage_17 : decode cX0_closePage 17 = .ok (.dup, 1) := by decide +kernel
theorem dX0_closePage_18 : decode cX0_closePage 18 = .ok (.getfield 44, 3) := by decide +kernel
theorem dX0_closePage_21 : decode cX0_closePage 21 = .ok (.iconst 1, 1) := by decide +kernel
theorem dX0_closePage_22 : decode cX0_closePage 22 = .ok (.isub, 1) := by decide +kernel
theorem dX0_closePage_23 : decode cX0_closePage 23 = .ok (.putfield 44, 3) := by decide +kernel
theorem dX0_closePage_26 : decode cX0_closePage 26 = .ok (.return_, 1) := by decide +kernel
theorem dX0_changeValue_0 : decode cX0_changeValue 0 = .ok (.aload_n 0, 1) := by decide +kernel
theorem dX0_changeValue_1 : decode cX0_changeValue 1 = .ok (.getfield 14, 3) := by decide +kernel
theorem dX0_changeValue_4 : decode cX0_changeValue 4 = .ok (.iload_n 1, 1) := by decide +kernel
theorem dX0_changeValue_5 : decode cX0_changeValue 5 = .ok (.invokevirtual 51, 3) := by decide +kernel
theorem dX0_changeValue_8 : decode cX0_changeValue 8 = .ok (.istore_n 3, 1) := by decide +kernel
theorem dX0_changeValue_9 : decode cX0_changeValue 9 = .ok (.aload_n 0, 1) := by decide +kernel
theorem dX0_changeValue_10 : decode cX0_changeValue 10 = .ok (.getfield 14, 3) := by decide +kernel
theorem dX0_changeValue_13 : decode cX0_changeValue 13 = .ok (.iload_n 1, 1) := by decide +kernel
theorem dX0_changeValue_14 : decode cX0_changeValue 14 = .ok (.iload_n 2, 1) := by decide +kernel
theorem dX0_changeValue_15 : decode cX0_changeValue 15 = .ok (.invokevirtual 143, 3) := by decide +kernel
theorem dX0_changeValue_18 : decode cX0_changeValue 18 = .ok (.iload_n 3, 1) := by decide +kernel
theorem dX0_changeValue_19 : decode cX0_changeValue 19 = .ok (.ireturn, 1) := by decide +kernel
theorem dX0_dropValue_0 : decode cX0_dropValue 0 = .ok (.aload_n 0, 1) := by decide +kernel
theorem dX0_dropValue_1 : decode cX0_dropValue 1 = .ok (.iload_n 1, 1) := by decide +kernel
theorem dX0_dropValue_2 : decode cX0_dropValue 2 = .ok (.invokevirtual 153, 3) := by decide +kernel
theorem dX0_dropValue_5 : decode cX0_dropValue 5 = .ok (.istore_n 2, 1) := by decide +kernel
theorem dX0_dropValue_6 : decode cX0_dropValue 6 = .ok (.aload_n 0, 1) := by decide +kernel
theorem dX0_dropValue_7 : decode cX0_dropValue 7 = .ok (.getfield 14, 3) := by decide +kernel
theorem dX0_dropValue_10 : decode cX0_dropValue 10 = .ok (.iload_n 1, 1) := by decide +kernel
theorem dX0_dropValue_11 : decode cX0_dropValue 11 = .ok (.invokevirtual 51, 3) := by decide +kernel
theorem dX0_dropValue_14 : decode cX0_dropValue 14 = .ok (.istore_n 3, 1) := by decide +kernel
theorem dX0_dropValue_15 : decode cX0_dropValue 15 = .ok (.aload_n 0, 1) := by decide +kernel
theorem dX0_dropValue_16 : decode cX0_dropValue 16 = .ok (.getfield 14, 3) := by decide +kernel
theorem dX0_dropValue_19 : decode cX0_dropValue 19 = .ok (.iload_n 1, 1) := by decide +kernel
theorem dX0_dropValue_20 : decode cX0_dropValue 20 = .ok (.invokevirtual 150, 3) := by decide +kernel
theorem dX0_dropValue_23 : decode cX0_dropValue 23 = .ok (.aload_n 0, 1) := by decide +kernel
theorem dX0_dropValue_24 : decode cX0_dropValue 24 = .ok (.dup, 1) := by decide +kernel
theorem dX0_dropValue_25 : decode cX0_dropValue 25 = .ok (.getfield 41, 3) := by decide +kernel
theorem dX0_dropValue_28 : decode cX0_dropValue 28 = .ok (.iconst 1, 1) := by decide +kernel
theorem dX0_dropValue_29 : decode cX0_dropValue 29 = .ok (.isub, 1) := by decide +kernel
theorem dX0_dropValue_30 : decode cX0_dropValue 30 = .ok (.putfield 41, 3) := by decide +kernel
theorem dX0_dropValue_33 : decode cX0_dropValue 33 = .ok (.aload_n 0, 1) := by decide +kernel
theorem dX0_dropValue_34 : decode cX0_dropValue 34 = .ok (.getfield 20, 3) := by decide +kernel
theorem dX0_dropValue_37 : decode cX0_dropValue 37 = .ok (.iload_n 2, 1) := by decide +kernel
theorem dX0_dropValue_38 : decode cX0_dropValue 38 = .ok (.aload_n 0, 1) := by decide +kernel
theorem dX0_dropValue_39 : decode cX0_dropValue 39 = .ok (.iload_n 2, 1) := by decide +kernel
theorem dX0_dropValue_40 : decode cX0_dropValue 40 = .ok (.invokevirtual 47, 3) := by decide +kernel
theorem dX0_dropValue_43 : decode cX0_dropValue 43 = .ok (.iconst 1, 1) := by decide +kernel
theorem dX0_dropValue_44 : decode cX0_dropValue 44 = .ok (.isub, 1) := by decide +kernel
theorem dX0_dropValue_45 : decode cX0_dropValue 45 = .ok (.invokevirtual 143, 3) := by decide +kernel
theorem dX0_dropValue_48 : decode cX0_dropValue 48 = .ok (.aload_n 0, 1) := by decide +kernel
theorem dX0_dropValue_49 : decode cX0_dropValue 49 = .ok (.iload_n 2, 1) := by decide +kernel
theorem dX0_dropValue_50 : decode cX0_dropValue 50 = .ok (.invokevirtual 47, 3) := by decide +kernel
theorem dX0_dropValue_53 : decode cX0_dropValue 53 = .ok (.ifCond .ne 8, 3) := by decide +kernel
theorem dX0_dropValue_56 : decode cX0_dropValue 56 = .ok (.aload_n 0, 1) := by decide +kernel
theorem dX0_dropValue_57 : decode cX0_dropValue 57 = .ok (.iload_n 2, 1) := by decide +kernel
theorem dX0_dropValue_58 : decode cX0_dropValue 58 = .ok (.invokevirtual 156, 3) := by decide +kernel
theorem dX0_dropValue_61 : decode cX0_dropValue 61 = .ok (.iload_n 3, 1) := by decide +kernel
theorem dX0_dropValue_62 : decode cX0_dropValue 62 = .ok (.ireturn, 1) := by decide +kernel
theorem dX0_splitPage_0 : decode cX0_splitPage 0 = .ok (.aload_n 0, 1) := by decide +kernel
theorem dX0_splitPage_1 : decode cX0_splitPage 1 = .ok (.iload_n 1, 1) := by decide +kernel
theorem dX0_splitPage_2 : decode cX0_splitPage 2 = .ok (.iconst 1, 1) := by decide +kernel
theorem dX0_splitPage_3 : decode cX0_splitPage 3 = .ok (.iadd, 1) := by decide +kernel
theorem dX0_splitPage_4 : decode cX0_splitPage 4 = .ok (.aload_n 0, 1) := by decide +kernel
theorem dX0_splitPage_5 : decode cX0_splitPage 5 = .ok (.iload_n 1, 1) := by decide +kernel
theorem dX0_splitPage_6 : decode cX0_splitPage 6 = .ok (.invokevirtual 47, 3) := by decide +kernel
theorem dX0_splitPage_9 : decode cX0_splitPage 9 = .ok (.iload_n 2, 1) := by decide +kernel
theorem dX0_splitPage_10 : decode cX0_splitPage 10 = .ok (.isub, 1) := by decide +kernel
theorem dX0_splitPage_11 : decode cX0_splitPage 11 = .ok (.aload_n 0, 1) := by decide +kernel
theorem dX0_splitPage_12 : decode cX0_splitPage 12 = .ok (.iload_n 1, 1) := by decide +kernel
theorem dX0_splitPage_13 : decode cX0_splitPage 13 = .ok (.invokevirtual 83, 3) := by decide +kernel
theorem dX0_splitPage_16 : decode cX0_splitPage 16 = .ok (.invokevirtual 139, 3) := by decide +kernel
theorem dX0_splitPage_19 : decode cX0_splitPage 19 = .ok (.aload_n 0, 1) := by decide +kernel
theorem dX0_splitPage_20 : decode cX0_splitPage 20 = .ok (.getfield 20, 3) := by decide +kernel
theorem dX0_splitPage_23 : decode cX0_splitPage 23 = .ok (.iload_n 1, 1) := by decide +kernel
theorem dX0_splitPage_24 : decode cX0_splitPage 24 = .ok (.iload_n 2, 1) := by decide +kernel
theorem dX0_splitPage_25 : decode cX0_splitPage 25 = .ok (.invokevirtual 143, 3) := by decide +kernel
theorem dX0_splitPage_28 : decode cX0_splitPage 28 = .ok (.return_, 1) := by decide +kernel
theorem dX0_joinPages_0 : decode cX0_joinPages 0 = .ok (.aload_n 0, 1) := by decide +kernel
theorem dX0_joinPages_1 : decode cX0_joinPages 1 = .ok (.getfield 23, 3) := by decide +kernel
theorem dX0_joinPages_4 : decode cX0_joinPages 4 = .ok (.iload_n 1, 1) := by decide +kernel
theorem dX0_joinPages_5 : decode cX0_joinPages 5 = .ok (.aload_n 0, 1) := by decide +kernel
theorem dX0_joinPages_6 : decode cX0_joinPages 6 = .ok (.iload_n 1, 1) := by decide +kernel
theorem dX0_joinPages_7 : decode cX0_joinPages 7 = .ok (.invokevirtual 129, 3) := by decide +kernel
theorem dX0_joinPages_10 : decode cX0_joinPages 10 = .ok (.invokevirtual 143, 3) := by decide +kernel
theorem dX0_joinPages_13 : decode cX0_joinPages 13 = .ok (.aload_n 0, 1) := by decide +kernel
theorem dX0_joinPages_14 : decode cX0_joinPages 14 = .ok (.getfield 20, 3) := by decide +kernel
theorem dX0_joinPages_17 : decode cX0_joinPages 17 = .ok (.iload_n 1, 1) := by decide +kernel
theorem dX0_joinPages_18 : decode cX0_joinPages 18 = .ok (.aload_n 0, 1) := by decide +kernel
theorem dX0_joinPages_19 : decode cX0_joinPages 19 = .ok (.iload_n 1, 1) := by decide +kernel
theorem dX0_joinPages_20 : decode cX0_joinPages 20 = .ok (.invokevirtual 47, 3) := by decide +kernel
theorem dX0_joinPages_23 : decode cX0_joinPages 23 = .ok (.aload_n 0, 1) := by decide +kernel
theorem dX0_joinPages_24 : decode cX0_joinPages 24 = .ok (.iload_n 1, 1) := by decide +kernel
theorem dX0_joinPages_25 : decode cX0_joinPages 25 = .ok (.iconst 1, 1) := by decide +kernel
theorem dX0_joinPages_26 : decode cX0_joinPages 26 = .ok (.iadd, 1) := by decide +kernel
theorem dX0_joinPages_27 : decode cX0_joinPages 27 = .ok (.invokevirtual 47, 3) := by decide +kernel
theorem dX0_joinPages_30 : decode cX0_joinPages 30 = .ok (.iadd, 1) := by decide +kernel
theorem dX0_joinPages_31 : decode cX0_joinPages 31 = .ok (.invokevirtual 143, 3) := by decide +kernel
theorem dX0_joinPages_34 : decode cX0_joinPages 34 = .ok (.aload_n 0, 1) := by decide +kernel
theorem dX0_joinPages_35 : decode cX0_joinPages 35 = .ok (.iload_n 1, 1) := by decide +kernel
theorem dX0_joinPages_36 : decode cX0_joinPages 36 = .ok (.iconst 1, 1) := by decide +kernel
theorem dX0_joinPages_37 : decode cX0_joinPages 37 = .ok (.iadd, 1) := by decide +kernel
theorem dX0_joinPages_38 : decode cX0_joinPages 38 = .ok (.invokevirtual 156, 3) := by decide +kernel
theorem dX0_joinPages_41 : decode cX0_joinPages 41 = .ok (.return_, 1) := by decide +kernel
theorem dX0_joinWhileItSaves_0 : decode cX0_joinWhileItSaves 0 = .ok (.iconst 0, 1) := by decide +kernel
theorem dX0_joinWhileItSaves_1 : decode cX0_joinWhileItSaves 1 = .ok (.istore_n 1, 1) := by decide +kernel
theorem dX0_joinWhileItSaves_2 : decode cX0_joinWhileItSaves 2 = .ok (.iload_n 1, 1) := by decide +kernel
theorem dX0_joinWhileItSaves_3 : decode cX0_joinWhileItSaves 3 = .ok (.bipush 10, 2) := by decide +kernel
theorem dX0_joinWhileItSaves_5 : decode cX0_joinWhileItSaves 5 = .ok (.if_icmp .ge 48, 3) := by decide +kernel
theorem dX0_joinWhileItSaves_8 : decode cX0_joinWhileItSaves 8 = .ok (.iconst 0, 1) := by decide +kernel
theorem dX0_joinWhileItSaves_9 : decode cX0_joinWhileItSaves 9 = .ok (.istore_n 2, 1) := by decide +kernel
theorem dX0_joinWhileItSaves_10 : decode cX0_joinWhileItSaves 10 = .ok (.iload_n 2, 1) := by decide +kernel
theorem dX0_joinWhileItSaves_11 : decode cX0_joinWhileItSaves 11 = .ok (.aload_n 0, 1) := by decide +kernel
theorem dX0_joinWhileItSaves_12 : decode cX0_joinWhileItSaves 12 = .ok (.getfield 44, 3) := by decide +kernel
theorem dX0_joinWhileItSaves_15 : decode cX0_joinWhileItSaves 15 = .ok (.if_icmp .ge 17, 3) := by decide +kernel
theorem dX0_joinWhileItSaves_18 : decode cX0_joinWhileItSaves 18 = .ok (.aload_n 0, 1) := by decide +kernel
theorem dX0_joinWhileItSaves_19 : decode cX0_joinWhileItSaves 19 = .ok (.iload_n 2, 1) := by decide +kernel
theorem dX0_joinWhileItSaves_20 : decode cX0_joinWhileItSaves 20 = .ok (.invokevirtual 159, 3) := by decide +kernel
theorem dX0_joinWhileItSaves_23 : decode cX0_joinWhileItSaves 23 = .ok (.ifCond .gt 9, 3) := by decide +kernel
theorem dX0_joinWhileItSaves_26 : decode cX0_joinWhileItSaves 26 = .ok (.iinc 2 1, 3) := by decide +kernel
theorem dX0_joinWhileItSaves_29 : decode cX0_joinWhileItSaves 29 = .ok (.goto (-19), 3) := by decide +kernel
theorem dX0_joinWhileItSaves_32 : decode cX0_joinWhileItSaves 32 = .ok (.iload_n 2, 1) := by decide +kernel
theorem dX0_joinWhileItSaves_33 : decode cX0_joinWhileItSaves 33 = .ok (.aload_n 0, 1) := by decide +kernel
theorem dX0_joinWhileItSaves_34 : decode cX0_joinWhileItSaves 34 = .ok (.getfield 44, 3) := by decide +kernel
theorem dX0_joinWhileItSaves_37 : decode cX0_joinWhileItSaves 37 = .ok (.if_icmp .lt 5, 3) := by decide +kernel
theorem dX0_joinWhileItSaves_40 : decode cX0_joinWhileItSaves 40 = .ok (.iload_n 1, 1) := by decide +kernel
theorem dX0_joinWhileItSaves_41 : decode cX0_joinWhileItSaves 41 = .ok (.ireturn, 1) := by decide +kernel
theorem dX0_joinWhileItSaves_42 : decode cX0_joinWhileItSaves 42 = .ok (.aload_n 0, 1) := by decide +kernel
theorem dX0_joinWhileItSaves_43 : decode cX0_joinWhileItSaves 43 = .ok (.iload_n 2, 1) := by decide +kernel
theorem dX0_joinWhileItSaves_44 : decode cX0_joinWhileItSaves 44 = .ok (.invokevirtual 162, 3) := by decide +kernel
theorem dX0_joinWhileItSaves_47 : decode cX0_joinWhileItSaves 47 = .ok (.iinc 1 1, 3) := by decide +kernel
theorem dX0_joinWhileItSaves_50 : decode cX0_joinWhileItSaves 50 = .ok (.goto (-48), 3) := by decide +kernel
theorem dX0_joinWhileItSaves_53 : decode cX0_joinWhileItSaves 53 = .ok (.bipush 10, 2) := by decide +kernel
theorem dX0_joinWhileItSaves_55 : decode cX0_joinWhileItSaves 55 = .ok (.ireturn, 1) := by decide +kernel
theorem dX0_pinPage_0 : decode cX0_pinPage 0 = .ok (.aload_n 0, 1) := by decide +kernel
theorem dX0_pinPage_1 : decode cX0_pinPage 1 = .ok (.getfield 23, 3) := by decide +kernel
theorem dX0_pinPage_4 : decode cX0_pinPage 4 = .ok (.iload_n 1, 1) := by decide +kernel
theorem dX0_pinPage_5 : decode cX0_pinPage 5 = .ok (.iload_n 2, 1) := by decide +kernel
theorem dX0_pinPage_6 : decode cX0_pinPage 6 = .ok (.invokevirtual 143, 3) := by decide +kernel
theorem dX0_pinPage_9 : decode cX0_pinPage 9 = .ok (.return_, 1) := by decide +kernel
theorem dX1_init_0 : decode cX1_init 0 = .ok (.aload_n 0, 1) := by decide +kernel
theorem dX1_init_1 : decode cX1_init 1 = .ok (.invokespecial 3, 3) := by decide +kernel
theorem dX1_init_4 : decode cX1_init 4 = .ok (.aload_n 0, 1) := by decide +kernel
theorem dX1_init_5 : decode cX1_init 5 = .ok (.new 9, 3) := by decide +kernel
theorem dX1_init_8 : decode cX1_init 8 = .ok (.dup, 1) := by decide +kernel
theorem dX1_init_9 : decode cX1_init 9 = .ok (.bipush 14, 2) := by decide +kernel
theorem dX1_init_11 : decode cX1_init 11 = .ok (.invokespecial 11, 3) := by decide +kernel
theorem dX1_init_14 : decode cX1_init 14 = .ok (.putfield 14, 3) := by decide +kernel
theorem dX1_init_17 : decode cX1_init 17 = .ok (.return_, 1) := by decide +kernel
theorem dX1_remember_0 : decode cX1_remember 0 = .ok (.aload_n 0, 1) := by decide +kernel
theorem dX1_remember_1 : decode cX1_remember 1 = .ok (.getfield 14, 3) := by decide +kernel
theorem dX1_remember_4 : decode cX1_remember 4 = .ok (.aload_n 0, 1) := by decide +kernel
theorem dX1_remember_5 : decode cX1_remember 5 = .ok (.getfield 20, 3) := by decide +kernel
theorem dX1_remember_8 : decode cX1_remember 8 = .ok (.aload_n 1, 1) := by decide +kernel
theorem dX1_remember_9 : decode cX1_remember 9 = .ok (.invokevirtual 24, 3) := by decide +kernel
theorem dX1_remember_12 : decode cX1_remember 12 = .ok (.aload_n 0, 1) := by decide +kernel
theorem dX1_remember_13 : decode cX1_remember 13 = .ok (.aload_n 0, 1) := by decide +kernel
theorem dX1_remember_14 : decode cX1_remember 14 = .ok (.getfield 20, 3) := by decide +kernel
theorem dX1_remember_17 : decode cX1_remember 17 = .ok (.iconst 1, 1) := by decide +kernel
theorem dX1_remember_18 : decode cX1_remember 18 = .ok (.iadd, 1) := by decide +kernel
theorem dX1_remember_19 : decode cX1_remember 19 = .ok (.bipush 14, 2) := by decide +kernel
theorem dX1_remember_21 : decode cX1_remember 21 = .ok (.irem, 1) := by decide +kernel
theorem dX1_remember_22 : decode cX1_remember 22 = .ok (.putfield 20, 3) := by decide +kernel
theorem dX1_remember_25 : decode cX1_remember 25 = .ok (.aload_n 0, 1) := by decide +kernel
theorem dX1_remember_26 : decode cX1_remember 26 = .ok (.aload_n 0, 1) := by decide +kernel
theorem dX1_remember_27 : decode cX1_remember 27 = .ok (.getfield 28, 3) := by decide +kernel
theorem dX1_remember_30 : decode cX1_remember 30 = .ok (.iconst 1, 1) := by decide +kernel
theorem dX1_remember_31 : decode cX1_remember 31 = .ok (.iadd, 1) := by decide +kernel
theorem dX1_remember_32 : decode cX1_remember 32 = .ok (.bipush 14, 2) := by decide +kernel
theorem dX1_remember_34 : decode cX1_remember 34 = .ok (.invokestatic 31, 3) := by decide +kernel
theorem dX1_remember_37 : decode cX1_remember 37 = .ok (.putfield 28, 3) := by decide +kernel
theorem dX1_remember_40 : decode cX1_remember 40 = .ok (.return_, 1) := by decide +kernel
theorem dX1_takeBack_0 : decode cX1_takeBack 0 = .ok (.aload_n 0, 1) := by decide +kernel
theorem dX1_takeBack_1 : decode cX1_takeBack 1 = .ok (.aload_n 0, 1) := by decide +kernel
theorem dX1_takeBack_2 : decode cX1_takeBack 2 = .ok (.getfield 20, 3) := by decide +kernel
theorem dX1_takeBack_5 : decode cX1_takeBack 5 = .ok (.bipush 14, 2) := by decide +kernel
theorem dX1_takeBack_7 : decode cX1_takeBack 7 = .ok (.iadd, 1) := by decide +kernel
theorem dX1_takeBack_8 : decode cX1_takeBack 8 = .ok (.iconst 1, 1) := by decide +kernel
theorem dX1_takeBack_9 : decode cX1_takeBack 9 = .ok (.isub, 1) := by decide +kernel
theorem dX1_takeBack_10 : decode cX1_takeBack 10 = .ok (.bipush 14, 2) := by decide +kernel
theorem dX1_takeBack_12 : decode cX1_takeBack 12 = .ok (.irem, 1) := by decide +kernel
theorem dX1_takeBack_13 : decode cX1_takeBack 13 = .ok (.putfield 20, 3) := by decide +kernel
theorem dX1_takeBack_16 : decode cX1_takeBack 16 = .ok (.aload_n 0, 1) := by decide +kernel
theorem dX1_takeBack_17 : decode cX1_takeBack 17 = .ok (.getfield 14, 3) := by decide +kernel
theorem dX1_takeBack_20 : decode cX1_takeBack 20 = .ok (.aload_n 0, 1) := by decide +kernel
theorem dX1_takeBack_21 : decode cX1_takeBack 21 = .ok (.getfield 20, 3) := by decide +kernel
theorem dX1_takeBack_24 : decode cX1_takeBack 24 = .ok (.aload_n 1, 1) := by decide +kernel
theorem dX1_takeBack_25 : decode cX1_takeBack 25 = .ok (.invokevirtual 37, 3) := by decide +kernel
theorem dX1_takeBack_28 : decode cX1_takeBack 28 = .ok (.aload_n 0, 1) := by decide +kernel
theorem dX1_takeBack_29 : decode cX1_takeBack 29 = .ok (.dup, 1) := by decide +kernel
theorem dX1_takeBack_30 : decode cX1_takeBack 30 = .ok (.getfield 28, 3) := by decide +kernel
theorem dX1_takeBack_33 : decode cX1_takeBack 33 = .ok (.iconst 1, 1) := by decide +kernel
theorem dX1_takeBack_34 : decode cX1_takeBack 34 = .ok (.isub, 1) := by decide +kernel
theorem dX1_takeBack_35 : decode cX1_takeBack 35 = .ok (.putfield 28, 3) := by decide +kernel
theorem dX1_takeBack_38 : decode cX1_takeBack 38 = .ok (.aload_n 0, 1) := by decide +kernel
theorem dX1_takeBack_39 : decode cX1_takeBack 39 = .ok (.getfield 28, 3) := by decide +kernel
theorem dX1_takeBack_42 : decode cX1_takeBack 42 = .ok (.ireturn, 1) := by decide +kernel
theorem dX1_forgetAll_0 : decode cX1_forgetAll 0 = .ok (.aload_n 0, 1) := by decide +kernel
theorem dX1_forgetAll_1 : decode cX1_forgetAll 1 = .ok (.iconst 0, 1) := by decide +kernel
theorem dX1_forgetAll_2 : decode cX1_forgetAll 2 = .ok (.putfield 28, 3) := by decide +kernel
theorem dX1_forgetAll_5 : decode cX1_forgetAll 5 = .ok (.return_, 1) := by decide +kernel
theorem dX2_init_0 : decode cX2_init 0 = .ok (.aload_n 0, 1) := by decide +kernel
theorem dX2_init_1 : decode cX2_init 1 = .ok (.invokespecial 3, 3) := by decide +kernel
theorem dX2_init_4 : decode cX2_init 4 = .ok (.aload_n 0, 1) := by decide +kernel
theorem dX2_init_5 : decode cX2_init 5 = .ok (.bipush 12, 2) := by decide +kernel
theorem dX2_init_7 : decode cX2_init 7 = .ok (.newarray .int, 2) := by decide +kernel
theorem dX2_init_9 : decode cX2_init 9 = .ok (.putfield 9, 3) := by decide +kernel
theorem dX2_init_12 : decode cX2_init 12 = .ok (.return_, 1) := by decide +kernel
theorem dX2_start_0 : decode cX2_start 0 = .ok (.aload_n 0, 1) := by decide +kernel
theorem dX2_start_1 : decode cX2_start 1 = .ok (.iconst 0, 1) := by decide +kernel
theorem dX2_start_2 : decode cX2_start 2 = .ok (.putfield 15, 3) := by decide +kernel
theorem dX2_start_5 : decode cX2_start 5 = .ok (.aload_n 0, 1) := by decide +kernel
theorem dX2_start_6 : decode cX2_start 6 = .ok (.iconst 0, 1) := by decide +kernel
theorem dX2_start_7 : decode cX2_start 7 = .ok (.putfield 19, 3) := by decide +kernel
theorem dX2_start_10 : decode cX2_start 10 = .ok (.aload_n 0, 1) := by decide +kernel
theorem dX2_start_11 : decode cX2_start 11 = .ok (.iconst 1, 1) := by decide +kernel
theorem dX2_start_12 : decode cX2_start 12 = .ok (.putfield 22, 3) := by decide +kernel
theorem dX2_start_15 : decode cX2_start 15 = .ok (.return_, 1) := by decide +kernel
theorem dX2_include_0 : decode cX2_include 0 = .ok (.aload_n 0, 1) := by decide +kernel
theorem dX2_include_1 : decode cX2_include 1 = .ok (.iload_n 1, 1) := by decide +kernel
theorem dX2_include_2 : decode cX2_include 2 = .ok (.invokevirtual 25, 3) := by decide +kernel
theorem dX2_include_5 : decode cX2_include 5 = .ok (.sipush (-9999), 3) := by decide +kernel
theorem dX2_include_8 : decode cX2_include 8 = .ok (.if_icmp .ne 35, 3) := by decide +kernel
theorem dX2_include_11 : decode cX2_include 11 = .ok (.aload_n 0, 1) := by decide +kernel
theorem dX2_include_12 : decode cX2_include 12 = .ok (.getfield 19, 3) := by decide +kernel
theorem dX2_include_15 : decode cX2_include 15 = .ok (.aload_n 0, 1) := by decide +kernel
theorem dX2_include_16 : decode cX2_include 16 = .ok (.getfield 9, 3) := by decide +kernel
theorem dX2_include_19 : decode cX2_include 19 = .ok (.arraylength, 1) := by decide +kernel
theorem dX2_include_20 : decode cX2_include 20 = .ok (.if_icmp .ge 23, 3) := by decide +kernel
theorem dX2_include_23 : decode cX2_include 23 = .ok (.aload_n 0, 1) := by decide +kernel
theorem dX2_include_24 : decode cX2_include 24 = .ok (.getfield 9, 3) := by decide +kernel
theorem dX2_include_27 : decode cX2_include 27 = .ok (.aload_n 0, 1) := by decide +kernel
theorem dX2_include_28 : decode cX2_include 28 = .ok (.getfield 19, 3) := by decide +kernel
theorem dX2_include_31 : decode cX2_include 31 = .ok (.iload_n 1, 1) := by decide +kernel
theorem dX2_include_32 : decode cX2_include 32 = .ok (.iastore, 1) := by decide +kernel
theorem dX2_include_33 : decode cX2_include 33 = .ok (.aload_n 0, 1) := by decide +kernel
theorem dX2_include_34 : decode cX2_include 34 = .ok (.dup, 1) := by decide +kernel
theorem dX2_include_35 : decode cX2_include 35 = .ok (.getfield 19, 3) := by decide +kernel
theorem dX2_include_38 : decode cX2_include 38 = .ok (.iconst 1, 1) := by decide +kernel
theorem dX2_include_39 : decode cX2_include 39 = .ok (.iadd, 1) := by decide +kernel
theorem dX2_include_40 : decode cX2_include 40 = .ok (.putfield 19, 3) := by decide +kernel
theorem dX2_include_43 : decode cX2_include 43 = .ok (.aload_n 0, 1) := by decide +kernel
theorem dX2_include_44 : decode cX2_include 44 = .ok (.getfield 15, 3) := by decide +kernel
theorem dX2_include_47 : decode cX2_include 47 = .ok (.ifCond .ne 21, 3) := by decide +kernel
theorem dX2_include_50 : decode cX2_include 50 = .ok (.aload_n 0, 1) := by decide +kernel
theorem dX2_include_51 : decode cX2_include 51 = .ok (.iload_n 1, 1) := by decide +kernel
theorem dX2_include_52 : decode cX2_include 52 = .ok (.putfield 29, 3) := by decide +kernel
theorem dX2_include_55 : decode cX2_include 55 = .ok (.aload_n 0, 1) := by decide +kernel
theorem dX2_include_56 : decode cX2_include 56 = .ok (.iload_n 1, 1) := by decide +kernel
theorem dX2_include_57 : decode cX2_include 57 = .ok (.putfield 32, 3) := by decide +kernel
theorem dX2_include_60 : decode cX2_include 60 = .ok (.aload_n 0, 1) := by decide +kernel
theorem dX2_include_61 : decode cX2_include 61 = .ok (.iconst 1, 1) := by decide +kernel
theorem dX2_include_62 : decode cX2_include 62 = .ok (.putfield 35, 3) := by decide +kernel
theorem dX2_include_65 : decode cX2_include 65 = .ok (.goto 83, 3) := by decide +kernel
theorem dX2_include_68 : decode cX2_include 68 = .ok (.aload_n 0, 1) := by decide +kernel
theorem dX2_include_69 : decode cX2_include 69 = .ok (.aload_n 0, 1) := by decide +kernel
theorem dX2_include_70 : decode cX2_include 70 = .ok (.getfield 29, 3) := by decide +kernel
theorem dX2_include_73 : decode cX2_include 73 = .ok (.iload_n 1, 1) := by decide +kernel
theorem dX2_include_74 : decode cX2_include 74 = .ok (.invokestatic 38, 3) := by decide +kernel
theorem dX2_include_77 : decode cX2_include 77 = .ok (.putfield 29, 3) := by decide +kernel
theorem dX2_include_80 : decode cX2_include 80 = .ok (.aload_n 0, 1) := by decide +kernel
theorem dX2_include_81 : decode cX2_include 81 = .ok (.aload_n 0, 1) := by decide +kernel
theorem dX2_include_82 : decode cX2_include 82 = .ok (.getfield 32, 3) := by decide +kernel
theorem dX2_include_85 : decode cX2_include 85 = .ok (.iload_n 1, 1) := by decide +kernel
theorem dX2_include_86 : decode cX2_include 86 = .ok (.invokestatic 44, 3) := by decide +kernel
theorem dX2_include_89 : decode cX2_include 89 = .ok (.putfield 32, 3) := by decide +kernel
theorem dX2_include_92 : decode cX2_include 92 = .ok (.aload_n 0, 1) := by decide +kernel
theorem dX2_include_93 : decode cX2_include 93 = .ok (.dup, 1) := by decide +kernel
theorem dX2_include_94 : decode cX2_include 94 = .ok (.getfield 35, 3) := by decide +kernel
theorem dX2_include_97 : decode cX2_include 97 = .ok (.iload_n 1, 1) := by decide +kernel
theorem dX2_include_98 : decode cX2_include 98 = .ok (.aload_n 0, 1) := by decide +kernel
theorem dX2_include_99 : decode cX2_include 99 = .ok (.getfield 47, 3) := by decide +kernel
theorem dX2_include_102 : decode cX2_include 102 = .ok (.if_icmp .ne 7, 3) := by decide +kernel
theorem dX2_include_105 : decode cX2_include 105 = .ok (.iconst 0, 1) := by decide +kernel
theorem dX2_include_106 : decode cX2_include 106 = .ok (.goto 4, 3) := by decide +kernel
theorem dX2_include_109 : decode cX2_include 109 = .ok (.iconst 1, 1) := by decide +kernel
theorem dX2_include_110 : decode cX2_include 110 = .ok (.iadd, 1) := by decide +kernel
theorem dX2_include_111 : decode cX2_include 111 = .ok (.putfield 35, 3) := by decide +kernel
theorem dX2_include_114 : decode cX2_include 114 = .ok (.iload_n 1, 1) := by decide +kernel
theorem dX2_include_115 : decode cX2_include 115 = .ok (.aload_n 0, 1) := by decide +kernel
theorem dX2_include_116 : decode cX2_include 116 = .ok (.getfield 47, 3) := by decide +kernel
theorem dX2_include_119 : decode cX2_include 119 = .ok (.isub, 1) := by decide +kernel
theorem dX2_include_120 : decode cX2_include 120 = .ok (.istore_n 2, 1) := by decide +kernel
theorem dX2_include_121 : decode cX2_include 121 = .ok (.aload_n 0, 1) := by decide +kernel
theorem dX2_include_122 : decode cX2_include 122 = .ok (.aload_n 0, 1) := by decide +kernel
theorem dX2_include_123 : decode cX2_include 123 = .ok (.getfield 22, 3) := by decide +kernel
theorem dX2_include_126 : decode cX2_include 126 = .ok (.iconst 1, 1) := by decide +kernel
theorem dX2_include_127 : decode cX2_include 127 = .ok (.iload_n 2, 1) := by decide +kernel
theorem dX2_include_128 : decode cX2_include 128 = .ok (.ifCond .ge 9, 3) := by decide +kernel
theorem dX2_include_131 : decode cX2_include 131 = .ok (.iconst (-1), 1) := by decide +kernel
theorem dX2_include_132 : decode cX2_include 132 = .ok (.iload_n 2, 1) := by decide +kernel
theorem dX2_include_133 : decode cX2_include 133 = .ok (.isub, 1) := by decide +kernel
theorem dX2_include_134 : decode cX2_include 134 = .ok (.goto 4, 3) := by decide +kernel
theorem dX2_include_137 : decode cX2_include 137 = .ok (.iload_n 2, 1) := by decide +kernel
theorem dX2_include_138 : decode cX2_include 138 = .ok (.invokestatic 50, 3) := by decide +kernel
theorem dX2_include_141 : decode cX2_include 141 = .ok (.iadd, 1) := by decide +kernel
theorem dX2_include_142 : decode cX2_include 142 = .ok (.invokestatic 44, 3) := by decide +kernel
theorem dX2_include_145 : decode cX2_include 145 = .ok (.putfield 22, 3) := by decide +kernel
theorem dX2_include_148 : decode cX2_include 148 = .ok (.aload_n 0, 1) := by decide +kernel
theorem dX2_include_149 : decode cX2_include 149 = .ok (.aload_n 0, 1) := by decide +kernel
theorem dX2_include_150 : decode cX2_include 150 = .ok (.getfield 19, 3) := by decide +kernel
theorem dX2_include_153 : decode cX2_include 153 = .ok (.iconst 1, 1) := by decide +kernel
theorem dX2_include_154 : decode cX2_include 154 = .ok (.isub, 1) := by decide +kernel
theorem dX2_include_155 : decode cX2_include 155 = .ok (.invokestatic 50, 3) := by decide +kernel
theorem dX2_include_158 : decode cX2_include 158 = .ok (.putfield 53, 3) := by decide +kernel
theorem dX2_include_161 : decode cX2_include 161 = .ok (.aload_n 0, 1) := by decide +kernel
theorem dX2_include_162 : decode cX2_include 162 = .ok (.aload_n 0, 1) := by decide +kernel
theorem dX2_include_163 : decode cX2_include 163 = .ok (.getfield 32, 3) := by decide +kernel
theorem dX2_include_166 : decode cX2_include 166 = .ok (.aload_n 0, 1) := by decide +kernel
theorem dX2_include_167 : decode cX2_include 167 = .ok (.getfield 29, 3) := by decide +kernel
theorem dX2_include_170 : decode cX2_include 170 = .ok (.isub, 1) := by decide +kernel
theorem dX2_include_171 : decode cX2_include 171 = .ok (.invokestatic 50, 3) := by decide +kernel
theorem dX2_include_174 : decode cX2_include 174 = .ok (.putfield 56, 3) := by decide +kernel
theorem dX2_include_177 : decode cX2_include 177 = .ok (.aload_n 0, 1) := by decide +kernel
theorem dX2_include_178 : decode cX2_include 178 = .ok (.iload_n 1, 1) := by decide +kernel
theorem dX2_include_179 : decode cX2_include 179 = .ok (.putfield 47, 3) := by decide +kernel
theorem dX2_include_182 : decode cX2_include 182 = .ok (.aload_n 0, 1) := by decide +kernel
theorem dX2_include_183 : decode cX2_include 183 = .ok (.dup, 1) := by decide +kernel
theorem dX2_include_184 : decode cX2_include 184 = .ok (.getfield 15, 3) := by decide +kernel
theorem dX2_include_187 : decode cX2_include 187 = .ok (.iconst 1, 1) := by decide +kernel
theorem dX2_include_188 : decode cX2_include 188 = .ok (.iadd, 1) := by decide +kernel
theorem dX2_include_189 : decode cX2_include 189 = .ok (.putfield 15, 3) := by decide +kernel
theorem dX2_include_192 : decode cX2_include 192 = .ok (.return_, 1) := by decide +kernel
theorem dX2_numberOfWord_0 : decode cX2_numberOfWord 0 = .ok (.iconst 0, 1) := by decide +kernel
theorem dX2_numberOfWord_1 : decode cX2_numberOfWord 1 = .ok (.istore_n 2, 1) := by decide +kernel
theorem dX2_numberOfWord_2 : decode cX2_numberOfWord 2 = .ok (.iload_n 2, 1) := by decide +kernel
theorem dX2_numberOfWord_3 : decode cX2_numberOfWord 3 = .ok (.aload_n 0, 1) := by decide +kernel
theorem dX2_numberOfWord_4 : decode cX2_numberOfWord 4 = .ok (.getfield 19, 3) := by decide +kernel
theorem dX2_numberOfWord_7 : decode cX2_numberOfWord 7 = .ok (.if_icmp .ge 30, 3) := by decide +kernel
theorem dX2_numberOfWord_10 : decode cX2_numberOfWord 10 = .ok (.iload_n 2, 1) := by decide +kernel
theorem dX2_numberOfWord_11 : decode cX2_numberOfWord 11 = .ok (.aload_n 0, 1) := by decide +kernel
theorem dX2_numberOfWord_12 : decode cX2_numberOfWord 12 = .ok (.getfield 9, 3) := by decide +kernel
theorem dX2_numberOfWord_15 : decode cX2_numberOfWord 15 = .ok (.arraylength, 1) := by decide +kernel
theorem dX2_numberOfWord_16 : decode cX2_numberOfWord 16 = .ok (.if_icmp .ge 21, 3) := by decide +kernel
theorem dX2_numberOfWord_19 : decode cX2_numberOfWord 19 = .ok (.aload_n 0, 1) := by decide +kernel
theorem dX2_numberOfWord_20 : decode cX2_numberOfWord 20 = .ok (.getfield 9, 3) := by decide +kernel
theorem dX2_numberOfWord_23 : decode cX2_numberOfWord 23 = .ok (.iload_n 2, 1) := by decide +kernel
theorem dX2_numberOfWord_24 : decode cX2_numberOfWord 24 = .ok (.iaload, 1) := by decide +kernel
theorem dX2_numberOfWord_25 : decode cX2_numberOfWord 25 = .ok (.iload_n 1, 1) := by decide +kernel
theorem dX2_numberOfWord_26 : decode cX2_numberOfWord 26 = .ok (.if_icmp .ne 5, 3) := by decide +kernel
theorem dX2_numberOfWord_29 : decode cX2_numberOfWord 29 = .ok (.iload_n 2, 1) := by decide +kernel
theorem dX2_numberOfWord_30 : decode cX2_numberOfWord 30 = .ok (.ireturn, 1) := by decide +kernel
theorem dX2_numberOfWord_31 : decode cX2_numberOfWord 31 = .ok (.iinc 2 1, 3) := by decide +kernel
theorem dX2_numberOfWord_34 : decode cX2_numberOfWord 34 = .ok (.goto (-32), 3) := by decide +kernel
theorem dX2_numberOfWord_37 : decode cX2_numberOfWord 37 = .ok (.sipush (-9999), 3) := by decide +kernel
theorem dX2_numberOfWord_40 : decode cX2_numberOfWord 40 = .ok (.ireturn, 1) := by decide +kernel
theorem dX2_wordAt_0 : decode cX2_wordAt 0 = .ok (.iload_n 1, 1) := by decide +kernel
theorem dX2_wordAt_1 : decode cX2_wordAt 1 = .ok (.ifCond .lt 21, 3) := by decide +kernel
theorem dX2_wordAt_4 : decode cX2_wordAt 4 = .ok (.iload_n 1, 1) := by decide +kernel
theorem dX2_wordAt_5 : decode cX2_wordAt 5 = .ok (.aload_n 0, 1) := by decide +kernel
theorem dX2_wordAt_6 : decode cX2_wordAt 6 = .ok (.getfield 9, 3) := by decide +kernel
theorem dX2_wordAt_9 : decode cX2_wordAt 9 = .ok (.arraylength, 1) := by decide +kernel
theorem dX2_wordAt_10 : decode cX2_wordAt 10 = .ok (.if_icmp .ge 12, 3) := by decide +kernel
theorem dX2_wordAt_13 : decode cX2_wordAt 13 = .ok (.aload_n 0, 1) := by decide +kernel
theorem dX2_wordAt_14 : decode cX2_wordAt 14 = .ok (.getfield 9, 3) := by decide +kernel
theorem dX2_wordAt_17 : decode cX2_wordAt 17 = .ok (.iload_n 1, 1) := by decide +kernel
theorem dX2_wordAt_18 : decode cX2_wordAt 18 = .ok (.iaload, 1) := by decide +kernel
theorem dX2_wordAt_19 : decode cX2_wordAt 19 = .ok (.goto 4, 3) := by decide +kernel
theorem dX2_wordAt_22 : decode cX2_wordAt 22 = .ok (.iconst 0, 1) := by decide +kernel
theorem dX2_wordAt_23 : decode cX2_wordAt 23 = .ok (.ireturn, 1) := by decide +kernel
theorem dX2_sizeBy_0 : decode cX2_sizeBy 0 = .ok (.bipush 7, 2) := by decide +kernel
theorem dX2_sizeBy_2 : decode cX2_sizeBy 2 = .ok (.istore_n 2, 1) := by decide +kernel
theorem dX2_sizeBy_3 : decode cX2_sizeBy 3 = .ok (.iload_n 1, 1) := by decide +kernel
theorem dX2_sizeBy_4 : decode cX2_sizeBy 4 = .ok (.tableswitch 100 1 4 #[32, 54, 64, 81], 32) := by decide +kernel
theorem dX2_sizeBy_36 : decode cX2_sizeBy 36 = .ok (.iload_n 2, 1) := by decide +kernel
theorem dX2_sizeBy_37 : decode cX2_sizeBy 37 = .ok (.iconst 4, 1) := by decide +kernel
theorem dX2_sizeBy_38 : decode cX2_sizeBy 38 = .ok (.iadd, 1) := by decide +kernel
theorem dX2_sizeBy_39 : decode cX2_sizeBy 39 = .ok (.bipush 10, 2) := by decide +kernel
theorem dX2_sizeBy_41 : decode cX2_sizeBy 41 = .ok (.aload_n 0, 1) := by decide +kernel
theorem dX2_sizeBy_42 : decode cX2_sizeBy 42 = .ok (.getfield 19, 3) := by decide +kernel
theorem dX2_sizeBy_45 : decode cX2_sizeBy 45 = .ok (.imul, 1) := by decide +kernel
theorem dX2_sizeBy_46 : decode cX2_sizeBy 46 = .ok (.iadd, 1) := by decide +kernel
theorem dX2_sizeBy_47 : decode cX2_sizeBy 47 = .ok (.aload_n 0, 1) := by decide +kernel
theorem dX2_sizeBy_48 : decode cX2_sizeBy 48 = .ok (.getfield 53, 3) := by decide +kernel
theorem dX2_sizeBy_51 : decode cX2_sizeBy 51 = .ok (.aload_n 0, 1) := by decide +kernel
theorem dX2_sizeBy_52 : decode cX2_sizeBy 52 = .ok (.getfield 15, 3) := by decide +kernel
theorem dX2_sizeBy_55 : decode cX2_sizeBy 55 = .ok (.imul, 1) := by decide +kernel
theorem dX2_sizeBy_56 : decode cX2_sizeBy 56 = .ok (.iadd, 1) := by decide +kernel
theorem dX2_sizeBy_57 : decode cX2_sizeBy 57 = .ok (.ireturn, 1) := by decide +kernel
theorem dX2_sizeBy_58 : decode cX2_sizeBy 58 = .ok (.iload_n 2, 1) := by decide +kernel
theorem dX2_sizeBy_59 : decode cX2_sizeBy 59 = .ok (.bipush 14, 2) := by decide +kernel
theorem dX2_sizeBy_61 : decode cX2_sizeBy 61 = .ok (.aload_n 0, 1) := by decide +kernel
theorem dX2_sizeBy_62 : decode cX2_sizeBy 62 = .ok (.getfield 35, 3) := by decide +kernel
theorem dX2_sizeBy_65 : decode cX2_sizeBy 65 = .ok (.imul, 1) := by decide +kernel
theorem dX2_sizeBy_66 : decode cX2_sizeBy 66 = .ok (.iadd, 1) := by decide +kernel
theorem dX2_sizeBy_67 : decode cX2_sizeBy 67 = .ok (.ireturn, 1) := by decide +kernel
theorem dX2_sizeBy_68 : decode cX2_sizeBy 68 = .ok (.iload_n 2, 1) := by decide +kernel
theorem dX2_sizeBy_69 : decode cX2_sizeBy 69 = .ok (.bipush 10, 2) := by decide +kernel
theorem dX2_sizeBy_71 : decode cX2_sizeBy 71 = .ok (.iadd, 1) := by decide +kernel
theorem dX2_sizeBy_72 : decode cX2_sizeBy 72 = .ok (.iconst 4, 1) := by decide +kernel
theorem dX2_sizeBy_73 : decode cX2_sizeBy 73 = .ok (.iadd, 1) := by decide +kernel
theorem dX2_sizeBy_74 : decode cX2_sizeBy 74 = .ok (.aload_n 0, 1) := by decide +kernel
theorem dX2_sizeBy_75 : decode cX2_sizeBy 75 = .ok (.getfield 56, 3) := by decide +kernel
theorem dX2_sizeBy_78 : decode cX2_sizeBy 78 = .ok (.aload_n 0, 1) := by decide +kernel
theorem dX2_sizeBy_79 : decode cX2_sizeBy 79 = .ok (.getfield 15, 3) := by decide +kernel
theorem dX2_sizeBy_82 : decode cX2_sizeBy 82 = .ok (.imul, 1) := by decide +kernel
theorem dX2_sizeBy_83 : decode cX2_sizeBy 83 = .ok (.iadd, 1) := by decide +kernel
theorem dX2_sizeBy_84 : decode cX2_sizeBy 84 = .ok (.ireturn, 1) := by decide +kernel
theorem dX2_sizeBy_85 : decode cX2_sizeBy 85 = .ok (.iload_n 2, 1) := by decide +kernel
theorem dX2_sizeBy_86 : decode cX2_sizeBy 86 = .ok (.bipush 10, 2) := by decide +kernel
theorem dX2_sizeBy_88 : decode cX2_sizeBy 88 = .ok (.iadd, 1) := by decide +kernel
theorem dX2_sizeBy_89 : decode cX2_sizeBy 89 = .ok (.iconst 4, 1) := by decide +kernel
theorem dX2_sizeBy_90 : decode cX2_sizeBy 90 = .ok (.iadd, 1) := by decide +kernel
theorem dX2_sizeBy_91 : decode cX2_sizeBy 91 = .ok (.aload_n 0, 1) := by decide +kernel
theorem dX2_sizeBy_92 : decode cX2_sizeBy 92 = .ok (.getfield 22, 3) := by decide +kernel
theorem dX2_sizeBy_95 : decode cX2_sizeBy 95 = .ok (.aload_n 0, 1) := by decide +kernel
theorem dX2_sizeBy_96 : decode cX2_sizeBy 96 = .ok (.getfield 15, 3) := by decide +kernel
theorem dX2_sizeBy_99 : decode cX2_sizeBy 99 = .ok (.iconst 1, 1) := by decide +kernel
theorem dX2_sizeBy_100 : decode cX2_sizeBy 100 = .ok (.isub, 1) := by decide +kernel
theorem dX2_sizeBy_101 : decode cX2_sizeBy 101 = .ok (.imul, 1) := by decide +kernel
theorem dX2_sizeBy_102 : decode cX2_sizeBy 102 = .ok (.iadd, 1) := by decide +kernel
theorem dX2_sizeBy_103 : decode cX2_sizeBy 103 = .ok (.ireturn, 1) := by decide +kernel
theorem dX2_sizeBy_104 : decode cX2_sizeBy 104 = .ok (.iload_n 2, 1) := by decide +kernel
theorem dX2_sizeBy_105 : decode cX2_sizeBy 105 = .ok (.bipush 10, 2) := by decide +kernel
theorem dX2_sizeBy_107 : decode cX2_sizeBy 107 = .ok (.aload_n 0, 1) := by decide +kernel
theorem dX2_sizeBy_108 : decode cX2_sizeBy 108 = .ok (.getfield 15, 3) := by decide +kernel
theorem dX2_sizeBy_111 : decode cX2_sizeBy 111 = .ok (.imul, 1) := by decide +kernel
theorem dX2_sizeBy_112 : decode cX2_sizeBy 112 = .ok (.iadd, 1) := by decide +kernel
theorem dX2_sizeBy_113 : decode cX2_sizeBy 113 = .ok (.ireturn, 1) := by decide +kernel
theorem dX2_codingWhen_0 : decode cX2_codingWhen 0 = .ok (.iload_n 1, 1) := by decide +kernel
theorem dX2_codingWhen_1 : decode cX2_codingWhen 1 = .ok (.sipush (-9999), 3) := by decide +kernel
theorem dX2_codingWhen_4 : decode cX2_codingWhen 4 = .ok (.if_icmp .eq 5, 3) := by decide +kernel
theorem dX2_codingWhen_7 : decode cX2_codingWhen 7 = .ok (.iload_n 1, 1) := by decide +kernel
theorem dX2_codingWhen_8 : decode cX2_codingWhen 8 = .ok (.ireturn, 1) := by decide +kernel
theorem dX2_codingWhen_9 : decode cX2_codingWhen 9 = .ok (.iconst 0, 1) := by decide +kernel
theorem dX2_codingWhen_10 : decode cX2_codingWhen 10 = .ok (.istore_n 2, 1) := by decide +kernel
theorem dX2_codingWhen_11 : decode cX2_codingWhen 11 = .ok (.aload_n 0, 1) := by decide +kernel
theorem dX2_codingWhen_12 : decode cX2_codingWhen 12 = .ok (.iconst 0, 1) := by decide +kernel
theorem dX2_codingWhen_13 : decode cX2_codingWhen 13 = .ok (.invokevirtual 59, 3) := by decide +kernel
theorem dX2_codingWhen_16 : decode cX2_codingWhen 16 = .ok (.istore_n 3, 1) := by decide +kernel
theorem dX2_codingWhen_17 : decode cX2_codingWhen 17 = .ok (.iconst 1, 1) := by decide +kernel
theorem dX2_codingWhen_18 : decode cX2_codingWhen 18 = .ok (.istore 4, 2) := by decide +kernel
theorem dX2_codingWhen_20 : decode cX2_codingWhen 20 = .ok (.iload 4, 2) := by decide +kernel
theorem dX2_codingWhen_22 : decode cX2_codingWhen 22 = .ok (.iconst 4, 1) := by decide +kernel
theorem dX2_codingWhen_23 : decode cX2_codingWhen 23 = .ok (.if_icmp .gt 29, 3) := by decide +kernel
theorem dX2_codingWhen_26 : decode cX2_codingWhen 26 = .ok (.aload_n 0, 1) := by decide +kernel
theorem dX2_codingWhen_27 : decode cX2_codingWhen 27 = .ok (.iload 4, 2) := by decide +kernel
theorem dX2_codingWhen_29 : decode cX2_codingWhen 29 = .ok (.invokevirtual 59, 3) := by decide +kernel
theorem dX2_codingWhen_32 : decode cX2_codingWhen 32 = .ok (.istore 5, 2) := by decide +kernel
theorem dX2_codingWhen_34 : decode cX2_codingWhen 34 = .ok (.iload 5, 2) := by decide +kernel
theorem dX2_codingWhen_36 : decode cX2_codingWhen 36 = .ok (.iload_n 3, 1) := by decide +kernel
theorem dX2_codingWhen_37 : decode cX2_codingWhen 37 = .ok (.if_icmp .ge 9, 3) := by decide +kernel
theorem dX2_codingWhen_40 : decode cX2_codingWhen 40 = .ok (.iload 4, 2) := by decide +kernel
theorem dX2_codingWhen_42 : decode cX2_codingWhen 42 = .ok (.istore_n 2, 1) := by decide +kernel
theorem dX2_codingWhen_43 : decode cX2_codingWhen 43 = .ok (.iload 5, 2) := by decide +kernel
theorem dX2_codingWhen_45 : decode cX2_codingWhen 45 = .ok (.istore_n 3, 1) := by decide +kernel
theorem dX2_codingWhen_46 : decode cX2_codingWhen 46 = .ok (.iinc 4 1, 3) := by decide +kernel
theorem dX2_codingWhen_49 : decode cX2_codingWhen 49 = .ok (.goto (-29), 3) := by decide +kernel
theorem dX2_codingWhen_52 : decode cX2_codingWhen 52 = .ok (.iload_n 2, 1) := by decide +kernel
theorem dX2_codingWhen_53 : decode cX2_codingWhen 53 = .ok (.ireturn, 1) := by decide +kernel
theorem dX2_sizeWhen_0 : decode cX2_sizeWhen 0 = .ok (.aload_n 0, 1) := by decide +kernel
theorem dX2_sizeWhen_1 : decode cX2_sizeWhen 1 = .ok (.aload_n 0, 1) := by decide +kernel
theorem dX2_sizeWhen_2 : decode cX2_sizeWhen 2 = .ok (.iload_n 1, 1) := by decide +kernel
theorem dX2_sizeWhen_3 : decode cX2_sizeWhen 3 = .ok (.invokevirtual 62, 3) := by decide +kernel
theorem dX2_sizeWhen_6 : decode cX2_sizeWhen 6 = .ok (.invokevirtual 59, 3) := by decide +kernel
theorem dX2_sizeWhen_9 : decode cX2_sizeWhen 9 = .ok (.ireturn, 1) := by decide +kernel
theorem dX2_copyFrom_0 : decode cX2_copyFrom 0 = .ok (.aload_n 0, 1) := by decide +kernel
theorem dX2_copyFrom_1 : decode cX2_copyFrom 1 = .ok (.aload_n 1, 1) := by decide +kernel
theorem dX2_copyFrom_2 : decode cX2_copyFrom 2 = .ok (.getfield 19, 3) := by decide +kernel
theorem dX2_copyFrom_5 : decode cX2_copyFrom 5 = .ok (.putfield 19, 3) := by decide +kernel
theorem dX2_copyFrom_8 : decode cX2_copyFrom 8 = .ok (.iconst 0, 1) := by decide +kernel
theorem dX2_copyFrom_9 : decode cX2_copyFrom 9 = .ok (.istore_n 2, 1) := by decide +kernel
theorem dX2_copyFrom_10 : decode cX2_copyFrom 10 = .ok (.iload_n 2, 1) := by decide +kernel
theorem dX2_copyFrom_11 : decode cX2_copyFrom 11 = .ok (.aload_n 0, 1) := by decide +kernel
theorem dX2_copyFrom_12 : decode cX2_copyFrom 12 = .ok (.getfield 19, 3) := by decide +kernel
theorem dX2_copyFrom_15 : decode cX2_copyFrom 15 = .ok (.if_icmp .ge 29, 3) := by decide +kernel
theorem dX2_copyFrom_18 : decode cX2_copyFrom 18 = .ok (.iload_n 2, 1) := by decide +kernel
theorem dX2_copyFrom_19 : decode cX2_copyFrom 19 = .ok (.aload_n 0, 1) := by decide +kernel
theorem dX2_copyFrom_20 : decode cX2_copyFrom 20 = .ok (.getfield 9, 3) := by decide +kernel
theorem dX2_copyFrom_23 : decode cX2_copyFrom 23 = .ok (.arraylength, 1) := by decide +kernel
theorem dX2_copyFrom_24 : decode cX2_copyFrom 24 = .ok (.if_icmp .ge 20, 3) := by decide +kernel
theorem dX2_copyFrom_27 : decode cX2_copyFrom 27 = .ok (.aload_n 0, 1) := by decide +kernel
theorem dX2_copyFrom_28 : decode cX2_copyFrom 28 = .ok (.getfield 9, 3) := by decide +kernel
theorem dX2_copyFrom_31 : decode cX2_copyFrom 31 = .ok (.iload_n 2, 1) := by decide +kernel
theorem dX2_copyFrom_32 : decode cX2_copyFrom 32 = .ok (.aload_n 1, 1) := by decide +kernel
theorem dX2_copyFrom_33 : decode cX2_copyFrom 33 = .ok (.iload_n 2, 1) := by decide +kernel
theorem dX2_copyFrom_34 : decode cX2_copyFrom 34 = .ok (.invokevirtual 65, 3) := by decide +kernel
theorem dX2_copyFrom_37 : decode cX2_copyFrom 37 = .ok (.iastore, 1) := by decide +kernel
theorem dX2_copyFrom_38 : decode cX2_copyFrom 38 = .ok (.iinc 2 1, 3) := by decide +kernel
theorem dX2_copyFrom_41 : decode cX2_copyFrom 41 = .ok (.goto (-31), 3) := by decide +kernel
theorem dX2_copyFrom_44 : decode cX2_copyFrom 44 = .ok (.aload_n 0, 1) := by decide +kernel
theorem dX2_copyFrom_45 : decode cX2_copyFrom 45 = .ok (.aload_n 1, 1) := by decide +kernel
theorem dX2_copyFrom_46 : decode cX2_copyFrom 46 = .ok (.getfield 15, 3) := by decide +kernel
theorem dX2_copyFrom_49 : decode cX2_copyFrom 49 = .ok (.putfield 15, 3) := by decide +kernel
theorem dX2_copyFrom_52 : decode cX2_copyFrom 52 = .ok (.aload_n 0, 1) := by decide +kernel
theorem dX2_copyFrom_53 : decode cX2_copyFrom 53 = .ok (.aload_n 1, 1) := by decide +kernel
theorem dX2_copyFrom_54 : decode cX2_copyFrom 54 = .ok (.getfield 47, 3) := by decide +kernel
theorem dX2_copyFrom_57 : decode cX2_copyFrom 57 = .ok (.putfield 47, 3) := by decide +kernel
theorem dX2_copyFrom_60 : decode cX2_copyFrom 60 = .ok (.aload_n 0, 1) := by decide +kernel
theorem dX2_copyFrom_61 : decode cX2_copyFrom 61 = .ok (.aload_n 1, 1) := by decide +kernel
theorem dX2_copyFrom_62 : decode cX2_copyFrom 62 = .ok (.getfield 29, 3) := by decide +kernel
theorem dX2_copyFrom_65 : decode cX2_copyFrom 65 = .ok (.putfield 29, 3) := by decide +kernel
theorem dX2_copyFrom_68 : decode cX2_copyFrom 68 = .ok (.aload_n 0, 1) := by decide +kernel
theorem dX2_copyFrom_69 : decode cX2_copyFrom 69 = .ok (.aload_n 1, 1) := by decide +kernel
theorem dX2_copyFrom_70 : decode cX2_copyFrom 70 = .ok (.getfield 32, 3) := by decide +kernel
theorem dX2_copyFrom_73 : decode cX2_copyFrom 73 = .ok (.putfield 32, 3) := by decide +kernel
theorem dX2_copyFrom_76 : decode cX2_copyFrom 76 = .ok (.aload_n 0, 1) := by decide +kernel
theorem dX2_copyFrom_77 : decode cX2_copyFrom 77 = .ok (.aload_n 1, 1) := by decide +kernel
theorem dX2_copyFrom_78 : decode cX2_copyFrom 78 = .ok (.getfield 35, 3) := by decide +kernel
theorem dX2_copyFrom_81 : decode cX2_copyFrom 81 = .ok (.putfield 35, 3) := by decide +kernel
theorem dX2_copyFrom_84 : decode cX2_copyFrom 84 = .ok (.aload_n 0, 1) := by decide +kernel
theorem dX2_copyFrom_85 : decode cX2_copyFrom 85 = .ok (.aload_n 1, 1) := by decide +kernel
theorem dX2_copyFrom_86 : decode cX2_copyFrom 86 = .ok (.getfield 53, 3) := by decide +kernel
theorem dX2_copyFrom_89 : decode cX2_copyFrom 89 = .ok (.putfield 53, 3) := by decide +kernel
theorem dX2_copyFrom_92 : decode cX2_copyFrom 92 = .ok (.aload_n 0, 1) := by decide +kernel
theorem dX2_copyFrom_93 : decode cX2_copyFrom 93 = .ok (.aload_n 1, 1) := by decide +kernel
theorem dX2_copyFrom_94 : decode cX2_copyFrom 94 = .ok (.getfield 56, 3) := by decide +kernel
theorem dX2_copyFrom_97 : decode cX2_copyFrom 97 = .ok (.putfield 56, 3) := by decide +kernel
theorem dX2_copyFrom_100 : decode cX2_copyFrom 100 = .ok (.aload_n 0, 1) := by decide +kernel
theorem dX2_copyFrom_101 : decode cX2_copyFrom 101 = .ok (.aload_n 1, 1) := by decide +kernel
theorem dX2_copyFrom_102 : decode cX2_copyFrom 102 = .ok (.getfield 22, 3) := by decide +kernel
theorem dX2_copyFrom_105 : decode cX2_copyFrom 105 = .ok (.putfield 22, 3) := by decide +kernel
theorem dX2_copyFrom_108 : decode cX2_copyFrom 108 = .ok (.return_, 1) := by decide +kernel
theorem dX3_init_0 : decode cX3_init 0 = .ok (.aload_n 0, 1) := by decide +kernel
theorem dX3_init_1 : decode cX3_init 1 = .ok (.invokespecial 3, 3) := by decide +kernel
theorem dX3_init_4 : decode cX3_init 4 = .ok (.aload_n 0, 1) := by decide +kernel
theorem dX3_init_5 : decode cX3_init 5 = .ok (.new 9, 3) := by decide +kernel
theorem dX3_init_8 : decode cX3_init 8 = .ok (.dup, 1) := by decide +kernel
theorem dX3_init_9 : decode cX3_init 9 = .ok (.sipush 160, 3) := by decide +kernel
theorem dX3_init_12 : decode cX3_init 12 = .ok (.invokespecial 11, 3) := by decide +kernel
theorem dX3_init_15 : decode cX3_init 15 = .ok (.putfield 14, 3) := by decide +kernel
theorem dX3_init_18 : decode cX3_init 18 = .ok (.aload_n 0, 1) := by decide +kernel
theorem dX3_init_19 : decode cX3_init 19 = .ok (.new 9, 3) := by decide +kernel
theorem dX3_init_22 : decode cX3_init 22 = .ok (.dup, 1) := by decide +kernel
theorem dX3_init_23 : decode cX3_init 23 = .ok (.bipush 12, 2) := by decide +kernel
theorem dX3_init_25 : decode cX3_init 25 = .ok (.invokespecial 11, 3) := by decide +kernel
theorem dX3_init_28 : decode cX3_init 28 = .ok (.putfield 20, 3) := by decide +kernel
theorem dX3_init_31 : decode cX3_init 31 = .ok (.aload_n 0, 1) := by decide +kernel
theorem dX3_init_32 : decode cX3_init 32 = .ok (.new 9, 3) := by decide +kernel
theorem dX3_init_35 : decode cX3_init 35 = .ok (.dup, 1) := by decide +kernel
theorem dX3_init_36 : decode cX3_init 36 = .ok (.bipush 12, 2) := by decide +kernel
theorem dX3_init_38 : decode cX3_init 38 = .ok (.invokespecial 11, 3) := by decide +kernel
theorem dX3_init_41 : decode cX3_init 41 = .ok (.putfield 23, 3) := by decide +kernel
theorem dX3_init_44 : decode cX3_init 44 = .ok (.return_, 1) := by decide +kernel
theorem dX3_isFull_0 : decode cX3_isFull 0 = .ok (.aload_n 0, 1) := by decide +kernel
theorem dX3_isFull_1 : decode cX3_isFull 1 = .ok (.getfield 26, 3) := by decide +kernel
theorem dX3_isFull_4 : decode cX3_isFull 4 = .ok (.sipush 160, 3) := by decide +kernel
theorem dX3_isFull_7 : decode cX3_isFull 7 = .ok (.if_icmp .lt 7, 3) := by decide +kernel
theorem dX3_isFull_10 : decode cX3_isFull 10 = .ok (.iconst 1, 1) := by decide +kernel
theorem dX3_isFull_11 : decode cX3_isFull 11 = .ok (.goto 4, 3) := by decide +kernel
theorem dX3_isFull_14 : decode cX3_isFull 14 = .ok (.iconst 0, 1) := by decide +kernel
theorem dX3_isFull_15 : decode cX3_isFull 15 = .ok (.ireturn, 1) := by decide +kernel
theorem dX3_addCharacter_0 : decode cX3_addCharacter 0 = .ok (.aload_n 0, 1) := by decide +kernel
theorem dX3_addCharacter_1 : decode cX3_addCharacter 1 = .ok (.getfield 14, 3) := by decide +kernel
theorem dX3_addCharacter_4 : decode cX3_addCharacter 4 = .ok (.aload_n 0, 1) := by decide +kernel
theorem dX3_addCharacter_5 : decode cX3_addCharacter 5 = .ok (.getfield 26, 3) := by decide +kernel
theorem dX3_addCharacter_8 : decode cX3_addCharacter 8 = .ok (.iload_n 1, 1) := by decide +kernel
theorem dX3_addCharacter_9 : decode cX3_addCharacter 9 = .ok (.invokevirtual 30, 3) := by decide +kernel
theorem dX3_addCharacter_12 : decode cX3_addCharacter 12 = .ok (.aload_n 0, 1) := by decide +kernel
theorem dX3_addCharacter_13 : decode cX3_addCharacter 13 = .ok (.dup, 1) := by decide +kernel
theorem dX3_addCharacter_14 : decode cX3_addCharacter 14 = .ok (.getfield 26, 3) := by decide +kernel
theorem dX3_addCharacter_17 : decode cX3_addCharacter 17 = .ok (.iconst 1, 1) := by decide +kernel
theorem dX3_addCharacter_18 : decode cX3_addCharacter 18 = .ok (.iadd, 1) := by decide +kernel
theorem dX3_addCharacter_19 : decode cX3_addCharacter 19 = .ok (.putfield 26, 3) := by decide +kernel
theorem dX3_addCharacter_22 : decode cX3_addCharacter 22 = .ok (.aload_n 0, 1) := by decide +kernel
theorem dX3_addCharacter_23 : decode cX3_addCharacter 23 = .ok (.getfield 26, 3) := by decide +kernel
theorem dX3_addCharacter_26 : decode cX3_addCharacter 26 = .ok (.ireturn, 1) := by decide +kernel
theorem dX3_makeEmpty_0 : decode cX3_makeEmpty 0 = .ok (.aload_n 0, 1) := by decide +kernel
theorem dX3_makeEmpty_1 : decode cX3_makeEmpty 1 = .ok (.getfield 26, 3) := by decide +kernel
theorem dX3_makeEmpty_4 : decode cX3_makeEmpty 4 = .ok (.istore_n 1, 1) := by decide +kernel
theorem dX3_makeEmpty_5 : decode cX3_makeEmpty 5 = .ok (.aload_n 0, 1) := by decide +kernel
theorem dX3_makeEmpty_6 : decode cX3_makeEmpty 6 = .ok (.iconst 0, 1) := by decide +kernel
theorem dX3_makeEmpty_7 : decode cX3_makeEmpty 7 = .ok (.putfield 26, 3) := by decide +kernel
theorem dX3_makeEmpty_10 : decode cX3_makeEmpty 10 = .ok (.iload_n 1, 1) := by decide +kernel
theorem dX3_makeEmpty_11 : decode cX3_makeEmpty 11 = .ok (.ireturn, 1) := by decide +kernel
theorem dX3_readPage_0 : decode cX3_readPage 0 = .ok (.aload_n 0, 1) := by decide +kernel
theorem dX3_readPage_1 : decode cX3_readPage 1 = .ok (.iconst 0, 1) := by decide +kernel
theorem dX3_readPage_2 : decode cX3_readPage 2 = .ok (.putfield 34, 3) := by decide +kernel
theorem dX3_readPage_5 : decode cX3_readPage 5 = .ok (.aload_n 0, 1) := by decide +kernel
theorem dX3_readPage_6 : decode cX3_readPage 6 = .ok (.sipush (-9999), 3) := by decide +kernel
theorem dX3_readPage_9 : decode cX3_readPage 9 = .ok (.putfield 37, 3) := by decide +kernel
theorem dX3_readPage_12 : decode cX3_readPage 12 = .ok (.aload_n 0, 1) := by decide +kernel
theorem dX3_readPage_13 : decode cX3_readPage 13 = .ok (.iconst 3, 1) := by decide +kernel
theorem dX3_readPage_14 : decode cX3_readPage 14 = .ok (.iconst 0, 1) := by decide +kernel
theorem dX3_readPage_15 : decode cX3_readPage 15 = .ok (.iconst 4, 1) := by decide +kernel
theorem dX3_readPage_16 : decode cX3_readPage 16 = .ok (.invokevirtual 40, 3) := by decide +kernel
theorem dX3_readPage_19 : decode cX3_readPage 19 = .ok (.istore_n 1, 1) := by decide +kernel
theorem dX3_readPage_20 : decode cX3_readPage 20 = .ok (.aload_n 0, 1) := by decide +kernel
theorem dX3_readPage_21 : decode cX3_readPage 21 = .ok (.aload_n 0, 1) := by decide +kernel
theorem dX3_readPage_22 : decode cX3_readPage 22 = .ok (.iconst 4, 1) := by decide +kernel
theorem dX3_readPage_23 : decode cX3_readPage 23 = .ok (.iconst 1, 1) := by decide +kernel
theorem dX3_readPage_24 : decode cX3_readPage 24 = .ok (.bipush 12, 2) := by decide +kernel
theorem dX3_readPage_26 : decode cX3_readPage 26 = .ok (.invokevirtual 40, 3) := by decide +kernel
theorem dX3_readPage_29 : decode cX3_readPage 29 = .ok (.putfield 44, 3) := by decide +kernel
theorem dX3_readPage_32 : decode cX3_readPage 32 = .ok (.iload_n 1, 1) := by decide +kernel
theorem dX3_readPage_33 : decode cX3_readPage 33 = .ok (.tableswitch 59 1 4 #[31, 38, 45, 52], 31) := by decide +kernel
theorem dX3_readPage_64 : decode cX3_readPage 64 = .ok (.aload_n 0, 1) := by decide +kernel
theorem dX3_readPage_65 : decode cX3_readPage 65 = .ok (.invokevirtual 47, 3) := by decide +kernel
theorem dX3_readPage_68 : decode cX3_readPage 68 = .ok (.goto 28, 3) := by decide +kernel
theorem dX3_readPage_71 : decode cX3_readPage 71 = .ok (.aload_n 0, 1) := by decide +kernel
theorem dX3_readPage_72 : decode cX3_readPage 72 = .ok (.invokevirtual 50, 3) := by decide +kernel
theorem dX3_readPage_75 : decode cX3_readPage 75 = .ok (.goto 21, 3) := by decide +kernel
theorem dX3_readPage_78 : decode cX3_readPage 78 = .ok (.aload_n 0, 1) := by decide +kernel
theorem dX3_readPage_79 : decode cX3_readPage 79 = .ok (.invokevirtual 53, 3) := by decide +kernel
theorem dX3_readPage_82 : decode cX3_readPage 82 = .ok (.goto 14, 3) := by decide +kernel
theorem dX3_readPage_85 : decode cX3_readPage 85 = .ok (.aload_n 0, 1) := by decide +kernel
theorem dX3_readPage_86 : decode cX3_readPage 86 = .ok (.invokevirtual 56, 3) := by decide +kernel
theorem dX3_readPage_89 : decode cX3_readPage 89 = .ok (.goto 7, 3) := by decide +kernel
theorem dX3_readPage_92 : decode cX3_readPage 92 = .ok (.aload_n 0, 1) := by decide +kernel
theorem dX3_readPage_93 : decode cX3_readPage 93 = .ok (.invokevirtual 59, 3) := by decide +kernel
theorem dX3_readPage_96 : decode cX3_readPage 96 = .ok (.aload_n 0, 1) := by decide +kernel
theorem dX3_readPage_97 : decode cX3_readPage 97 = .ok (.getfield 37, 3) := by decide +kernel
theorem dX3_readPage_100 : decode cX3_readPage 100 = .ok (.sipush (-9999), 3) := by decide +kernel
theorem dX3_readPage_103 : decode cX3_readPage 103 = .ok (.if_icmp .ne 22, 3) := by decide +kernel
theorem dX3_readPage_106 : decode cX3_readPage 106 = .ok (.aload_n 0, 1) := by decide +kernel
theorem dX3_readPage_107 : decode cX3_readPage 107 = .ok (.getfield 34, 3) := by decide +kernel
theorem dX3_readPage_110 : decode cX3_readPage 110 = .ok (.aload_n 0, 1) := by decide +kernel
theorem dX3_readPage_111 : decode cX3_readPage 111 = .ok (.getfield 26, 3) := by decide +kernel
theorem dX3_readPage_114 : decode cX3_readPage 114 = .ok (.if_icmp .ge 11, 3) := by decide +kernel
theorem dX3_readPage_117 : decode cX3_readPage 117 = .ok (.aload_n 0, 1) := by decide +kernel
theorem dX3_readPage_118 : decode cX3_readPage 118 = .ok (.aload_n 0, 1) := by decide +kernel
theorem dX3_readPage_119 : decode cX3_readPage 119 = .ok (.getfield 34, 3) := by decide +kernel
theorem dX3_readPage_122 : decode cX3_readPage 122 = .ok (.putfield 37, 3) := by decide +kernel
theorem dX3_readPage_125 : decode cX3_readPage 125 = .ok (.aload_n 0, 1) := by decide +kernel
theorem dX3_readPage_126 : decode cX3_readPage 126 = .ok (.getfield 37, 3) := by decide +kernel
theorem dX3_readPage_129 : decode cX3_readPage 129 = .ok (.ireturn, 1) := by decide +kernel
theorem dX3_readNumber_0 : decode cX3_readNumber 0 = .ok (.iconst 0, 1) := by decide +kernel
theorem dX3_readNumber_1 : decode cX3_readNumber 1 = .ok (.istore 4, 2) := by decide +kernel
theorem dX3_readNumber_3 : decode cX3_readNumber 3 = .ok (.iload_n 1, 1) := by decide +kernel
theorem dX3_readNumber_4 : decode cX3_readNumber 4 = .ok (.iconst 1, 1) := by decide +kernel
theorem dX3_readNumber_5 : decode cX3_readNumber 5 = .ok (.isub, 1) := by decide +kernel
theorem dX3_readNumber_6 : decode cX3_readNumber 6 = .ok (.istore 5, 2) := by decide +kernel
theorem dX3_readNumber_8 : decode cX3_readNumber 8 = .ok (.iload 5, 2) := by decide +kernel
theorem dX3_readNumber_10 : decode cX3_readNumber 10 = .ok (.ifCond .lt 98, 3) := by decide +kernel
theorem dX3_readNumber_13 : decode cX3_readNumber 13 = .ok (.aload_n 0, 1) := by decide +kernel
theorem dX3_readNumber_14 : decode cX3_readNumber 14 = .ok (.getfield 37, 3) := by decide +kernel
theorem dX3_readNumber_17 : decode cX3_readNumber 17 = .ok (.sipush (-9999), 3) := by decide +kernel
theorem dX3_readNumber_20 : decode cX3_readNumber 20 = .ok (.if_icmp .ne 88, 3) := by decide +kernel
theorem dX3_readNumber_23 : decode cX3_readNumber 23 = .ok (.aload_n 0, 1) := by decide +kernel
theorem dX3_readNumber_24 : decode cX3_readNumber 24 = .ok (.invokevirtual 62, 3) := by decide +kernel
theorem dX3_readNumber_27 : decode cX3_readNumber 27 = .ok (.istore 6, 2) := by decide +kernel
theorem dX3_readNumber_29 : decode cX3_readNumber 29 = .ok (.iconst 2, 1) := by decide +kernel
theorem dX3_readNumber_30 : decode cX3_readNumber 30 = .ok (.iload 4, 2) := by decide +kernel
theorem dX3_readNumber_32 : decode cX3_readNumber 32 = .ok (.imul, 1) := by decide +kernel
theorem dX3_readNumber_33 : decode cX3_readNumber 33 = .ok (.iload 6, 2) := by decide +kernel
theorem dX3_readNumber_35 : decode cX3_readNumber 35 = .ok (.iadd, 1) := by decide +kernel
theorem dX3_readNumber_36 : decode cX3_readNumber 36 = .ok (.iload 5, 2) := by decide +kernel
theorem dX3_readNumber_38 : decode cX3_readNumber 38 = .ok (.ishl, 1) := by decide +kernel
theorem dX3_readNumber_39 : decode cX3_readNumber 39 = .ok (.istore 7, 2) := by decide +kernel
theorem dX3_readNumber_41 : decode cX3_readNumber 41 = .ok (.iload 7, 2) := by decide +kernel
theorem dX3_readNumber_43 : decode cX3_readNumber 43 = .ok (.iconst 1, 1) := by decide +kernel
theorem dX3_readNumber_44 : decode cX3_readNumber 44 = .ok (.iload 5, 2) := by decide +kernel
theorem dX3_readNumber_46 : decode cX3_readNumber 46 = .ok (.ishl, 1) := by decide +kernel
theorem dX3_readNumber_47 : decode cX3_readNumber 47 = .ok (.iadd, 1) := by decide +kernel
theorem dX3_readNumber_48 : decode cX3_readNumber 48 = .ok (.iconst 1, 1) := by decide +kernel
theorem dX3_readNumber_49 : decode cX3_readNumber 49 = .ok (.isub, 1) := by decide +kernel
theorem dX3_readNumber_50 : decode cX3_readNumber 50 = .ok (.istore 8, 2) := by decide +kernel
theorem dX3_readNumber_52 : decode cX3_readNumber 52 = .ok (.iload 6, 2) := by decide +kernel
theorem dX3_readNumber_54 : decode cX3_readNumber 54 = .ok (.sipush (-9999), 3) := by decide +kernel
theorem dX3_readNumber_57 : decode cX3_readNumber 57 = .ok (.if_icmp .eq 15, 3) := by decide +kernel
theorem dX3_readNumber_60 : decode cX3_readNumber 60 = .ok (.iload 7, 2) := by decide +kernel
theorem dX3_readNumber_62 : decode cX3_readNumber 62 = .ok (.iload_n 3, 1) := by decide +kernel
theorem dX3_readNumber_63 : decode cX3_readNumber 63 = .ok (.if_icmp .gt 9, 3) := by decide +kernel
theorem dX3_readNumber_66 : decode cX3_readNumber 66 = .ok (.iload 8, 2) := by decide +kernel
theorem dX3_readNumber_68 : decode cX3_readNumber 68 = .ok (.iload_n 2, 1) := by decide +kernel
theorem dX3_readNumber_69 : decode cX3_readNumber 69 = .ok (.if_icmp .ge 14, 3) := by decide +kernel
theorem dX3_readNumber_72 : decode cX3_readNumber 72 = .ok (.aload_n 0, 1) := by decide +kernel
theorem dX3_readNumber_73 : decode cX3_readNumber 73 = .ok (.aload_n 0, 1) := by decide +kernel
theorem dX3_readNumber_74 : decode cX3_readNumber 74 = .ok (.getfield 34, 3) := by decide +kernel
theorem dX3_readNumber_77 : decode cX3_readNumber 77 = .ok (.putfield 37, 3) := by decide +kernel
theorem dX3_readNumber_80 : decode cX3_readNumber 80 = .ok (.goto 22, 3) := by decide +kernel
theorem dX3_readNumber_83 : decode cX3_readNumber 83 = .ok (.iconst 2, 1) := by decide +kernel
theorem dX3_readNumber_84 : decode cX3_readNumber 84 = .ok (.iload 4, 2) := by decide +kernel
theorem dX3_readNumber_86 : decode cX3_readNumber 86 = .ok (.imul, 1) := by decide +kernel
theorem dX3_readNumber_87 : decode cX3_readNumber 87 = .ok (.iload 6, 2) := by decide +kernel
theorem dX3_readNumber_89 : decode cX3_readNumber 89 = .ok (.iadd, 1) := by decide +kernel
theorem dX3_readNumber_90 : decode cX3_readNumber 90 = .ok (.istore 4, 2) := by decide +kernel
theorem dX3_readNumber_92 : decode cX3_readNumber 92 = .ok (.aload_n 0, 1) := by decide +kernel
theorem dX3_readNumber_93 : decode cX3_readNumber 93 = .ok (.dup, 1) := by decide +kernel
theorem dX3_readNumber_94 : decode cX3_readNumber 94 = .ok (.getfield 34, 3) := by decide +kernel
theorem dX3_readNumber_97 : decode cX3_readNumber 97 = .ok (.iconst 1, 1) := by decide +kernel
theorem dX3_readNumber_98 : decode cX3_readNumber 98 = .ok (.iadd, 1) := by decide +kernel
theorem dX3_readNumber_99 : decode cX3_readNumber 99 = .ok (.putfield 34, 3) := by decide +kernel
theorem dX3_readNumber_102 : decode cX3_readNumber 102 = .ok (.iinc 5 (-1), 3) := by decide +kernel
theorem dX3_readNumber_105 : decode cX3_readNumber 105 = .ok (.goto (-97), 3) := by decide +kernel
theorem dX3_readNumber_108 : decode cX3_readNumber 108 = .ok (.aload_n 0, 1) := by decide +kernel
theorem dX3_readNumber_109 : decode cX3_readNumber 109 = .ok (.getfield 37, 3) := by decide +kernel
theorem dX3_readNumber_112 : decode cX3_readNumber 112 = .ok (.sipush (-9999), 3) := by decide +kernel
theorem dX3_readNumber_115 : decode cX3_readNumber 115 = .ok (.if_icmp .ne 8, 3) := by decide +kernel
theorem dX3_readNumber_118 : decode cX3_readNumber 118 = .ok (.iload 4, 2) := by decide +kernel
theorem dX3_readNumber_120 : decode cX3_readNumber 120 = .ok (.goto 4, 3) := by decide +kernel
theorem dX3_readNumber_123 : decode cX3_readNumber 123 = .ok (.iload_n 2, 1) := by decide +kernel
theorem dX3_readNumber_124 : decode cX3_readNumber 124 = .ok (.ireturn, 1) := by decide +kernel
theorem dX3_digitHere_0 : decode cX3_digitHere 0 = .ok (.aload_n 0, 1) := by decide +kernel
theorem dX3_digitHere_1 : decode cX3_digitHere 1 = .ok (.getfield 34, 3) := by decide +kernel
theorem dX3_digitHere_4 : decode cX3_digitHere 4 = .ok (.aload_n 0, 1) := by decide +kernel
theorem dX3_digitHere_5 : decode cX3_digitHere 5 = .ok (.getfield 26, 3) := by decide +kernel
theorem dX3_digitHere_8 : decode cX3_digitHere 8 = .ok (.if_icmp .lt 7, 3) := by decide +kernel
theorem dX3_digitHere_11 : decode cX3_digitHere 11 = .ok (.sipush (-9999), 3) := by decide +kernel
theorem dX3_digitHere_14 : decode cX3_digitHere 14 = .ok (.ireturn, 1) := by decide +kernel
theorem dX3_digitHere_15 : decode cX3_digitHere 15 = .ok (.aload_n 0, 1) := by decide +kernel
theorem dX3_digitHere_16 : decode cX3_digitHere 16 = .ok (.getfield 14, 3) := by decide +kernel
theorem dX3_digitHere_19 : decode cX3_digitHere 19 = .ok (.aload_n 0, 1) := by decide +kernel
theorem dX3_digitHere_20 : decode cX3_digitHere 20 = .ok (.getfield 34, 3) := by decide +kernel
theorem dX3_digitHere_23 : decode cX3_digitHere 23 = .ok (.invokevirtual 66, 3) := by decide +kernel
theorem dX3_digitHere_26 : decode cX3_digitHere 26 = .ok (.istore_n 1, 1) := by decide +kernel
theorem dX3_digitHere_27 : decode cX3_digitHere 27 = .ok (.iload_n 1, 1) := by decide +kernel
theorem dX3_digitHere_28 : decode cX3_digitHere 28 = .ok (.bipush 48, 2) := by decide +kernel
theorem dX3_digitHere_30 : decode cX3_digitHere 30 = .ok (.if_icmp .ne 5, 3) := by decide +kernel
theorem dX3_digitHere_33 : decode cX3_digitHere 33 = .ok (.iconst 0, 1) := by decide +kernel
theorem dX3_digitHere_34 : decode cX3_digitHere 34 = .ok (.ireturn, 1) := by decide +kernel
theorem dX3_digitHere_35 : decode cX3_digitHere 35 = .ok (.iload_n 1, 1) := by decide +kernel
theorem dX3_digitHere_36 : decode cX3_digitHere 36 = .ok (.bipush 49, 2) := by decide +kernel
theorem dX3_digitHere_38 : decode cX3_digitHere 38 = .ok (.if_icmp .ne 7, 3) := by decide +kernel
theorem dX3_digitHere_41 : decode cX3_digitHere 41 = .ok (.iconst 1, 1) := by decide +kernel
theorem dX3_digitHere_42 : decode cX3_digitHere 42 = .ok (.goto 6, 3) := by decide +kernel
theorem dX3_digitHere_45 : decode cX3_digitHere 45 = .ok (.sipush (-9999), 3) := by decide +kernel
theorem dX3_digitHere_48 : decode cX3_digitHere 48 = .ok (.ireturn, 1) := by decide +kernel
theorem dX3_readValue_0 : decode cX3_readValue 0 = .ok (.aload_n 0, 1) := by decide +kernel
theorem dX3_readValue_1 : decode cX3_readValue 1 = .ok (.bipush 10, 2) := by decide +kernel
theorem dX3_readValue_3 : decode cX3_readValue 3 = .ok (.iconst 0, 1) := by decide +kernel
theorem dX3_readValue_4 : decode cX3_readValue 4 = .ok (.sipush 1023, 3) := by decide +kernel
theorem dX3_readValue_7 : decode cX3_readValue 7 = .ok (.invokevirtual 40, 3) := by decide +kernel
theorem dX3_readValue_10 : decode cX3_readValue 10 = .ok (.ireturn, 1) := by decide +kernel
theorem dX3_readPlain_0 : decode cX3_readPlain 0 = .ok (.iconst 0, 1) := by decide +kernel
theorem dX3_readPlain_1 : decode cX3_readPlain 1 = .ok (.istore_n 1, 1) := by decide +kernel
theorem dX3_readPlain_2 : decode cX3_readPlain 2 = .ok (.iload_n 1, 1) := by decide +kernel
theorem dX3_readPlain_3 : decode cX3_readPlain 3 = .ok (.aload_n 0, 1) := by decide +kernel
theorem dX3_readPlain_4 : decode cX3_readPlain 4 = .ok (.getfield 44, 3) := by decide +kernel
theorem dX3_readPlain_7 : decode cX3_readPlain 7 = .ok (.if_icmp .ge 21, 3) := by decide +kernel
theorem dX3_readPlain_10 : decode cX3_readPlain 10 = .ok (.aload_n 0, 1) := by decide +kernel
theorem dX3_readPlain_11 : decode cX3_readPlain 11 = .ok (.getfield 20, 3) := by decide +kernel
theorem dX3_readPlain_14 : decode cX3_readPlain 14 = .ok (.iload_n 1, 1) := by decide +kernel
theorem dX3_readPlain_15 : decode cX3_readPlain 15 = .ok (.aload_n 0, 1) := by decide +kernel
theorem dX3_readPlain_16 : decode cX3_readPlain 16 = .ok (.invokevirtual 70, 3) := by decide +kernel
theorem dX3_readPlain_19 : decode cX3_readPlain 19 = .ok (.invokevirtual 30, 3) := by decide +kernel
theorem dX3_readPlain_22 : decode cX3_readPlain 22 = .ok (.iinc 1 1, 3) := by decide +kernel
theorem dX3_readPlain_25 : decode cX3_readPlain 25 = .ok (.goto (-23), 3) := by decide +kernel
theorem dX3_readPlain_28 : decode cX3_readPlain 28 = .ok (.return_, 1) := by decide +kernel
theorem dX3_readWords_0 : decode cX3_readWords 0 = .ok (.aload_n 0, 1) := by decide +kernel
theorem dX3_readWords_1 : decode cX3_readWords 1 = .ok (.iconst 4, 1) := by decide +kernel
theorem dX3_readWords_2 : decode cX3_readWords 2 = .ok (.iconst 1, 1) := by decide +kernel
theorem dX3_readWords_3 : decode cX3_readWords 3 = .ok (.aload_n 0, 1) := by decide +kernel
theorem dX3_readWords_4 : decode cX3_readWords 4 = .ok (.getfield 44, 3) := by decide +kernel
theorem dX3_readWords_7 : decode cX3_readWords 7 = .ok (.invokevirtual 40, 3) := by decide +kernel
theorem dX3_readWords_10 : decode cX3_readWords 10 = .ok (.istore_n 1, 1) := by decide +kernel
theorem dX3_readWords_11 : decode cX3_readWords 11 = .ok (.iconst 0, 1) := by decide +kernel
theorem dX3_readWords_12 : decode cX3_readWords 12 = .ok (.istore_n 2, 1) := by decide +kernel
theorem dX3_readWords_13 : decode cX3_readWords 13 = .ok (.iload_n 2, 1) := by decide +kernel
theorem dX3_readWords_14 : decode cX3_readWords 14 = .ok (.iload_n 1, 1) := by decide +kernel
theorem dX3_readWords_15 : decode cX3_readWords 15 = .ok (.if_icmp .ge 21, 3) := by decide +kernel
theorem dX3_readWords_18 : decode cX3_readWords 18 = .ok (.aload_n 0, 1) := by decide +kernel
theorem dX3_readWords_19 : decode cX3_readWords 19 = .ok (.getfield 23, 3) := by decide +kernel
theorem dX3_readWords_22 : decode cX3_readWords 22 = .ok (.iload_n 2, 1) := by decide +kernel
theorem dX3_readWords_23 : decode cX3_readWords 23 = .ok (.aload_n 0, 1) := by decide +kernel
theorem dX3_readWords_24 : decode cX3_readWords 24 = .ok (.invokevirtual 70, 3) := by decide +kernel
theorem dX3_readWords_27 : decode cX3_readWords 27 = .ok (.invokevirtual 30, 3) := by decide +kernel
theorem dX3_readWords_30 : decode cX3_readWords 30 = .ok (.iinc 2 1, 3) := by decide +kernel
theorem dX3_readWords_33 : decode cX3_readWords 33 = .ok (.goto (-20), 3) := by decide +kernel
theorem dX3_readWords_36 : decode cX3_readWords 36 = .ok (.iload_n 1, 1) := by decide +kernel
theorem dX3_readWords_37 : decode cX3_readWords 37 = .ok (.iconst 1, 1) := by decide +kernel
theorem dX3_readWords_38 : decode cX3_readWords 38 = .ok (.isub, 1) := by decide +kernel
theorem dX3_readWords_39 : decode cX3_readWords 39 = .ok (.invokestatic 73, 3) := by decide +kernel
theorem dX3_readWords_42 : decode cX3_readWords 42 = .ok (.istore_n 2, 1) := by decide +kernel
theorem dX3_readWords_43 : decode cX3_readWords 43 = .ok (.iconst 0, 1) := by decide +kernel
theorem dX3_readWords_44 : decode cX3_readWords 44 = .ok (.istore_n 3, 1) := by decide +kernel
theorem dX3_readWords_45 : decode cX3_readWords 45 = .ok (.iload_n 3, 1) := by decide +kernel
theorem dX3_readWords_46 : decode cX3_readWords 46 = .ok (.aload_n 0, 1) := by decide +kernel
theorem dX3_readWords_47 : decode cX3_readWords 47 = .ok (.getfield 44, 3) := by decide +kernel
theorem dX3_readWords_50 : decode cX3_readWords 50 = .ok (.if_icmp .ge 33, 3) := by decide +kernel
theorem dX3_readWords_53 : decode cX3_readWords 53 = .ok (.aload_n 0, 1) := by decide +kernel
theorem dX3_readWords_54 : decode cX3_readWords 54 = .ok (.getfield 20, 3) := by decide +kernel
theorem dX3_readWords_57 : decode cX3_readWords 57 = .ok (.iload_n 3, 1) := by decide +kernel
theorem dX3_readWords_58 : decode cX3_readWords 58 = .ok (.aload_n 0, 1) := by decide +kernel
theorem dX3_readWords_59 : decode cX3_readWords 59 = .ok (.getfield 23, 3) := by decide +kernel
theorem dX3_readWords_62 : decode cX3_readWords 62 = .ok (.aload_n 0, 1) := by decide +kernel
theorem dX3_readWords_63 : decode cX3_readWords 63 = .ok (.iload_n 2, 1) := by decide +kernel
theorem dX3_readWords_64 : decode cX3_readWords 64 = .ok (.iconst 0, 1) := by decide +kernel
theorem dX3_readWords_65 : decode cX3_readWords 65 = .ok (.iload_n 1, 1) := by decide +kernel
theorem dX3_readWords_66 : decode cX3_readWords 66 = .ok (.iconst 1, 1) := by decide +kernel
theorem dX3_readWords_67 : decode cX3_readWords 67 = .ok (.isub, 1) := by decide +kernel
theorem dX3_readWords_68 : decode cX3_readWords 68 = .ok (.invokevirtual 40, 3) := by decide +kernel
theorem dX3_readWords_71 : decode cX3_readWords 71 = .ok (.invokevirtual 66, 3) := by decide +kernel
theorem dX3_readWords_74 : decode cX3_readWords 74 = .ok (.invokevirtual 30, 3) := by decide +kernel
theorem dX3_readWords_77 : decode cX3_readWords 77 = .ok (.iinc 3 1, 3) := by decide +kernel
theorem dX3_readWords_80 : decode cX3_readWords 80 = .ok (.goto (-35), 3) := by decide +kernel
theorem dX3_readWords_83 : decode cX3_readWords 83 = .ok (.return_, 1) := by decide +kernel
theorem dX3_readRuns_0 : decode cX3_readRuns 0 = .ok (.iconst 0, 1) := by decide +kernel
theorem dX3_readRuns_1 : decode cX3_readRuns 1 = .ok (.istore_n 1, 1) := by decide +kernel
theorem dX3_readRuns_2 : decode cX3_readRuns 2 = .ok (.iconst 0, 1) := by decide +kernel
theorem dX3_readRuns_3 : decode cX3_readRuns 3 = .ok (.istore_n 2, 1) := by decide +kernel
theorem dX3_readRuns_4 : decode cX3_readRuns 4 = .ok (.iconst 0, 1) := by decide +kernel
theorem dX3_readRuns_5 : decode cX3_readRuns 5 = .ok (.istore_n 3, 1) := by decide +kernel
theorem dX3_readRuns_6 : decode cX3_readRuns 6 = .ok (.iload_n 3, 1) := by decide +kernel
theorem dX3_readRuns_7 : decode cX3_readRuns 7 = .ok (.aload_n 0, 1) := by decide +kernel
theorem dX3_readRuns_8 : decode cX3_readRuns 8 = .ok (.getfield 44, 3) := by decide +kernel
theorem dX3_readRuns_11 : decode cX3_readRuns 11 = .ok (.if_icmp .ge 43, 3) := by decide +kernel
theorem dX3_readRuns_14 : decode cX3_readRuns 14 = .ok (.iload_n 3, 1) := by decide +kernel
theorem dX3_readRuns_15 : decode cX3_readRuns 15 = .ok (.iload_n 2, 1) := by decide +kernel
theorem dX3_readRuns_16 : decode cX3_readRuns 16 = .ok (.if_icmp .ne 23, 3) := by decide +kernel
theorem dX3_readRuns_19 : decode cX3_readRuns 19 = .ok (.aload_n 0, 1) := by decide +kernel
theorem dX3_readRuns_20 : decode cX3_readRuns 20 = .ok (.invokevirtual 70, 3) := by decide +kernel
theorem dX3_readRuns_23 : decode cX3_readRuns 23 = .ok (.istore_n 1, 1) := by decide +kernel
theorem dX3_readRuns_24 : decode cX3_readRuns 24 = .ok (.iload_n 3, 1) := by decide +kernel
theorem dX3_readRuns_25 : decode cX3_readRuns 25 = .ok (.aload_n 0, 1) := by decide +kernel
theorem dX3_readRuns_26 : decode cX3_readRuns 26 = .ok (.iconst 4, 1) := by decide +kernel
theorem dX3_readRuns_27 : decode cX3_readRuns 27 = .ok (.iconst 1, 1) := by decide +kernel
theorem dX3_readRuns_28 : decode cX3_readRuns 28 = .ok (.aload_n 0, 1) := by decide +kernel
theorem dX3_readRuns_29 : decode cX3_readRuns 29 = .ok (.getfield 44, 3) := by decide +kernel
theorem dX3_readRuns_32 : decode cX3_readRuns 32 = .ok (.iload_n 3, 1) := by decide +kernel
theorem dX3_readRuns_33 : decode cX3_readRuns 33 = .ok (.isub, 1) := by decide +kernel
theorem dX3_readRuns_34 : decode cX3_readRuns 34 = .ok (.invokevirtual 40, 3) := by decide +kernel
theorem dX3_readRuns_37 : decode cX3_readRuns 37 = .ok (.iadd, 1) := by decide +kernel
theorem dX3_readRuns_38 : decode cX3_readRuns 38 = .ok (.istore_n 2, 1) := by decide +kernel
theorem dX3_readRuns_39 : decode cX3_readRuns 39 = .ok (.aload_n 0, 1) := by decide +kernel
theorem dX3_readRuns_40 : decode cX3_readRuns 40 = .ok (.getfield 20, 3) := by decide +kernel
theorem dX3_readRuns_43 : decode cX3_readRuns 43 = .ok (.iload_n 3, 1) := by decide +kernel
theorem dX3_readRuns_44 : decode cX3_readRuns 44 = .ok (.iload_n 1, 1) := by decide +kernel
theorem dX3_readRuns_45 : decode cX3_readRuns 45 = .ok (.invokevirtual 30, 3) := by decide +kernel
theorem dX3_readRuns_48 : decode cX3_readRuns 48 = .ok (.iinc 3 1, 3) := by decide +kernel
theorem dX3_readRuns_51 : decode cX3_readRuns 51 = .ok (.goto (-45), 3) := by decide +kernel
theorem dX3_readRuns_54 : decode cX3_readRuns 54 = .ok (.return_, 1) := by decide +kernel
theorem dX3_readSmall_0 : decode cX3_readSmall 0 = .ok (.aload_n 0, 1) := by decide +kernel
theorem dX3_readSmall_1 : decode cX3_readSmall 1 = .ok (.invokevirtual 70, 3) := by decide +kernel
theorem dX3_readSmall_4 : decode cX3_readSmall 4 = .ok (.istore_n 1, 1) := by decide +kernel
theorem dX3_readSmall_5 : decode cX3_readSmall 5 = .ok (.aload_n 0, 1) := by decide +kernel
theorem dX3_readSmall_6 : decode cX3_readSmall 6 = .ok (.iconst 4, 1) := by decide +kernel
theorem dX3_readSmall_7 : decode cX3_readSmall 7 = .ok (.iconst 0, 1) := by decide +kernel
theorem dX3_readSmall_8 : decode cX3_readSmall 8 = .ok (.bipush 10, 2) := by decide +kernel
theorem dX3_readSmall_10 : decode cX3_readSmall 10 = .ok (.invokevirtual 40, 3) := by decide +kernel
theorem dX3_readSmall_13 : decode cX3_readSmall 13 = .ok (.istore_n 2, 1) := by decide +kernel
theorem dX3_readSmall_14 : decode cX3_readSmall 14 = .ok (.iconst 0, 1) := by decide +kernel
theorem dX3_readSmall_15 : decode cX3_readSmall 15 = .ok (.istore_n 3, 1) := by decide +kernel
theorem dX3_readSmall_16 : decode cX3_readSmall 16 = .ok (.iload_n 3, 1) := by decide +kernel
theorem dX3_readSmall_17 : decode cX3_readSmall 17 = .ok (.aload_n 0, 1) := by decide +kernel
theorem dX3_readSmall_18 : decode cX3_readSmall 18 = .ok (.getfield 44, 3) := by decide +kernel
theorem dX3_readSmall_21 : decode cX3_readSmall 21 = .ok (.if_icmp .ge 30, 3) := by decide +kernel
theorem dX3_readSmall_24 : decode cX3_readSmall 24 = .ok (.aload_n 0, 1) := by decide +kernel
theorem dX3_readSmall_25 : decode cX3_readSmall 25 = .ok (.getfield 20, 3) := by decide +kernel
theorem dX3_readSmall_28 : decode cX3_readSmall 28 = .ok (.iload_n 3, 1) := by decide +kernel
theorem dX3_readSmall_29 : decode cX3_readSmall 29 = .ok (.iload_n 1, 1) := by decide +kernel
theorem dX3_readSmall_30 : decode cX3_readSmall 30 = .ok (.aload_n 0, 1) := by decide +kernel
theorem dX3_readSmall_31 : decode cX3_readSmall 31 = .ok (.iload_n 2, 1) := by decide +kernel
theorem dX3_readSmall_32 : decode cX3_readSmall 32 = .ok (.iconst 0, 1) := by decide +kernel
theorem dX3_readSmall_33 : decode cX3_readSmall 33 = .ok (.sipush 1023, 3) := by decide +kernel
theorem dX3_readSmall_36 : decode cX3_readSmall 36 = .ok (.iload_n 1, 1) := by decide +kernel
theorem dX3_readSmall_37 : decode cX3_readSmall 37 = .ok (.isub, 1) := by decide +kernel
theorem dX3_readSmall_38 : decode cX3_readSmall 38 = .ok (.invokevirtual 40, 3) := by decide +kernel
theorem dX3_readSmall_41 : decode cX3_readSmall 41 = .ok (.iadd, 1) := by decide +kernel
theorem dX3_readSmall_42 : decode cX3_readSmall 42 = .ok (.invokevirtual 30, 3) := by decide +kernel
theorem dX3_readSmall_45 : decode cX3_readSmall 45 = .ok (.iinc 3 1, 3) := by decide +kernel
theorem dX3_readSmall_48 : decode cX3_readSmall 48 = .ok (.goto (-32), 3) := by decide +kernel
theorem dX3_readSmall_51 : decode cX3_readSmall 51 = .ok (.return_, 1) := by decide +kernel
theorem dX3_readSteps_0 : decode cX3_readSteps 0 = .ok (.aload_n 0, 1) := by decide +kernel
theorem dX3_readSteps_1 : decode cX3_readSteps 1 = .ok (.invokevirtual 70, 3) := by decide +kernel
theorem dX3_readSteps_4 : decode cX3_readSteps 4 = .ok (.istore_n 1, 1) := by decide +kernel
theorem dX3_readSteps_5 : decode cX3_readSteps 5 = .ok (.aload_n 0, 1) := by decide +kernel
theorem dX3_readSteps_6 : decode cX3_readSteps 6 = .ok (.iconst 4, 1) := by decide +kernel
theorem dX3_readSteps_7 : decode cX3_readSteps 7 = .ok (.iconst 1, 1) := by decide +kernel
theorem dX3_readSteps_8 : decode cX3_readSteps 8 = .ok (.bipush 11, 2) := by decide +kernel
theorem dX3_readSteps_10 : decode cX3_readSteps 10 = .ok (.invokevirtual 40, 3) := by decide +kernel
theorem dX3_readSteps_13 : decode cX3_readSteps 13 = .ok (.istore_n 2, 1) := by decide +kernel
theorem dX3_readSteps_14 : decode cX3_readSteps 14 = .ok (.aload_n 0, 1) := by decide +kernel
theorem dX3_readSteps_15 : decode cX3_readSteps 15 = .ok (.getfield 20, 3) := by decide +kernel
theorem dX3_readSteps_18 : decode cX3_readSteps 18 = .ok (.iconst 0, 1) := by decide +kernel
theorem dX3_readSteps_19 : decode cX3_readSteps 19 = .ok (.iload_n 1, 1) := by decide +kernel
theorem dX3_readSteps_20 : decode cX3_readSteps 20 = .ok (.invokevirtual 30, 3) := by decide +kernel
theorem dX3_readSteps_23 : decode cX3_readSteps 23 = .ok (.iconst 1, 1) := by decide +kernel
theorem dX3_readSteps_24 : decode cX3_readSteps 24 = .ok (.istore_n 3, 1) := by decide +kernel
theorem dX3_readSteps_25 : decode cX3_readSteps 25 = .ok (.iload_n 3, 1) := by decide +kernel
theorem dX3_readSteps_26 : decode cX3_readSteps 26 = .ok (.aload_n 0, 1) := by decide +kernel
theorem dX3_readSteps_27 : decode cX3_readSteps 27 = .ok (.getfield 44, 3) := by decide +kernel
theorem dX3_readSteps_30 : decode cX3_readSteps 30 = .ok (.if_icmp .ge 27, 3) := by decide +kernel
theorem dX3_readSteps_33 : decode cX3_readSteps 33 = .ok (.iload_n 1, 1) := by decide +kernel
theorem dX3_readSteps_34 : decode cX3_readSteps 34 = .ok (.aload_n 0, 1) := by decide +kernel
theorem dX3_readSteps_35 : decode cX3_readSteps 35 = .ok (.iload_n 2, 1) := by decide +kernel
theorem dX3_readSteps_36 : decode cX3_readSteps 36 = .ok (.iload_n 1, 1) := by decide +kernel
theorem dX3_readSteps_37 : decode cX3_readSteps 37 = .ok (.invokevirtual 76, 3) := by decide +kernel
theorem dX3_readSteps_40 : decode cX3_readSteps 40 = .ok (.iadd, 1) := by decide +kernel
theorem dX3_readSteps_41 : decode cX3_readSteps 41 = .ok (.istore_n 1, 1) := by decide +kernel
theorem dX3_readSteps_42 : decode cX3_readSteps 42 = .ok (.aload_n 0, 1) := by decide +kernel
theorem dX3_readSteps_43 : decode cX3_readSteps 43 = .ok (.getfield 20, 3) := by decide +kernel
theorem dX3_readSteps_46 : decode cX3_readSteps 46 = .ok (.iload_n 3, 1) := by decide +kernel
theorem dX3_readSteps_47 : decode cX3_readSteps 47 = .ok (.iload_n 1, 1) := by decide +kernel
theorem dX3_readSteps_48 : decode cX3_readSteps 48 = .ok (.invokevirtual 30, 3) := by decide +kernel
theorem dX3_readSteps_51 : decode cX3_readSteps 51 = .ok (.iinc 3 1, 3) := by decide +kernel
theorem dX3_readSteps_54 : decode cX3_readSteps 54 = .ok (.goto (-29), 3) := by decide +kernel
theorem dX3_readSteps_57 : decode cX3_readSteps 57 = .ok (.return_, 1) := by decide +kernel
theorem dX3_readStep_0 : decode cX3_readStep 0 = .ok (.iconst 1, 1) := by decide +kernel
theorem dX3_readStep_1 : decode cX3_readStep 1 = .ok (.iload_n 1, 1) := by decide +kernel
theorem dX3_readStep_2 : decode cX3_readStep 2 = .ok (.iconst 1, 1) := by decide +kernel
theorem dX3_readStep_3 : decode cX3_readStep 3 = .ok (.isub, 1) := by decide +kernel
theorem dX3_readStep_4 : decode cX3_readStep 4 = .ok (.ishl, 1) := by decide +kernel
theorem dX3_readStep_5 : decode cX3_readStep 5 = .ok (.istore_n 3, 1) := by decide +kernel
theorem dX3_readStep_6 : decode cX3_readStep 6 = .ok (.aload_n 0, 1) := by decide +kernel
theorem dX3_readStep_7 : decode cX3_readStep 7 = .ok (.iconst 1, 1) := by decide +kernel
theorem dX3_readStep_8 : decode cX3_readStep 8 = .ok (.iconst 0, 1) := by decide +kernel
theorem dX3_readStep_9 : decode cX3_readStep 9 = .ok (.iload_n 2, 1) := by decide +kernel
theorem dX3_readStep_10 : decode cX3_readStep 10 = .ok (.ifCond .le 7, 3) := by decide +kernel
theorem dX3_readStep_13 : decode cX3_readStep 13 = .ok (.iconst 1, 1) := by decide +kernel
theorem dX3_readStep_14 : decode cX3_readStep 14 = .ok (.goto 4, 3) := by decide +kernel
theorem dX3_readStep_17 : decode cX3_readStep 17 = .ok (.iconst 0, 1) := by decide +kernel
theorem dX3_readStep_18 : decode cX3_readStep 18 = .ok (.invokevirtual 40, 3) := by decide +kernel
theorem dX3_readStep_21 : decode cX3_readStep 21 = .ok (.iconst 1, 1) := by decide +kernel
theorem dX3_readStep_22 : decode cX3_readStep 22 = .ok (.if_icmp .ne 7, 3) := by decide +kernel
theorem dX3_readStep_25 : decode cX3_readStep 25 = .ok (.iconst 1, 1) := by decide +kernel
theorem dX3_readStep_26 : decode cX3_readStep 26 = .ok (.goto 4, 3) := by decide +kernel
theorem dX3_readStep_29 : decode cX3_readStep 29 = .ok (.iconst 0, 1) := by decide +kernel
theorem dX3_readStep_30 : decode cX3_readStep 30 = .ok (.istore 4, 2) := by decide +kernel
theorem dX3_readStep_32 : decode cX3_readStep 32 = .ok (.iload 4, 2) := by decide +kernel
theorem dX3_readStep_34 : decode cX3_readStep 34 = .ok (.ifCond .eq 23, 3) := by decide +kernel
theorem dX3_readStep_37 : decode cX3_readStep 37 = .ok (.aload_n 0, 1) := by decide +kernel
theorem dX3_readStep_38 : decode cX3_readStep 38 = .ok (.iload_n 1, 1) := by decide +kernel
theorem dX3_readStep_39 : decode cX3_readStep 39 = .ok (.iconst 1, 1) := by decide +kernel
theorem dX3_readStep_40 : decode cX3_readStep 40 = .ok (.isub, 1) := by decide +kernel
theorem dX3_readStep_41 : decode cX3_readStep 41 = .ok (.iload_n 3, 1) := by decide +kernel
theorem dX3_readStep_42 : decode cX3_readStep 42 = .ok (.iload_n 2, 1) := by decide +kernel
theorem dX3_readStep_43 : decode cX3_readStep 43 = .ok (.isub, 1) := by decide +kernel
theorem dX3_readStep_44 : decode cX3_readStep 44 = .ok (.iconst 0, 1) := by decide +kernel
theorem dX3_readStep_45 : decode cX3_readStep 45 = .ok (.invokestatic 80, 3) := by decide +kernel
theorem dX3_readStep_48 : decode cX3_readStep 48 = .ok (.iload_n 3, 1) := by decide +kernel
theorem dX3_readStep_49 : decode cX3_readStep 49 = .ok (.iconst 1, 1) := by decide +kernel
theorem dX3_readStep_50 : decode cX3_readStep 50 = .ok (.isub, 1) := by decide +kernel
theorem dX3_readStep_51 : decode cX3_readStep 51 = .ok (.invokevirtual 40, 3) := by decide +kernel
theorem dX3_readStep_54 : decode cX3_readStep 54 = .ok (.iload_n 3, 1) := by decide +kernel
theorem dX3_readStep_55 : decode cX3_readStep 55 = .ok (.isub, 1) := by decide +kernel
theorem dX3_readStep_56 : decode cX3_readStep 56 = .ok (.ireturn, 1) := by decide +kernel
theorem dX3_readStep_57 : decode cX3_readStep 57 = .ok (.aload_n 0, 1) := by decide +kernel
theorem dX3_readStep_58 : decode cX3_readStep 58 = .ok (.iload_n 1, 1) := by decide +kernel
theorem dX3_readStep_59 : decode cX3_readStep 59 = .ok (.iconst 1, 1) := by decide +kernel
theorem dX3_readStep_60 : decode cX3_readStep 60 = .ok (.isub, 1) := by decide +kernel
theorem dX3_readStep_61 : decode cX3_readStep 61 = .ok (.iconst 0, 1) := by decide +kernel
theorem dX3_readStep_62 : decode cX3_readStep 62 = .ok (.sipush 1023, 3) := by decide +kernel
theorem dX3_readStep_65 : decode cX3_readStep 65 = .ok (.iload_n 2, 1) := by decide +kernel
theorem dX3_readStep_66 : decode cX3_readStep 66 = .ok (.isub, 1) := by decide +kernel
theorem dX3_readStep_67 : decode cX3_readStep 67 = .ok (.invokevirtual 40, 3) := by decide +kernel
theorem dX3_readStep_70 : decode cX3_readStep 70 = .ok (.ireturn, 1) := by decide +kernel
theorem dX4_init_0 : decode cX4_init 0 = .ok (.aload_n 0, 1) := by decide +kernel
theorem dX4_init_1 : decode cX4_init 1 = .ok (.invokespecial 3, 3) := by decide +kernel
theorem dX4_init_4 : decode cX4_init 4 = .ok (.aload_n 0, 1) := by decide +kernel
theorem dX4_init_5 : decode cX4_init 5 = .ok (.new 9, 3) := by decide +kernel
theorem dX4_init_8 : decode cX4_init 8 = .ok (.dup, 1) := by decide +kernel
theorem dX4_init_9 : decode cX4_init 9 = .ok (.sipush 179, 3) := by decide +kernel
theorem dX4_init_12 : decode cX4_init 12 = .ok (.invokespecial 11, 3) := by decide +kernel
theorem dX4_init_15 : decode cX4_init 15 = .ok (.putfield 14, 3) := by decide +kernel
theorem dX4_init_18 : decode cX4_init 18 = .ok (.return_, 1) := by decide +kernel
theorem dX4_writePage_0 : decode cX4_writePage 0 = .ok (.aload_n 1, 1) := by decide +kernel
theorem dX4_writePage_1 : decode cX4_writePage 1 = .ok (.iload_n 2, 1) := by decide +kernel
theorem dX4_writePage_2 : decode cX4_writePage 2 = .ok (.invokevirtual 20, 3) := by decide +kernel
theorem dX4_writePage_5 : decode cX4_writePage 5 = .ok (.astore_n 3, 1) := by decide +kernel
theorem dX4_writePage_6 : decode cX4_writePage 6 = .ok (.aload_n 3, 1) := by decide +kernel
theorem dX4_writePage_7 : decode cX4_writePage 7 = .ok (.aload_n 1, 1) := by decide +kernel
theorem dX4_writePage_8 : decode cX4_writePage 8 = .ok (.iload_n 2, 1) := by decide +kernel
theorem dX4_writePage_9 : decode cX4_writePage 9 = .ok (.invokevirtual 26, 3) := by decide +kernel
theorem dX4_writePage_12 : decode cX4_writePage 12 = .ok (.invokevirtual 30, 3) := by decide +kernel
theorem dX4_writePage_15 : decode cX4_writePage 15 = .ok (.istore 4, 2) := by decide +kernel
theorem dX4_writePage_17 : decode cX4_writePage 17 = .ok (.aload_n 1, 1) := by decide +kernel
theorem dX4_writePage_18 : decode cX4_writePage 18 = .ok (.iload_n 2, 1) := by decide +kernel
theorem dX4_writePage_19 : decode cX4_writePage 19 = .ok (.invokevirtual 35, 3) := by decide +kernel
theorem dX4_writePage_22 : decode cX4_writePage 22 = .ok (.istore 5, 2) := by decide +kernel
theorem dX4_writePage_24 : decode cX4_writePage 24 = .ok (.aload_n 0, 1) := by decide +kernel
theorem dX4_writePage_25 : decode cX4_writePage 25 = .ok (.iconst 0, 1) := by decide +kernel
theorem dX4_writePage_26 : decode cX4_writePage 26 = .ok (.putfield 38, 3) := by decide +kernel
theorem dX4_writePage_29 : decode cX4_writePage 29 = .ok (.aload_n 0, 1) := by decide +kernel
theorem dX4_writePage_30 : decode cX4_writePage 30 = .ok (.iload 4, 2) := by decide +kernel
theorem dX4_writePage_32 : decode cX4_writePage 32 = .ok (.iconst 3, 1) := by decide +kernel
theorem dX4_writePage_33 : decode cX4_writePage 33 = .ok (.invokevirtual 42, 3) := by decide +kernel
theorem dX4_writePage_36 : decode cX4_writePage 36 = .ok (.aload_n 0, 1) := by decide +kernel
theorem dX4_writePage_37 : decode cX4_writePage 37 = .ok (.aload_n 3, 1) := by decide +kernel
theorem dX4_writePage_38 : decode cX4_writePage 38 = .ok (.getfield 46, 3) := by decide +kernel
theorem dX4_writePage_41 : decode cX4_writePage 41 = .ok (.iconst 4, 1) := by decide +kernel
theorem dX4_writePage_42 : decode cX4_writePage 42 = .ok (.invokevirtual 42, 3) := by decide +kernel
theorem dX4_writePage_45 : decode cX4_writePage 45 = .ok (.iload 4, 2) := by decide +kernel
theorem dX4_writePage_47 : decode cX4_writePage 47 = .ok (.tableswitch 76 1 4 #[29, 40, 54, 65], 29) := by decide +kernel
theorem dX4_writePage_76 : decode cX4_writePage 76 = .ok (.aload_n 0, 1) := by decide +kernel
theorem dX4_writePage_77 : decode cX4_writePage 77 = .ok (.aload_n 1, 1) := by decide +kernel
theorem dX4_writePage_78 : decode cX4_writePage 78 = .ok (.iload 5, 2) := by decide +kernel
theorem dX4_writePage_80 : decode cX4_writePage 80 = .ok (.aload_n 3, 1) := by decide +kernel
theorem dX4_writePage_81 : decode cX4_writePage 81 = .ok (.invokevirtual 49, 3) := by decide +kernel
theorem dX4_writePage_84 : decode cX4_writePage 84 = .ok (.goto 50, 3) := by decide +kernel
theorem dX4_writePage_87 : decode cX4_writePage 87 = .ok (.aload_n 0, 1) := by decide +kernel
theorem dX4_writePage_88 : decode cX4_writePage 88 = .ok (.aload_n 1, 1) := by decide +kernel
theorem dX4_writePage_89 : decode cX4_writePage 89 = .ok (.iload 5, 2) := by decide +kernel
theorem dX4_writePage_91 : decode cX4_writePage 91 = .ok (.aload_n 3, 1) := by decide +kernel
theorem dX4_writePage_92 : decode cX4_writePage 92 = .ok (.getfield 46, 3) := by decide +kernel
theorem dX4_writePage_95 : decode cX4_writePage 95 = .ok (.invokevirtual 53, 3) := by decide +kernel
theorem dX4_writePage_98 : decode cX4_writePage 98 = .ok (.goto 36, 3) := by decide +kernel
theorem dX4_writePage_101 : decode cX4_writePage 101 = .ok (.aload_n 0, 1) := by decide +kernel
theorem dX4_writePage_102 : decode cX4_writePage 102 = .ok (.aload_n 1, 1) := by decide +kernel
