theorem dX9_scan_77 : decode cX9_scan 77 = .ok (.iconst 0, 1) := by decide +kernel
theorem dX9_scan_78 : decode cX9_scan 78 = .ok (.istore 4, 2) := by decide +kernel
theorem dX9_scan_80 : decode cX9_scan 80 = .ok (.iload 4, 2) := by decide +kernel
theorem dX9_scan_82 : decode cX9_scan 82 = .ok (.aload_n 0, 1) := by decide +kernel
theorem dX9_scan_83 : decode cX9_scan 83 = .ok (.getfield 13, 3) := by decide +kernel
theorem dX9_scan_86 : decode cX9_scan 86 = .ok (.iconst 0, 1) := by decide +kernel
theorem dX9_scan_87 : decode cX9_scan 87 = .ok (.iaload, 1) := by decide +kernel
theorem dX9_scan_88 : decode cX9_scan 88 = .ok (.if_icmp .ge 22, 3) := by decide +kernel
theorem dX9_scan_91 : decode cX9_scan 91 = .ok (.iload_n 3, 1) := by decide +kernel
theorem dX9_scan_92 : decode cX9_scan 92 = .ok (.aload_n 0, 1) := by decide +kernel
theorem dX9_scan_93 : decode cX9_scan 93 = .ok (.getfield 13, 3) := by decide +kernel
theorem dX9_scan_96 : decode cX9_scan 96 = .ok (.iload 4, 2) := by decide +kernel
theorem dX9_scan_98 : decode cX9_scan 98 = .ok (.iload_n 1, 1) := by decide +kernel
theorem dX9_scan_99 : decode cX9_scan 99 = .ok (.invokestatic 185, 3) := by decide +kernel
theorem dX9_scan_102 : decode cX9_scan 102 = .ok (.iadd, 1) := by decide +kernel
theorem dX9_scan_103 : decode cX9_scan 103 = .ok (.istore_n 3, 1) := by decide +kernel
theorem dX9_scan_104 : decode cX9_scan 104 = .ok (.iinc 4 1, 3) := by decide +kernel
theorem dX9_scan_107 : decode cX9_scan 107 = .ok (.goto (-27), 3) := by decide +kernel
theorem dX9_scan_110 : decode cX9_scan 110 = .ok (.iload_n 3, 1) := by decide +kernel
theorem dX9_scan_111 : decode cX9_scan 111 = .ok (.ireturn, 1) := by decide +kernel
theorem dX9_sum_0 : decode cX9_sum 0 = .ok (.aload_n 0, 1) := by decide +kernel
theorem dX9_sum_1 : decode cX9_sum 1 = .ok (.aload_n 0, 1) := by decide +kernel
theorem dX9_sum_2 : decode cX9_sum 2 = .ok (.getfield 13, 3) := by decide +kernel
theorem dX9_sum_5 : decode cX9_sum 5 = .ok (.iload_n 1, 1) := by decide +kernel
theorem dX9_sum_6 : decode cX9_sum 6 = .ok (.invokestatic 170, 3) := by decide +kernel
theorem dX9_sum_9 : decode cX9_sum 9 = .ok (.ifCond .eq 18, 3) := by decide +kernel
theorem dX9_sum_12 : decode cX9_sum 12 = .ok (.aload_n 0, 1) := by decide +kernel
theorem dX9_sum_13 : decode cX9_sum 13 = .ok (.getfield 13, 3) := by decide +kernel
theorem dX9_sum_16 : decode cX9_sum 16 = .ok (.iload_n 2, 1) := by decide +kernel
theorem dX9_sum_17 : decode cX9_sum 17 = .ok (.invokestatic 170, 3) := by decide +kernel
theorem dX9_sum_20 : decode cX9_sum 20 = .ok (.ifCond .eq 7, 3) := by decide +kernel
theorem dX9_sum_23 : decode cX9_sum 23 = .ok (.iconst 0, 1) := by decide +kernel
theorem dX9_sum_24 : decode cX9_sum 24 = .ok (.goto 4, 3) := by decide +kernel
theorem dX9_sum_27 : decode cX9_sum 27 = .ok (.iconst 1, 1) := by decide +kernel
theorem dX9_sum_28 : decode cX9_sum 28 = .ok (.invokevirtual 128, 3) := by decide +kernel
theorem dX9_sum_31 : decode cX9_sum 31 = .ok (.ifCond .eq 5, 3) := by decide +kernel
theorem dX9_sum_34 : decode cX9_sum 34 = .ok (.iconst 0, 1) := by decide +kernel
theorem dX9_sum_35 : decode cX9_sum 35 = .ok (.ireturn, 1) := by decide +kernel
theorem dX9_sum_36 : decode cX9_sum 36 = .ok (.iconst 0, 1) := by decide +kernel
theorem dX9_sum_37 : decode cX9_sum 37 = .ok (.istore_n 3, 1) := by decide +kernel
theorem dX9_sum_38 : decode cX9_sum 38 = .ok (.iload_n 1, 1) := by decide +kernel
theorem dX9_sum_39 : decode cX9_sum 39 = .ok (.istore 4, 2) := by decide +kernel
theorem dX9_sum_41 : decode cX9_sum 41 = .ok (.iload 4, 2) := by decide +kernel
theorem dX9_sum_43 : decode cX9_sum 43 = .ok (.iload_n 2, 1) := by decide +kernel
theorem dX9_sum_44 : decode cX9_sum 44 = .ok (.if_icmp .gt 22, 3) := by decide +kernel
theorem dX9_sum_47 : decode cX9_sum 47 = .ok (.iload_n 3, 1) := by decide +kernel
theorem dX9_sum_48 : decode cX9_sum 48 = .ok (.aload_n 0, 1) := by decide +kernel
theorem dX9_sum_49 : decode cX9_sum 49 = .ok (.getfield 13, 3) := by decide +kernel
theorem dX9_sum_52 : decode cX9_sum 52 = .ok (.bipush 22, 2) := by decide +kernel
theorem dX9_sum_54 : decode cX9_sum 54 = .ok (.iload 4, 2) := by decide +kernel
theorem dX9_sum_56 : decode cX9_sum 56 = .ok (.iadd, 1) := by decide +kernel
theorem dX9_sum_57 : decode cX9_sum 57 = .ok (.iaload, 1) := by decide +kernel
theorem dX9_sum_58 : decode cX9_sum 58 = .ok (.iadd, 1) := by decide +kernel
theorem dX9_sum_59 : decode cX9_sum 59 = .ok (.istore_n 3, 1) := by decide +kernel
theorem dX9_sum_60 : decode cX9_sum 60 = .ok (.iinc 4 1, 3) := by decide +kernel
theorem dX9_sum_63 : decode cX9_sum 63 = .ok (.goto (-22), 3) := by decide +kernel
theorem dX9_sum_66 : decode cX9_sum 66 = .ok (.iload_n 3, 1) := by decide +kernel
theorem dX9_sum_67 : decode cX9_sum 67 = .ok (.ireturn, 1) := by decide +kernel
theorem dX9_remember_0 : decode cX9_remember 0 = .ok (.aload_n 0, 1) := by decide +kernel
theorem dX9_remember_1 : decode cX9_remember 1 = .ok (.getfield 188, 3) := by decide +kernel
theorem dX9_remember_4 : decode cX9_remember 4 = .ok (.bipush 14, 2) := by decide +kernel
theorem dX9_remember_6 : decode cX9_remember 6 = .ok (.if_icmp .ne 44, 3) := by decide +kernel
theorem dX9_remember_9 : decode cX9_remember 9 = .ok (.iconst 0, 1) := by decide +kernel
theorem dX9_remember_10 : decode cX9_remember 10 = .ok (.istore_n 1, 1) := by decide +kernel
theorem dX9_remember_11 : decode cX9_remember 11 = .ok (.iload_n 1, 1) := by decide +kernel
theorem dX9_remember_12 : decode cX9_remember 12 = .ok (.sipush 1846, 3) := by decide +kernel
theorem dX9_remember_15 : decode cX9_remember 15 = .ok (.if_icmp .ge 25, 3) := by decide +kernel
theorem dX9_remember_18 : decode cX9_remember 18 = .ok (.aload_n 0, 1) := by decide +kernel
theorem dX9_remember_19 : decode cX9_remember 19 = .ok (.getfield 22, 3) := by decide +kernel
theorem dX9_remember_22 : decode cX9_remember 22 = .ok (.iload_n 1, 1) := by decide +kernel
theorem dX9_remember_23 : decode cX9_remember 23 = .ok (.aload_n 0, 1) := by decide +kernel
theorem dX9_remember_24 : decode cX9_remember 24 = .ok (.getfield 22, 3) := by decide +kernel
theorem dX9_remember_27 : decode cX9_remember 27 = .ok (.iload_n 1, 1) := by decide +kernel
theorem dX9_remember_28 : decode cX9_remember 28 = .ok (.sipush 142, 3) := by decide +kernel
theorem dX9_remember_31 : decode cX9_remember 31 = .ok (.iadd, 1) := by decide +kernel
theorem dX9_remember_32 : decode cX9_remember 32 = .ok (.iaload, 1) := by decide +kernel
theorem dX9_remember_33 : decode cX9_remember 33 = .ok (.iastore, 1) := by decide +kernel
theorem dX9_remember_34 : decode cX9_remember 34 = .ok (.iinc 1 1, 3) := by decide +kernel
theorem dX9_remember_37 : decode cX9_remember 37 = .ok (.goto (-26), 3) := by decide +kernel
theorem dX9_remember_40 : decode cX9_remember 40 = .ok (.aload_n 0, 1) := by decide +kernel
theorem dX9_remember_41 : decode cX9_remember 41 = .ok (.dup, 1) := by decide +kernel
theorem dX9_remember_42 : decode cX9_remember 42 = .ok (.getfield 188, 3) := by decide +kernel
theorem dX9_remember_45 : decode cX9_remember 45 = .ok (.iconst 1, 1) := by decide +kernel
theorem dX9_remember_46 : decode cX9_remember 46 = .ok (.isub, 1) := by decide +kernel
theorem dX9_remember_47 : decode cX9_remember 47 = .ok (.putfield 188, 3) := by decide +kernel
theorem dX9_remember_50 : decode cX9_remember 50 = .ok (.aload_n 0, 1) := by decide +kernel
theorem dX9_remember_51 : decode cX9_remember 51 = .ok (.getfield 13, 3) := by decide +kernel
theorem dX9_remember_54 : decode cX9_remember 54 = .ok (.iconst 0, 1) := by decide +kernel
theorem dX9_remember_55 : decode cX9_remember 55 = .ok (.aload_n 0, 1) := by decide +kernel
theorem dX9_remember_56 : decode cX9_remember 56 = .ok (.getfield 22, 3) := by decide +kernel
theorem dX9_remember_59 : decode cX9_remember 59 = .ok (.sipush 142, 3) := by decide +kernel
theorem dX9_remember_62 : decode cX9_remember 62 = .ok (.aload_n 0, 1) := by decide +kernel
theorem dX9_remember_63 : decode cX9_remember 63 = .ok (.getfield 188, 3) := by decide +kernel
theorem dX9_remember_66 : decode cX9_remember 66 = .ok (.imul, 1) := by decide +kernel
theorem dX9_remember_67 : decode cX9_remember 67 = .ok (.invokestatic 191, 3) := by decide +kernel
theorem dX9_remember_70 : decode cX9_remember 70 = .ok (.aload_n 0, 1) := by decide +kernel
theorem dX9_remember_71 : decode cX9_remember 71 = .ok (.dup, 1) := by decide +kernel
theorem dX9_remember_72 : decode cX9_remember 72 = .ok (.getfield 188, 3) := by decide +kernel
theorem dX9_remember_75 : decode cX9_remember 75 = .ok (.iconst 1, 1) := by decide +kernel
theorem dX9_remember_76 : decode cX9_remember 76 = .ok (.iadd, 1) := by decide +kernel
theorem dX9_remember_77 : decode cX9_remember 77 = .ok (.putfield 188, 3) := by decide +kernel
theorem dX9_remember_80 : decode cX9_remember 80 = .ok (.return_, 1) := by decide +kernel
theorem dX9_hasRoom_0 : decode cX9_hasRoom 0 = .ok (.aload_n 0, 1) := by decide +kernel
theorem dX9_hasRoom_1 : decode cX9_hasRoom 1 = .ok (.iconst 0, 1) := by decide +kernel
theorem dX9_hasRoom_2 : decode cX9_hasRoom 2 = .ok (.iaload, 1) := by decide +kernel
theorem dX9_hasRoom_3 : decode cX9_hasRoom 3 = .ok (.iconst 1, 1) := by decide +kernel
theorem dX9_hasRoom_4 : decode cX9_hasRoom 4 = .ok (.isub, 1) := by decide +kernel
theorem dX9_hasRoom_5 : decode cX9_hasRoom 5 = .ok (.istore_n 1, 1) := by decide +kernel
theorem dX9_hasRoom_6 : decode cX9_hasRoom 6 = .ok (.iload_n 1, 1) := by decide +kernel
theorem dX9_hasRoom_7 : decode cX9_hasRoom 7 = .ok (.ifCond .lt 18, 3) := by decide +kernel
theorem dX9_hasRoom_10 : decode cX9_hasRoom 10 = .ok (.aload_n 0, 1) := by decide +kernel
theorem dX9_hasRoom_11 : decode cX9_hasRoom 11 = .ok (.iconst 2, 1) := by decide +kernel
theorem dX9_hasRoom_12 : decode cX9_hasRoom 12 = .ok (.iload_n 1, 1) := by decide +kernel
theorem dX9_hasRoom_13 : decode cX9_hasRoom 13 = .ok (.iadd, 1) := by decide +kernel
theorem dX9_hasRoom_14 : decode cX9_hasRoom 14 = .ok (.iaload, 1) := by decide +kernel
theorem dX9_hasRoom_15 : decode cX9_hasRoom 15 = .ok (.aload_n 0, 1) := by decide +kernel
theorem dX9_hasRoom_16 : decode cX9_hasRoom 16 = .ok (.iconst 1, 1) := by decide +kernel
theorem dX9_hasRoom_17 : decode cX9_hasRoom 17 = .ok (.iaload, 1) := by decide +kernel
theorem dX9_hasRoom_18 : decode cX9_hasRoom 18 = .ok (.if_icmp .ge 7, 3) := by decide +kernel
theorem dX9_hasRoom_21 : decode cX9_hasRoom 21 = .ok (.iconst 1, 1) := by decide +kernel
theorem dX9_hasRoom_22 : decode cX9_hasRoom 22 = .ok (.goto 4, 3) := by decide +kernel
theorem dX9_hasRoom_25 : decode cX9_hasRoom 25 = .ok (.iconst 0, 1) := by decide +kernel
theorem dX9_hasRoom_26 : decode cX9_hasRoom 26 = .ok (.ireturn, 1) := by decide +kernel
theorem dX9_canAdd_0 : decode cX9_canAdd 0 = .ok (.aload_n 0, 1) := by decide +kernel
theorem dX9_canAdd_1 : decode cX9_canAdd 1 = .ok (.invokestatic 195, 3) := by decide +kernel
theorem dX9_canAdd_4 : decode cX9_canAdd 4 = .ok (.ifCond .ne 11, 3) := by decide +kernel
theorem dX9_canAdd_7 : decode cX9_canAdd 7 = .ok (.aload_n 0, 1) := by decide +kernel
theorem dX9_canAdd_8 : decode cX9_canAdd 8 = .ok (.iconst 0, 1) := by decide +kernel
theorem dX9_canAdd_9 : decode cX9_canAdd 9 = .ok (.iaload, 1) := by decide +kernel
theorem dX9_canAdd_10 : decode cX9_canAdd 10 = .ok (.bipush 10, 2) := by decide +kernel
theorem dX9_canAdd_12 : decode cX9_canAdd 12 = .ok (.if_icmp .ge 7, 3) := by decide +kernel
theorem dX9_canAdd_15 : decode cX9_canAdd 15 = .ok (.iconst 1, 1) := by decide +kernel
theorem dX9_canAdd_16 : decode cX9_canAdd 16 = .ok (.goto 4, 3) := by decide +kernel
theorem dX9_canAdd_19 : decode cX9_canAdd 19 = .ok (.iconst 0, 1) := by decide +kernel
theorem dX9_canAdd_20 : decode cX9_canAdd 20 = .ok (.ireturn, 1) := by decide +kernel
theorem dX9_addOn_0 : decode cX9_addOn 0 = .ok (.aload_n 0, 1) := by decide +kernel
theorem dX9_addOn_1 : decode cX9_addOn 1 = .ok (.bipush 22, 2) := by decide +kernel
theorem dX9_addOn_3 : decode cX9_addOn 3 = .ok (.aload_n 0, 1) := by decide +kernel
theorem dX9_addOn_4 : decode cX9_addOn 4 = .ok (.invokestatic 56, 3) := by decide +kernel
theorem dX9_addOn_7 : decode cX9_addOn 7 = .ok (.iadd, 1) := by decide +kernel
theorem dX9_addOn_8 : decode cX9_addOn 8 = .ok (.iload_n 1, 1) := by decide +kernel
theorem dX9_addOn_9 : decode cX9_addOn 9 = .ok (.iastore, 1) := by decide +kernel
theorem dX9_addOn_10 : decode cX9_addOn 10 = .ok (.aload_n 0, 1) := by decide +kernel
theorem dX9_addOn_11 : decode cX9_addOn 11 = .ok (.invokestatic 195, 3) := by decide +kernel
theorem dX9_addOn_14 : decode cX9_addOn 14 = .ok (.ifCond .ne 27, 3) := by decide +kernel
theorem dX9_addOn_17 : decode cX9_addOn 17 = .ok (.aload_n 0, 1) := by decide +kernel
theorem dX9_addOn_18 : decode cX9_addOn 18 = .ok (.iconst 2, 1) := by decide +kernel
theorem dX9_addOn_19 : decode cX9_addOn 19 = .ok (.aload_n 0, 1) := by decide +kernel
theorem dX9_addOn_20 : decode cX9_addOn 20 = .ok (.iconst 0, 1) := by decide +kernel
theorem dX9_addOn_21 : decode cX9_addOn 21 = .ok (.iaload, 1) := by decide +kernel
theorem dX9_addOn_22 : decode cX9_addOn 22 = .ok (.iadd, 1) := by decide +kernel
theorem dX9_addOn_23 : decode cX9_addOn 23 = .ok (.iconst 0, 1) := by decide +kernel
theorem dX9_addOn_24 : decode cX9_addOn 24 = .ok (.iastore, 1) := by decide +kernel
theorem dX9_addOn_25 : decode cX9_addOn 25 = .ok (.aload_n 0, 1) := by decide +kernel
theorem dX9_addOn_26 : decode cX9_addOn 26 = .ok (.bipush 12, 2) := by decide +kernel
theorem dX9_addOn_28 : decode cX9_addOn 28 = .ok (.aload_n 0, 1) := by decide +kernel
theorem dX9_addOn_29 : decode cX9_addOn 29 = .ok (.iconst 0, 1) := by decide +kernel
theorem dX9_addOn_30 : decode cX9_addOn 30 = .ok (.iaload, 1) := by decide +kernel
theorem dX9_addOn_31 : decode cX9_addOn 31 = .ok (.iadd, 1) := by decide +kernel
theorem dX9_addOn_32 : decode cX9_addOn 32 = .ok (.iconst 0, 1) := by decide +kernel
theorem dX9_addOn_33 : decode cX9_addOn 33 = .ok (.iastore, 1) := by decide +kernel
theorem dX9_addOn_34 : decode cX9_addOn 34 = .ok (.aload_n 0, 1) := by decide +kernel
theorem dX9_addOn_35 : decode cX9_addOn 35 = .ok (.iconst 0, 1) := by decide +kernel
theorem dX9_addOn_36 : decode cX9_addOn 36 = .ok (.dup2, 1) := by decide +kernel
theorem dX9_addOn_37 : decode cX9_addOn 37 = .ok (.iaload, 1) := by decide +kernel
theorem dX9_addOn_38 : decode cX9_addOn 38 = .ok (.iconst 1, 1) := by decide +kernel
theorem dX9_addOn_39 : decode cX9_addOn 39 = .ok (.iadd, 1) := by decide +kernel
theorem dX9_addOn_40 : decode cX9_addOn 40 = .ok (.iastore, 1) := by decide +kernel
theorem dX9_addOn_41 : decode cX9_addOn 41 = .ok (.aload_n 0, 1) := by decide +kernel
theorem dX9_addOn_42 : decode cX9_addOn 42 = .ok (.iconst 2, 1) := by decide +kernel
theorem dX9_addOn_43 : decode cX9_addOn 43 = .ok (.aload_n 0, 1) := by decide +kernel
theorem dX9_addOn_44 : decode cX9_addOn 44 = .ok (.iconst 0, 1) := by decide +kernel
theorem dX9_addOn_45 : decode cX9_addOn 45 = .ok (.iaload, 1) := by decide +kernel
theorem dX9_addOn_46 : decode cX9_addOn 46 = .ok (.iadd, 1) := by decide +kernel
theorem dX9_addOn_47 : decode cX9_addOn 47 = .ok (.iconst 1, 1) := by decide +kernel
theorem dX9_addOn_48 : decode cX9_addOn 48 = .ok (.isub, 1) := by decide +kernel
theorem dX9_addOn_49 : decode cX9_addOn 49 = .ok (.dup2, 1) := by decide +kernel
theorem dX9_addOn_50 : decode cX9_addOn 50 = .ok (.iaload, 1) := by decide +kernel
theorem dX9_addOn_51 : decode cX9_addOn 51 = .ok (.iconst 1, 1) := by decide +kernel
theorem dX9_addOn_52 : decode cX9_addOn 52 = .ok (.iadd, 1) := by decide +kernel
theorem dX9_addOn_53 : decode cX9_addOn 53 = .ok (.iastore, 1) := by decide +kernel
theorem dX9_addOn_54 : decode cX9_addOn 54 = .ok (.aload_n 0, 1) := by decide +kernel
theorem dX9_addOn_55 : decode cX9_addOn 55 = .ok (.iconst 0, 1) := by decide +kernel
theorem dX9_addOn_56 : decode cX9_addOn 56 = .ok (.iaload, 1) := by decide +kernel
theorem dX9_addOn_57 : decode cX9_addOn 57 = .ok (.iconst 1, 1) := by decide +kernel
theorem dX9_addOn_58 : decode cX9_addOn 58 = .ok (.isub, 1) := by decide +kernel
theorem dX9_addOn_59 : decode cX9_addOn 59 = .ok (.ireturn, 1) := by decide +kernel
theorem dX9_add_0 : decode cX9_add 0 = .ok (.aload_n 0, 1) := by decide +kernel
theorem dX9_add_1 : decode cX9_add 1 = .ok (.iload_n 1, 1) := by decide +kernel
theorem dX9_add_2 : decode cX9_add 2 = .ok (.i2l, 1) := by decide +kernel
theorem dX9_add_3 : decode cX9_add 3 = .ok (.lconst 0, 1) := by decide +kernel
theorem dX9_add_4 : decode cX9_add 4 = .ok (.ldc2_w 183, 3) := by decide +kernel
theorem dX9_add_7 : decode cX9_add 7 = .ok (.invokestatic 52, 3) := by decide +kernel
theorem dX9_add_10 : decode cX9_add 10 = .ok (.ifCond .ne 7, 3) := by decide +kernel
theorem dX9_add_13 : decode cX9_add 13 = .ok (.iconst 1, 1) := by decide +kernel
theorem dX9_add_14 : decode cX9_add 14 = .ok (.goto 18, 3) := by decide +kernel
theorem dX9_add_17 : decode cX9_add 17 = .ok (.aload_n 0, 1) := by decide +kernel
theorem dX9_add_18 : decode cX9_add 18 = .ok (.getfield 13, 3) := by decide +kernel
theorem dX9_add_21 : decode cX9_add 21 = .ok (.invokestatic 199, 3) := by decide +kernel
theorem dX9_add_24 : decode cX9_add 24 = .ok (.ifCond .eq 7, 3) := by decide +kernel
theorem dX9_add_27 : decode cX9_add 27 = .ok (.iconst 0, 1) := by decide +kernel
theorem dX9_add_28 : decode cX9_add 28 = .ok (.goto 4, 3) := by decide +kernel
theorem dX9_add_31 : decode cX9_add 31 = .ok (.iconst 2, 1) := by decide +kernel
theorem dX9_add_32 : decode cX9_add 32 = .ok (.invokevirtual 128, 3) := by decide +kernel
theorem dX9_add_35 : decode cX9_add 35 = .ok (.ifCond .eq 5, 3) := by decide +kernel
theorem dX9_add_38 : decode cX9_add 38 = .ok (.iconst 0, 1) := by decide +kernel
theorem dX9_add_39 : decode cX9_add 39 = .ok (.ireturn, 1) := by decide +kernel
theorem dX9_add_40 : decode cX9_add 40 = .ok (.aload_n 0, 1) := by decide +kernel
theorem dX9_add_41 : decode cX9_add 41 = .ok (.invokevirtual 202, 3) := by decide +kernel
theorem dX9_add_44 : decode cX9_add 44 = .ok (.aload_n 0, 1) := by decide +kernel
theorem dX9_add_45 : decode cX9_add 45 = .ok (.getfield 13, 3) := by decide +kernel
theorem dX9_add_48 : decode cX9_add 48 = .ok (.iload_n 1, 1) := by decide +kernel
theorem dX9_add_49 : decode cX9_add 49 = .ok (.invokestatic 205, 3) := by decide +kernel
theorem dX9_add_52 : decode cX9_add 52 = .ok (.ireturn, 1) := by decide +kernel
theorem dX9_put_0 : decode cX9_put 0 = .ok (.aload_n 0, 1) := by decide +kernel
theorem dX9_put_1 : decode cX9_put 1 = .ok (.aload_n 0, 1) := by decide +kernel
theorem dX9_put_2 : decode cX9_put 2 = .ok (.getfield 13, 3) := by decide +kernel
theorem dX9_put_5 : decode cX9_put 5 = .ok (.iload_n 1, 1) := by decide +kernel
theorem dX9_put_6 : decode cX9_put 6 = .ok (.invokestatic 170, 3) := by decide +kernel
theorem dX9_put_9 : decode cX9_put 9 = .ok (.ifCond .ne 7, 3) := by decide +kernel
theorem dX9_put_12 : decode cX9_put 12 = .ok (.iconst 1, 1) := by decide +kernel
theorem dX9_put_13 : decode cX9_put 13 = .ok (.goto 20, 3) := by decide +kernel
theorem dX9_put_16 : decode cX9_put 16 = .ok (.iload_n 2, 1) := by decide +kernel
theorem dX9_put_17 : decode cX9_put 17 = .ok (.i2l, 1) := by decide +kernel
theorem dX9_put_18 : decode cX9_put 18 = .ok (.lconst 0, 1) := by decide +kernel
theorem dX9_put_19 : decode cX9_put 19 = .ok (.ldc2_w 183, 3) := by decide +kernel
theorem dX9_put_22 : decode cX9_put 22 = .ok (.invokestatic 52, 3) := by decide +kernel
theorem dX9_put_25 : decode cX9_put 25 = .ok (.ifCond .eq 7, 3) := by decide +kernel
theorem dX9_put_28 : decode cX9_put 28 = .ok (.iconst 0, 1) := by decide +kernel
theorem dX9_put_29 : decode cX9_put 29 = .ok (.goto 4, 3) := by decide +kernel
theorem dX9_put_32 : decode cX9_put 32 = .ok (.iconst 2, 1) := by decide +kernel
theorem dX9_put_33 : decode cX9_put 33 = .ok (.invokevirtual 128, 3) := by decide +kernel
theorem dX9_put_36 : decode cX9_put 36 = .ok (.ifCond .eq 5, 3) := by decide +kernel
theorem dX9_put_39 : decode cX9_put 39 = .ok (.iconst 0, 1) := by decide +kernel
theorem dX9_put_40 : decode cX9_put 40 = .ok (.ireturn, 1) := by decide +kernel
theorem dX9_put_41 : decode cX9_put 41 = .ok (.aload_n 0, 1) := by decide +kernel
theorem dX9_put_42 : decode cX9_put 42 = .ok (.invokevirtual 202, 3) := by decide +kernel
theorem dX9_put_45 : decode cX9_put 45 = .ok (.aload_n 0, 1) := by decide +kernel
theorem dX9_put_46 : decode cX9_put 46 = .ok (.getfield 13, 3) := by decide +kernel
theorem dX9_put_49 : decode cX9_put 49 = .ok (.bipush 22, 2) := by decide +kernel
theorem dX9_put_51 : decode cX9_put 51 = .ok (.iload_n 1, 1) := by decide +kernel
theorem dX9_put_52 : decode cX9_put 52 = .ok (.iadd, 1) := by decide +kernel
theorem dX9_put_53 : decode cX9_put 53 = .ok (.iaload, 1) := by decide +kernel
theorem dX9_put_54 : decode cX9_put 54 = .ok (.istore_n 3, 1) := by decide +kernel
theorem dX9_put_55 : decode cX9_put 55 = .ok (.aload_n 0, 1) := by decide +kernel
theorem dX9_put_56 : decode cX9_put 56 = .ok (.getfield 13, 3) := by decide +kernel
theorem dX9_put_59 : decode cX9_put 59 = .ok (.bipush 22, 2) := by decide +kernel
theorem dX9_put_61 : decode cX9_put 61 = .ok (.iload_n 1, 1) := by decide +kernel
theorem dX9_put_62 : decode cX9_put 62 = .ok (.iadd, 1) := by decide +kernel
theorem dX9_put_63 : decode cX9_put 63 = .ok (.iload_n 2, 1) := by decide +kernel
theorem dX9_put_64 : decode cX9_put 64 = .ok (.iastore, 1) := by decide +kernel
theorem dX9_put_65 : decode cX9_put 65 = .ok (.iload_n 3, 1) := by decide +kernel
theorem dX9_put_66 : decode cX9_put 66 = .ok (.ireturn, 1) := by decide +kernel
theorem dX9_cutPage_0 : decode cX9_cutPage 0 = .ok (.aload_n 0, 1) := by decide +kernel
theorem dX9_cutPage_1 : decode cX9_cutPage 1 = .ok (.iconst 0, 1) := by decide +kernel
theorem dX9_cutPage_2 : decode cX9_cutPage 2 = .ok (.dup2, 1) := by decide +kernel
theorem dX9_cutPage_3 : decode cX9_cutPage 3 = .ok (.iaload, 1) := by decide +kernel
theorem dX9_cutPage_4 : decode cX9_cutPage 4 = .ok (.iconst 1, 1) := by decide +kernel
theorem dX9_cutPage_5 : decode cX9_cutPage 5 = .ok (.isub, 1) := by decide +kernel
theorem dX9_cutPage_6 : decode cX9_cutPage 6 = .ok (.iastore, 1) := by decide +kernel
theorem dX9_cutPage_7 : decode cX9_cutPage 7 = .ok (.iload_n 1, 1) := by decide +kernel
theorem dX9_cutPage_8 : decode cX9_cutPage 8 = .ok (.istore_n 2, 1) := by decide +kernel
theorem dX9_cutPage_9 : decode cX9_cutPage 9 = .ok (.iload_n 2, 1) := by decide +kernel
theorem dX9_cutPage_10 : decode cX9_cutPage 10 = .ok (.aload_n 0, 1) := by decide +kernel
theorem dX9_cutPage_11 : decode cX9_cutPage 11 = .ok (.iconst 0, 1) := by decide +kernel
theorem dX9_cutPage_12 : decode cX9_cutPage 12 = .ok (.iaload, 1) := by decide +kernel
theorem dX9_cutPage_13 : decode cX9_cutPage 13 = .ok (.if_icmp .ge 35, 3) := by decide +kernel
theorem dX9_cutPage_16 : decode cX9_cutPage 16 = .ok (.aload_n 0, 1) := by decide +kernel
theorem dX9_cutPage_17 : decode cX9_cutPage 17 = .ok (.iconst 2, 1) := by decide +kernel
theorem dX9_cutPage_18 : decode cX9_cutPage 18 = .ok (.iload_n 2, 1) := by decide +kernel
theorem dX9_cutPage_19 : decode cX9_cutPage 19 = .ok (.iadd, 1) := by decide +kernel
theorem dX9_cutPage_20 : decode cX9_cutPage 20 = .ok (.aload_n 0, 1) := by decide +kernel
theorem dX9_cutPage_21 : decode cX9_cutPage 21 = .ok (.iconst 2, 1) := by decide +kernel
theorem dX9_cutPage_22 : decode cX9_cutPage 22 = .ok (.iload_n 2, 1) := by decide +kernel
theorem dX9_cutPage_23 : decode cX9_cutPage 23 = .ok (.iadd, 1) := by decide +kernel
theorem dX9_cutPage_24 : decode cX9_cutPage 24 = .ok (.iconst 1, 1) := by decide +kernel
theorem dX9_cutPage_25 : decode cX9_cutPage 25 = .ok (.iadd, 1) := by decide +kernel
theorem dX9_cutPage_26 : decode cX9_cutPage 26 = .ok (.iaload, 1) := by decide +kernel
theorem dX9_cutPage_27 : decode cX9_cutPage 27 = .ok (.iastore, 1) := by decide +kernel
theorem dX9_cutPage_28 : decode cX9_cutPage 28 = .ok (.aload_n 0, 1) := by decide +kernel
theorem dX9_cutPage_29 : decode cX9_cutPage 29 = .ok (.bipush 12, 2) := by decide +kernel
theorem dX9_cutPage_31 : decode cX9_cutPage 31 = .ok (.iload_n 2, 1) := by decide +kernel
theorem dX9_cutPage_32 : decode cX9_cutPage 32 = .ok (.iadd, 1) := by decide +kernel
theorem dX9_cutPage_33 : decode cX9_cutPage 33 = .ok (.aload_n 0, 1) := by decide +kernel
theorem dX9_cutPage_34 : decode cX9_cutPage 34 = .ok (.bipush 12, 2) := by decide +kernel
theorem dX9_cutPage_36 : decode cX9_cutPage 36 = .ok (.iload_n 2, 1) := by decide +kernel
theorem dX9_cutPage_37 : decode cX9_cutPage 37 = .ok (.iadd, 1) := by decide +kernel
theorem dX9_cutPage_38 : decode cX9_cutPage 38 = .ok (.iconst 1, 1) := by decide +kernel
theorem dX9_cutPage_39 : decode cX9_cutPage 39 = .ok (.iadd, 1) := by decide +kernel
theorem dX9_cutPage_40 : decode cX9_cutPage 40 = .ok (.iaload, 1) := by decide +kernel
theorem dX9_cutPage_41 : decode cX9_cutPage 41 = .ok (.iastore, 1) := by decide +kernel
theorem dX9_cutPage_42 : decode cX9_cutPage 42 = .ok (.iinc 2 1, 3) := by decide +kernel
theorem dX9_cutPage_45 : decode cX9_cutPage 45 = .ok (.goto (-36), 3) := by decide +kernel
theorem dX9_cutPage_48 : decode cX9_cutPage 48 = .ok (.return_, 1) := by decide +kernel
theorem dX9_removeOn_0 : decode cX9_removeOn 0 = .ok (.aload_n 0, 1) := by decide +kernel
theorem dX9_removeOn_1 : decode cX9_removeOn 1 = .ok (.iload_n 1, 1) := by decide +kernel
theorem dX9_removeOn_2 : decode cX9_removeOn 2 = .ok (.invokestatic 208, 3) := by decide +kernel
theorem dX9_removeOn_5 : decode cX9_removeOn 5 = .ok (.istore_n 2, 1) := by decide +kernel
theorem dX9_removeOn_6 : decode cX9_removeOn 6 = .ok (.aload_n 0, 1) := by decide +kernel
theorem dX9_removeOn_7 : decode cX9_removeOn 7 = .ok (.bipush 22, 2) := by decide +kernel
theorem dX9_removeOn_9 : decode cX9_removeOn 9 = .ok (.iload_n 1, 1) := by decide +kernel
theorem dX9_removeOn_10 : decode cX9_removeOn 10 = .ok (.iadd, 1) := by decide +kernel
theorem dX9_removeOn_11 : decode cX9_removeOn 11 = .ok (.iaload, 1) := by decide +kernel
theorem dX9_removeOn_12 : decode cX9_removeOn 12 = .ok (.istore_n 3, 1) := by decide +kernel
theorem dX9_removeOn_13 : decode cX9_removeOn 13 = .ok (.aload_n 0, 1) := by decide +kernel
theorem dX9_removeOn_14 : decode cX9_removeOn 14 = .ok (.invokestatic 56, 3) := by decide +kernel
theorem dX9_removeOn_17 : decode cX9_removeOn 17 = .ok (.istore 4, 2) := by decide +kernel
theorem dX9_removeOn_19 : decode cX9_removeOn 19 = .ok (.iload_n 1, 1) := by decide +kernel
theorem dX9_removeOn_20 : decode cX9_removeOn 20 = .ok (.istore 5, 2) := by decide +kernel
theorem dX9_removeOn_22 : decode cX9_removeOn 22 = .ok (.iload 5, 2) := by decide +kernel
theorem dX9_removeOn_24 : decode cX9_removeOn 24 = .ok (.iload 4, 2) := by decide +kernel
theorem dX9_removeOn_26 : decode cX9_removeOn 26 = .ok (.iconst 1, 1) := by decide +kernel
theorem dX9_removeOn_27 : decode cX9_removeOn 27 = .ok (.isub, 1) := by decide +kernel
theorem dX9_removeOn_28 : decode cX9_removeOn 28 = .ok (.if_icmp .ge 25, 3) := by decide +kernel
theorem dX9_removeOn_31 : decode cX9_removeOn 31 = .ok (.aload_n 0, 1) := by decide +kernel
theorem dX9_removeOn_32 : decode cX9_removeOn 32 = .ok (.bipush 22, 2) := by decide +kernel
theorem dX9_removeOn_34 : decode cX9_removeOn 34 = .ok (.iload 5, 2) := by decide +kernel
theorem dX9_removeOn_36 : decode cX9_removeOn 36 = .ok (.iadd, 1) := by decide +kernel
theorem dX9_removeOn_37 : decode cX9_removeOn 37 = .ok (.aload_n 0, 1) := by decide +kernel
theorem dX9_removeOn_38 : decode cX9_removeOn 38 = .ok (.bipush 22, 2) := by decide +kernel
theorem dX9_removeOn_40 : decode cX9_removeOn 40 = .ok (.iload 5, 2) := by decide +kernel
theorem dX9_removeOn_42 : decode cX9_removeOn 42 = .ok (.iadd, 1) := by decide +kernel
theorem dX9_removeOn_43 : decode cX9_removeOn 43 = .ok (.iconst 1, 1) := by decide +kernel
theorem dX9_removeOn_44 : decode cX9_removeOn 44 = .ok (.iadd, 1) := by decide +kernel
theorem dX9_removeOn_45 : decode cX9_removeOn 45 = .ok (.iaload, 1) := by decide +kernel
theorem dX9_removeOn_46 : decode cX9_removeOn 46 = .ok (.iastore, 1) := by decide +kernel
theorem dX9_removeOn_47 : decode cX9_removeOn 47 = .ok (.iinc 5 1, 3) := by decide +kernel
theorem dX9_removeOn_50 : decode cX9_removeOn 50 = .ok (.goto (-28), 3) := by decide +kernel
theorem dX9_removeOn_53 : decode cX9_removeOn 53 = .ok (.aload_n 0, 1) := by decide +kernel
theorem dX9_removeOn_54 : decode cX9_removeOn 54 = .ok (.iconst 2, 1) := by decide +kernel
theorem dX9_removeOn_55 : decode cX9_removeOn 55 = .ok (.iload_n 2, 1) := by decide +kernel
theorem dX9_removeOn_56 : decode cX9_removeOn 56 = .ok (.iadd, 1) := by decide +kernel
theorem dX9_removeOn_57 : decode cX9_removeOn 57 = .ok (.dup2, 1) := by decide +kernel
theorem dX9_removeOn_58 : decode cX9_removeOn 58 = .ok (.iaload, 1) := by decide +kernel
theorem dX9_removeOn_59 : decode cX9_removeOn 59 = .ok (.iconst 1, 1) := by decide +kernel
theorem dX9_removeOn_60 : decode cX9_removeOn 60 = .ok (.isub, 1) := by decide +kernel
theorem dX9_removeOn_61 : decode cX9_removeOn 61 = .ok (.iastore, 1) := by decide +kernel
theorem dX9_removeOn_62 : decode cX9_removeOn 62 = .ok (.aload_n 0, 1) := by decide +kernel
theorem dX9_removeOn_63 : decode cX9_removeOn 63 = .ok (.iconst 2, 1) := by decide +kernel
theorem dX9_removeOn_64 : decode cX9_removeOn 64 = .ok (.iload_n 2, 1) := by decide +kernel
theorem dX9_removeOn_65 : decode cX9_removeOn 65 = .ok (.iadd, 1) := by decide +kernel
theorem dX9_removeOn_66 : decode cX9_removeOn 66 = .ok (.iaload, 1) := by decide +kernel
theorem dX9_removeOn_67 : decode cX9_removeOn 67 = .ok (.ifCond .ne 8, 3) := by decide +kernel
theorem dX9_removeOn_70 : decode cX9_removeOn 70 = .ok (.aload_n 0, 1) := by decide +kernel
theorem dX9_removeOn_71 : decode cX9_removeOn 71 = .ok (.iload_n 2, 1) := by decide +kernel
theorem dX9_removeOn_72 : decode cX9_removeOn 72 = .ok (.invokestatic 211, 3) := by decide +kernel
theorem dX9_removeOn_75 : decode cX9_removeOn 75 = .ok (.iload_n 3, 1) := by decide +kernel
theorem dX9_removeOn_76 : decode cX9_removeOn 76 = .ok (.ireturn, 1) := by decide +kernel
theorem dX9_remove_0 : decode cX9_remove 0 = .ok (.aload_n 0, 1) := by decide +kernel
theorem dX9_remove_1 : decode cX9_remove 1 = .ok (.aload_n 0, 1) := by decide +kernel
theorem dX9_remove_2 : decode cX9_remove 2 = .ok (.getfield 13, 3) := by decide +kernel
theorem dX9_remove_5 : decode cX9_remove 5 = .ok (.iload_n 1, 1) := by decide +kernel
theorem dX9_remove_6 : decode cX9_remove 6 = .ok (.invokestatic 170, 3) := by decide +kernel
theorem dX9_remove_9 : decode cX9_remove 9 = .ok (.ifCond .eq 7, 3) := by decide +kernel
theorem dX9_remove_12 : decode cX9_remove 12 = .ok (.iconst 0, 1) := by decide +kernel
theorem dX9_remove_13 : decode cX9_remove 13 = .ok (.goto 4, 3) := by decide +kernel
theorem dX9_remove_16 : decode cX9_remove 16 = .ok (.iconst 1, 1) := by decide +kernel
theorem dX9_remove_17 : decode cX9_remove 17 = .ok (.invokevirtual 128, 3) := by decide +kernel
theorem dX9_remove_20 : decode cX9_remove 20 = .ok (.ifCond .eq 5, 3) := by decide +kernel
theorem dX9_remove_23 : decode cX9_remove 23 = .ok (.iconst 0, 1) := by decide +kernel
theorem dX9_remove_24 : decode cX9_remove 24 = .ok (.ireturn, 1) := by decide +kernel
theorem dX9_remove_25 : decode cX9_remove 25 = .ok (.aload_n 0, 1) := by decide +kernel
theorem dX9_remove_26 : decode cX9_remove 26 = .ok (.invokevirtual 202, 3) := by decide +kernel
theorem dX9_remove_29 : decode cX9_remove 29 = .ok (.aload_n 0, 1) := by decide +kernel
theorem dX9_remove_30 : decode cX9_remove 30 = .ok (.getfield 13, 3) := by decide +kernel
theorem dX9_remove_33 : decode cX9_remove 33 = .ok (.iload_n 1, 1) := by decide +kernel
theorem dX9_remove_34 : decode cX9_remove 34 = .ok (.invokestatic 215, 3) := by decide +kernel
theorem dX9_remove_37 : decode cX9_remove 37 = .ok (.ireturn, 1) := by decide +kernel
theorem dX9_whyNotCut_0 : decode cX9_whyNotCut 0 = .ok (.aload_n 0, 1) := by decide +kernel
theorem dX9_whyNotCut_1 : decode cX9_whyNotCut 1 = .ok (.iload_n 1, 1) := by decide +kernel
theorem dX9_whyNotCut_2 : decode cX9_whyNotCut 2 = .ok (.invokestatic 174, 3) := by decide +kernel
theorem dX9_whyNotCut_5 : decode cX9_whyNotCut 5 = .ok (.ifCond .ne 7, 3) := by decide +kernel
theorem dX9_whyNotCut_8 : decode cX9_whyNotCut 8 = .ok (.iconst 1, 1) := by decide +kernel
theorem dX9_whyNotCut_9 : decode cX9_whyNotCut 9 = .ok (.goto 37, 3) := by decide +kernel
theorem dX9_whyNotCut_12 : decode cX9_whyNotCut 12 = .ok (.iload_n 2, 1) := by decide +kernel
theorem dX9_whyNotCut_13 : decode cX9_whyNotCut 13 = .ok (.i2l, 1) := by decide +kernel
theorem dX9_whyNotCut_14 : decode cX9_whyNotCut 14 = .ok (.lconst 1, 1) := by decide +kernel
theorem dX9_whyNotCut_15 : decode cX9_whyNotCut 15 = .ok (.aload_n 0, 1) := by decide +kernel
theorem dX9_whyNotCut_16 : decode cX9_whyNotCut 16 = .ok (.iconst 2, 1) := by decide +kernel
theorem dX9_whyNotCut_17 : decode cX9_whyNotCut 17 = .ok (.iload_n 1, 1) := by decide +kernel
theorem dX9_whyNotCut_18 : decode cX9_whyNotCut 18 = .ok (.iadd, 1) := by decide +kernel
theorem dX9_whyNotCut_19 : decode cX9_whyNotCut 19 = .ok (.iaload, 1) := by decide +kernel
theorem dX9_whyNotCut_20 : decode cX9_whyNotCut 20 = .ok (.iconst 1, 1) := by decide +kernel
theorem dX9_whyNotCut_21 : decode cX9_whyNotCut 21 = .ok (.isub, 1) := by decide +kernel
theorem dX9_whyNotCut_22 : decode cX9_whyNotCut 22 = .ok (.i2l, 1) := by decide +kernel
theorem dX9_whyNotCut_23 : decode cX9_whyNotCut 23 = .ok (.invokestatic 52, 3) := by decide +kernel
theorem dX9_whyNotCut_26 : decode cX9_whyNotCut 26 = .ok (.ifCond .ne 7, 3) := by decide +kernel
theorem dX9_whyNotCut_29 : decode cX9_whyNotCut 29 = .ok (.iconst 2, 1) := by decide +kernel
theorem dX9_whyNotCut_30 : decode cX9_whyNotCut 30 = .ok (.goto 16, 3) := by decide +kernel
theorem dX9_whyNotCut_33 : decode cX9_whyNotCut 33 = .ok (.aload_n 0, 1) := by decide +kernel
theorem dX9_whyNotCut_34 : decode cX9_whyNotCut 34 = .ok (.iconst 0, 1) := by decide +kernel
theorem dX9_whyNotCut_35 : decode cX9_whyNotCut 35 = .ok (.iaload, 1) := by decide +kernel
theorem dX9_whyNotCut_36 : decode cX9_whyNotCut 36 = .ok (.bipush 10, 2) := by decide +kernel
theorem dX9_whyNotCut_38 : decode cX9_whyNotCut 38 = .ok (.if_icmp .ne 7, 3) := by decide +kernel
theorem dX9_whyNotCut_41 : decode cX9_whyNotCut 41 = .ok (.iconst 3, 1) := by decide +kernel
theorem dX9_whyNotCut_42 : decode cX9_whyNotCut 42 = .ok (.goto 4, 3) := by decide +kernel
theorem dX9_whyNotCut_45 : decode cX9_whyNotCut 45 = .ok (.iconst 0, 1) := by decide +kernel
theorem dX9_whyNotCut_46 : decode cX9_whyNotCut 46 = .ok (.ireturn, 1) := by decide +kernel
theorem dX9_cutOn_0 : decode cX9_cutOn 0 = .ok (.aload_n 0, 1) := by decide +kernel
theorem dX9_cutOn_1 : decode cX9_cutOn 1 = .ok (.iconst 0, 1) := by decide +kernel
theorem dX9_cutOn_2 : decode cX9_cutOn 2 = .ok (.iaload, 1) := by decide +kernel
theorem dX9_cutOn_3 : decode cX9_cutOn 3 = .ok (.istore_n 3, 1) := by decide +kernel
theorem dX9_cutOn_4 : decode cX9_cutOn 4 = .ok (.iload_n 3, 1) := by decide +kernel
theorem dX9_cutOn_5 : decode cX9_cutOn 5 = .ok (.iload_n 1, 1) := by decide +kernel
theorem dX9_cutOn_6 : decode cX9_cutOn 6 = .ok (.iconst 1, 1) := by decide +kernel
theorem dX9_cutOn_7 : decode cX9_cutOn 7 = .ok (.iadd, 1) := by decide +kernel
theorem dX9_cutOn_8 : decode cX9_cutOn 8 = .ok (.if_icmp .le 35, 3) := by decide +kernel
theorem dX9_cutOn_11 : decode cX9_cutOn 11 = .ok (.aload_n 0, 1) := by decide +kernel
theorem dX9_cutOn_12 : decode cX9_cutOn 12 = .ok (.iconst 2, 1) := by decide +kernel
theorem dX9_cutOn_13 : decode cX9_cutOn 13 = .ok (.iload_n 3, 1) := by decide +kernel
theorem dX9_cutOn_14 : decode cX9_cutOn 14 = .ok (.iadd, 1) := by decide +kernel
theorem dX9_cutOn_15 : decode cX9_cutOn 15 = .ok (.aload_n 0, 1) := by decide +kernel
theorem dX9_cutOn_16 : decode cX9_cutOn 16 = .ok (.iconst 2, 1) := by decide +kernel
theorem dX9_cutOn_17 : decode cX9_cutOn 17 = .ok (.iload_n 3, 1) := by decide +kernel
theorem dX9_cutOn_18 : decode cX9_cutOn 18 = .ok (.iadd, 1) := by decide +kernel
theorem dX9_cutOn_19 : decode cX9_cutOn 19 = .ok (.iconst 1, 1) := by decide +kernel
theorem dX9_cutOn_20 : decode cX9_cutOn 20 = .ok (.isub, 1) := by decide +kernel
theorem dX9_cutOn_21 : decode cX9_cutOn 21 = .ok (.iaload, 1) := by decide +kernel
theorem dX9_cutOn_22 : decode cX9_cutOn 22 = .ok (.iastore, 1) := by decide +kernel
theorem dX9_cutOn_23 : decode cX9_cutOn 23 = .ok (.aload_n 0, 1) := by decide +kernel
theorem dX9_cutOn_24 : decode cX9_cutOn 24 = .ok (.bipush 12, 2) := by decide +kernel
theorem dX9_cutOn_26 : decode cX9_cutOn 26 = .ok (.iload_n 3, 1) := by decide +kernel
theorem dX9_cutOn_27 : decode cX9_cutOn 27 = .ok (.iadd, 1) := by decide +kernel
theorem dX9_cutOn_28 : decode cX9_cutOn 28 = .ok (.aload_n 0, 1) := by decide +kernel
theorem dX9_cutOn_29 : decode cX9_cutOn 29 = .ok (.bipush 12, 2) := by decide +kernel
theorem dX9_cutOn_31 : decode cX9_cutOn 31 = .ok (.iload_n 3, 1) := by decide +kernel
theorem dX9_cutOn_32 : decode cX9_cutOn 32 = .ok (.iadd, 1) := by decide +kernel
theorem dX9_cutOn_33 : decode cX9_cutOn 33 = .ok (.iconst 1, 1) := by decide +kernel
theorem dX9_cutOn_34 : decode cX9_cutOn 34 = .ok (.isub, 1) := by decide +kernel
theorem dX9_cutOn_35 : decode cX9_cutOn 35 = .ok (.iaload, 1) := by decide +kernel
theorem dX9_cutOn_36 : decode cX9_cutOn 36 = .ok (.iastore, 1) := by decide +kernel
theorem dX9_cutOn_37 : decode cX9_cutOn 37 = .ok (.iinc 3 (-1), 3) := by decide +kernel
theorem dX9_cutOn_40 : decode cX9_cutOn 40 = .ok (.goto (-36), 3) := by decide +kernel
theorem dX9_cutOn_43 : decode cX9_cutOn 43 = .ok (.aload_n 0, 1) := by decide +kernel
theorem dX9_cutOn_44 : decode cX9_cutOn 44 = .ok (.iconst 0, 1) := by decide +kernel
theorem dX9_cutOn_45 : decode cX9_cutOn 45 = .ok (.dup2, 1) := by decide +kernel
theorem dX9_cutOn_46 : decode cX9_cutOn 46 = .ok (.iaload, 1) := by decide +kernel
theorem dX9_cutOn_47 : decode cX9_cutOn 47 = .ok (.iconst 1, 1) := by decide +kernel
theorem dX9_cutOn_48 : decode cX9_cutOn 48 = .ok (.iadd, 1) := by decide +kernel
theorem dX9_cutOn_49 : decode cX9_cutOn 49 = .ok (.iastore, 1) := by decide +kernel
theorem dX9_cutOn_50 : decode cX9_cutOn 50 = .ok (.aload_n 0, 1) := by decide +kernel
theorem dX9_cutOn_51 : decode cX9_cutOn 51 = .ok (.iconst 2, 1) := by decide +kernel
theorem dX9_cutOn_52 : decode cX9_cutOn 52 = .ok (.iload_n 1, 1) := by decide +kernel
theorem dX9_cutOn_53 : decode cX9_cutOn 53 = .ok (.iadd, 1) := by decide +kernel
theorem dX9_cutOn_54 : decode cX9_cutOn 54 = .ok (.iconst 1, 1) := by decide +kernel
theorem dX9_cutOn_55 : decode cX9_cutOn 55 = .ok (.iadd, 1) := by decide +kernel
theorem dX9_cutOn_56 : decode cX9_cutOn 56 = .ok (.aload_n 0, 1) := by decide +kernel
theorem dX9_cutOn_57 : decode cX9_cutOn 57 = .ok (.iconst 2, 1) := by decide +kernel
theorem dX9_cutOn_58 : decode cX9_cutOn 58 = .ok (.iload_n 1, 1) := by decide +kernel
theorem dX9_cutOn_59 : decode cX9_cutOn 59 = .ok (.iadd, 1) := by decide +kernel
theorem dX9_cutOn_60 : decode cX9_cutOn 60 = .ok (.iaload, 1) := by decide +kernel
theorem dX9_cutOn_61 : decode cX9_cutOn 61 = .ok (.iload_n 2, 1) := by decide +kernel
theorem dX9_cutOn_62 : decode cX9_cutOn 62 = .ok (.isub, 1) := by decide +kernel
theorem dX9_cutOn_63 : decode cX9_cutOn 63 = .ok (.iastore, 1) := by decide +kernel
theorem dX9_cutOn_64 : decode cX9_cutOn 64 = .ok (.aload_n 0, 1) := by decide +kernel
theorem dX9_cutOn_65 : decode cX9_cutOn 65 = .ok (.iconst 2, 1) := by decide +kernel
theorem dX9_cutOn_66 : decode cX9_cutOn 66 = .ok (.iload_n 1, 1) := by decide +kernel
theorem dX9_cutOn_67 : decode cX9_cutOn 67 = .ok (.iadd, 1) := by decide +kernel
theorem dX9_cutOn_68 : decode cX9_cutOn 68 = .ok (.iload_n 2, 1) := by decide +kernel
theorem dX9_cutOn_69 : decode cX9_cutOn 69 = .ok (.iastore, 1) := by decide +kernel
theorem dX9_cutOn_70 : decode cX9_cutOn 70 = .ok (.aload_n 0, 1) := by decide +kernel
theorem dX9_cutOn_71 : decode cX9_cutOn 71 = .ok (.bipush 12, 2) := by decide +kernel
theorem dX9_cutOn_73 : decode cX9_cutOn 73 = .ok (.iload_n 1, 1) := by decide +kernel
theorem dX9_cutOn_74 : decode cX9_cutOn 74 = .ok (.iadd, 1) := by decide +kernel
theorem dX9_cutOn_75 : decode cX9_cutOn 75 = .ok (.iconst 1, 1) := by decide +kernel
theorem dX9_cutOn_76 : decode cX9_cutOn 76 = .ok (.iadd, 1) := by decide +kernel
theorem dX9_cutOn_77 : decode cX9_cutOn 77 = .ok (.aload_n 0, 1) := by decide +kernel
theorem dX9_cutOn_78 : decode cX9_cutOn 78 = .ok (.bipush 12, 2) := by decide +kernel
theorem dX9_cutOn_80 : decode cX9_cutOn 80 = .ok (.iload_n 1, 1) := by decide +kernel
theorem dX9_cutOn_81 : decode cX9_cutOn 81 = .ok (.iadd, 1) := by decide +kernel
theorem dX9_cutOn_82 : decode cX9_cutOn 82 = .ok (.iaload, 1) := by decide +kernel
theorem dX9_cutOn_83 : decode cX9_cutOn 83 = .ok (.iastore, 1) := by decide +kernel
theorem dX9_cutOn_84 : decode cX9_cutOn 84 = .ok (.return_, 1) := by decide +kernel
theorem dX9_cut_0 : decode cX9_cut 0 = .ok (.aload_n 0, 1) := by decide +kernel
theorem dX9_cut_1 : decode cX9_cut 1 = .ok (.aload_n 0, 1) := by decide +kernel
theorem dX9_cut_2 : decode cX9_cut 2 = .ok (.getfield 13, 3) := by decide +kernel
theorem dX9_cut_5 : decode cX9_cut 5 = .ok (.iload_n 1, 1) := by decide +kernel
theorem dX9_cut_6 : decode cX9_cut 6 = .ok (.iload_n 2, 1) := by decide +kernel
theorem dX9_cut_7 : decode cX9_cut 7 = .ok (.invokestatic 218, 3) := by decide +kernel
theorem dX9_cut_10 : decode cX9_cut 10 = .ok (.invokevirtual 128, 3) := by decide +kernel
theorem dX9_cut_13 : decode cX9_cut 13 = .ok (.ifCond .eq 5, 3) := by decide +kernel
theorem dX9_cut_16 : decode cX9_cut 16 = .ok (.iconst 0, 1) := by decide +kernel
theorem dX9_cut_17 : decode cX9_cut 17 = .ok (.ireturn, 1) := by decide +kernel
theorem dX9_cut_18 : decode cX9_cut 18 = .ok (.aload_n 0, 1) := by decide +kernel
theorem dX9_cut_19 : decode cX9_cut 19 = .ok (.invokevirtual 202, 3) := by decide +kernel
theorem dX9_cut_22 : decode cX9_cut 22 = .ok (.aload_n 0, 1) := by decide +kernel
theorem dX9_cut_23 : decode cX9_cut 23 = .ok (.getfield 13, 3) := by decide +kernel
theorem dX9_cut_26 : decode cX9_cut 26 = .ok (.iload_n 1, 1) := by decide +kernel
theorem dX9_cut_27 : decode cX9_cut 27 = .ok (.iload_n 2, 1) := by decide +kernel
theorem dX9_cut_28 : decode cX9_cut 28 = .ok (.invokestatic 221, 3) := by decide +kernel
theorem dX9_cut_31 : decode cX9_cut 31 = .ok (.aload_n 0, 1) := by decide +kernel
theorem dX9_cut_32 : decode cX9_cut 32 = .ok (.getfield 13, 3) := by decide +kernel
theorem dX9_cut_35 : decode cX9_cut 35 = .ok (.invokestatic 167, 3) := by decide +kernel
theorem dX9_cut_38 : decode cX9_cut 38 = .ok (.ireturn, 1) := by decide +kernel
theorem dX9_whyNotMerge_0 : decode cX9_whyNotMerge 0 = .ok (.aload_n 0, 1) := by decide +kernel
theorem dX9_whyNotMerge_1 : decode cX9_whyNotMerge 1 = .ok (.iload_n 1, 1) := by decide +kernel
theorem dX9_whyNotMerge_2 : decode cX9_whyNotMerge 2 = .ok (.invokestatic 174, 3) := by decide +kernel
theorem dX9_whyNotMerge_5 : decode cX9_whyNotMerge 5 = .ok (.ifCond .eq 13, 3) := by decide +kernel
theorem dX9_whyNotMerge_8 : decode cX9_whyNotMerge 8 = .ok (.aload_n 0, 1) := by decide +kernel
theorem dX9_whyNotMerge_9 : decode cX9_whyNotMerge 9 = .ok (.iload_n 1, 1) := by decide +kernel
theorem dX9_whyNotMerge_10 : decode cX9_whyNotMerge 10 = .ok (.iconst 1, 1) := by decide +kernel
theorem dX9_whyNotMerge_11 : decode cX9_whyNotMerge 11 = .ok (.iadd, 1) := by decide +kernel
theorem dX9_whyNotMerge_12 : decode cX9_whyNotMerge 12 = .ok (.invokestatic 174, 3) := by decide +kernel
theorem dX9_whyNotMerge_15 : decode cX9_whyNotMerge 15 = .ok (.ifCond .ne 7, 3) := by decide +kernel
theorem dX9_whyNotMerge_18 : decode cX9_whyNotMerge 18 = .ok (.iconst 1, 1) := by decide +kernel
theorem dX9_whyNotMerge_19 : decode cX9_whyNotMerge 19 = .ok (.goto 26, 3) := by decide +kernel
theorem dX9_whyNotMerge_22 : decode cX9_whyNotMerge 22 = .ok (.aload_n 0, 1) := by decide +kernel
theorem dX9_whyNotMerge_23 : decode cX9_whyNotMerge 23 = .ok (.iconst 2, 1) := by decide +kernel
theorem dX9_whyNotMerge_24 : decode cX9_whyNotMerge 24 = .ok (.iload_n 1, 1) := by decide +kernel
theorem dX9_whyNotMerge_25 : decode cX9_whyNotMerge 25 = .ok (.iadd, 1) := by decide +kernel
theorem dX9_whyNotMerge_26 : decode cX9_whyNotMerge 26 = .ok (.iaload, 1) := by decide +kernel
theorem dX9_whyNotMerge_27 : decode cX9_whyNotMerge 27 = .ok (.aload_n 0, 1) := by decide +kernel
theorem dX9_whyNotMerge_28 : decode cX9_whyNotMerge 28 = .ok (.iconst 2, 1) := by decide +kernel
theorem dX9_whyNotMerge_29 : decode cX9_whyNotMerge 29 = .ok (.iload_n 1, 1) := by decide +kernel
theorem dX9_whyNotMerge_30 : decode cX9_whyNotMerge 30 = .ok (.iadd, 1) := by decide +kernel
theorem dX9_whyNotMerge_31 : decode cX9_whyNotMerge 31 = .ok (.iconst 1, 1) := by decide +kernel
theorem dX9_whyNotMerge_32 : decode cX9_whyNotMerge 32 = .ok (.iadd, 1) := by decide +kernel
theorem dX9_whyNotMerge_33 : decode cX9_whyNotMerge 33 = .ok (.iaload, 1) := by decide +kernel
theorem dX9_whyNotMerge_34 : decode cX9_whyNotMerge 34 = .ok (.iadd, 1) := by decide +kernel
theorem dX9_whyNotMerge_35 : decode cX9_whyNotMerge 35 = .ok (.bipush 12, 2) := by decide +kernel
theorem dX9_whyNotMerge_37 : decode cX9_whyNotMerge 37 = .ok (.if_icmp .le 7, 3) := by decide +kernel
theorem dX9_whyNotMerge_40 : decode cX9_whyNotMerge 40 = .ok (.iconst 2, 1) := by decide +kernel
theorem dX9_whyNotMerge_41 : decode cX9_whyNotMerge 41 = .ok (.goto 4, 3) := by decide +kernel
theorem dX9_whyNotMerge_44 : decode cX9_whyNotMerge 44 = .ok (.iconst 0, 1) := by decide +kernel
theorem dX9_whyNotMerge_45 : decode cX9_whyNotMerge 45 = .ok (.ireturn, 1) := by decide +kernel
theorem dX9_mergedPin_0 : decode cX9_mergedPin 0 = .ok (.aload_n 0, 1) := by decide +kernel
theorem dX9_mergedPin_1 : decode cX9_mergedPin 1 = .ok (.bipush 12, 2) := by decide +kernel
theorem dX9_mergedPin_3 : decode cX9_mergedPin 3 = .ok (.iload_n 1, 1) := by decide +kernel
theorem dX9_mergedPin_4 : decode cX9_mergedPin 4 = .ok (.iadd, 1) := by decide +kernel
theorem dX9_mergedPin_5 : decode cX9_mergedPin 5 = .ok (.iaload, 1) := by decide +kernel
theorem dX9_mergedPin_6 : decode cX9_mergedPin 6 = .ok (.aload_n 0, 1) := by decide +kernel
theorem dX9_mergedPin_7 : decode cX9_mergedPin 7 = .ok (.bipush 12, 2) := by decide +kernel
theorem dX9_mergedPin_9 : decode cX9_mergedPin 9 = .ok (.iload_n 1, 1) := by decide +kernel
theorem dX9_mergedPin_10 : decode cX9_mergedPin 10 = .ok (.iadd, 1) := by decide +kernel
theorem dX9_mergedPin_11 : decode cX9_mergedPin 11 = .ok (.iconst 1, 1) := by decide +kernel
theorem dX9_mergedPin_12 : decode cX9_mergedPin 12 = .ok (.iadd, 1) := by decide +kernel
theorem dX9_mergedPin_13 : decode cX9_mergedPin 13 = .ok (.iaload, 1) := by decide +kernel
theorem dX9_mergedPin_14 : decode cX9_mergedPin 14 = .ok (.if_icmp .ne 12, 3) := by decide +kernel
theorem dX9_mergedPin_17 : decode cX9_mergedPin 17 = .ok (.aload_n 0, 1) := by decide +kernel
theorem dX9_mergedPin_18 : decode cX9_mergedPin 18 = .ok (.bipush 12, 2) := by decide +kernel
theorem dX9_mergedPin_20 : decode cX9_mergedPin 20 = .ok (.iload_n 1, 1) := by decide +kernel
theorem dX9_mergedPin_21 : decode cX9_mergedPin 21 = .ok (.iadd, 1) := by decide +kernel
theorem dX9_mergedPin_22 : decode cX9_mergedPin 22 = .ok (.iaload, 1) := by decide +kernel
theorem dX9_mergedPin_23 : decode cX9_mergedPin 23 = .ok (.goto 4, 3) := by decide +kernel
theorem dX9_mergedPin_26 : decode cX9_mergedPin 26 = .ok (.iconst 0, 1) := by decide +kernel
theorem dX9_mergedPin_27 : decode cX9_mergedPin 27 = .ok (.ireturn, 1) := by decide +kernel
theorem dX9_mergeOn_0 : decode cX9_mergeOn 0 = .ok (.aload_n 0, 1) := by decide +kernel
theorem dX9_mergeOn_1 : decode cX9_mergeOn 1 = .ok (.bipush 12, 2) := by decide +kernel
theorem dX9_mergeOn_3 : decode cX9_mergeOn 3 = .ok (.iload_n 1, 1) := by decide +kernel
theorem dX9_mergeOn_4 : decode cX9_mergeOn 4 = .ok (.iadd, 1) := by decide +kernel
theorem dX9_mergeOn_5 : decode cX9_mergeOn 5 = .ok (.aload_n 0, 1) := by decide +kernel
theorem dX9_mergeOn_6 : decode cX9_mergeOn 6 = .ok (.iload_n 1, 1) := by decide +kernel
theorem dX9_mergeOn_7 : decode cX9_mergeOn 7 = .ok (.invokestatic 225, 3) := by decide +kernel
theorem dX9_mergeOn_10 : decode cX9_mergeOn 10 = .ok (.iastore, 1) := by decide +kernel
theorem dX9_mergeOn_11 : decode cX9_mergeOn 11 = .ok (.aload_n 0, 1) := by decide +kernel
theorem dX9_mergeOn_12 : decode cX9_mergeOn 12 = .ok (.iconst 2, 1) := by decide +kernel
theorem dX9_mergeOn_13 : decode cX9_mergeOn 13 = .ok (.iload_n 1, 1) := by decide +kernel
theorem dX9_mergeOn_14 : decode cX9_mergeOn 14 = .ok (.iadd, 1) := by decide +kernel
theorem dX9_mergeOn_15 : decode cX9_mergeOn 15 = .ok (.dup2, 1) := by decide +kernel
theorem dX9_mergeOn_16 : decode cX9_mergeOn 16 = .ok (.iaload, 1) := by decide +kernel
theorem dX9_mergeOn_17 : decode cX9_mergeOn 17 = .ok (.aload_n 0, 1) := by decide +kernel
theorem dX9_mergeOn_18 : decode cX9_mergeOn 18 = .ok (.iconst 2, 1) := by decide +kernel
theorem dX9_mergeOn_19 : decode cX9_mergeOn 19 = .ok (.iload_n 1, 1) := by decide +kernel
theorem dX9_mergeOn_20 : decode cX9_mergeOn 20 = .ok (.iadd, 1) := by decide +kernel
theorem dX9_mergeOn_21 : decode cX9_mergeOn 21 = .ok (.iconst 1, 1) := by decide +kernel
theorem dX9_mergeOn_22 : decode cX9_mergeOn 22 = .ok (.iadd, 1) := by decide +kernel
theorem dX9_mergeOn_23 : decode cX9_mergeOn 23 = .ok (.iaload, 1) := by decide +kernel
theorem dX9_mergeOn_24 : decode cX9_mergeOn 24 = .ok (.iadd, 1) := by decide +kernel
theorem dX9_mergeOn_25 : decode cX9_mergeOn 25 = .ok (.iastore, 1) := by decide +kernel
theorem dX9_mergeOn_26 : decode cX9_mergeOn 26 = .ok (.aload_n 0, 1) := by decide +kernel
theorem dX9_mergeOn_27 : decode cX9_mergeOn 27 = .ok (.iload_n 1, 1) := by decide +kernel
theorem dX9_mergeOn_28 : decode cX9_mergeOn 28 = .ok (.iconst 1, 1) := by decide +kernel
theorem dX9_mergeOn_29 : decode cX9_mergeOn 29 = .ok (.iadd, 1) := by decide +kernel
theorem dX9_mergeOn_30 : decode cX9_mergeOn 30 = .ok (.invokestatic 211, 3) := by decide +kernel
theorem dX9_mergeOn_33 : decode cX9_mergeOn 33 = .ok (.return_, 1) := by decide +kernel
theorem dX9_merge_0 : decode cX9_merge 0 = .ok (.aload_n 0, 1) := by decide +kernel
theorem dX9_merge_1 : decode cX9_merge 1 = .ok (.aload_n 0, 1) := by decide +kernel
theorem dX9_merge_2 : decode cX9_merge 2 = .ok (.getfield 13, 3) := by decide +kernel
theorem dX9_merge_5 : decode cX9_merge 5 = .ok (.iload_n 1, 1) := by decide +kernel
theorem dX9_merge_6 : decode cX9_merge 6 = .ok (.invokestatic 228, 3) := by decide +kernel
theorem dX9_merge_9 : decode cX9_merge 9 = .ok (.invokevirtual 128, 3) := by decide +kernel
theorem dX9_merge_12 : decode cX9_merge 12 = .ok (.ifCond .eq 5, 3) := by decide +kernel
theorem dX9_merge_15 : decode cX9_merge 15 = .ok (.iconst 0, 1) := by decide +kernel
theorem dX9_merge_16 : decode cX9_merge 16 = .ok (.ireturn, 1) := by decide +kernel
theorem dX9_merge_17 : decode cX9_merge 17 = .ok (.aload_n 0, 1) := by decide +kernel
theorem dX9_merge_18 : decode cX9_merge 18 = .ok (.invokevirtual 202, 3) := by decide +kernel
theorem dX9_merge_21 : decode cX9_merge 21 = .ok (.aload_n 0, 1) := by decide +kernel
theorem dX9_merge_22 : decode cX9_merge 22 = .ok (.getfield 13, 3) := by decide +kernel
theorem dX9_merge_25 : decode cX9_merge 25 = .ok (.iload_n 1, 1) := by decide +kernel
theorem dX9_merge_26 : decode cX9_merge 26 = .ok (.invokestatic 231, 3) := by decide +kernel
theorem dX9_merge_29 : decode cX9_merge 29 = .ok (.aload_n 0, 1) := by decide +kernel
theorem dX9_merge_30 : decode cX9_merge 30 = .ok (.getfield 13, 3) := by decide +kernel
theorem dX9_merge_33 : decode cX9_merge 33 = .ok (.invokestatic 167, 3) := by decide +kernel
theorem dX9_merge_36 : decode cX9_merge 36 = .ok (.ireturn, 1) := by decide +kernel
theorem dX9_gainOn_0 : decode cX9_gainOn 0 = .ok (.aload_n 0, 1) := by decide +kernel
theorem dX9_gainOn_1 : decode cX9_gainOn 1 = .ok (.bipush 22, 2) := by decide +kernel
theorem dX9_gainOn_3 : decode cX9_gainOn 3 = .ok (.aload_n 0, 1) := by decide +kernel
theorem dX9_gainOn_4 : decode cX9_gainOn 4 = .ok (.iload_n 1, 1) := by decide +kernel
theorem dX9_gainOn_5 : decode cX9_gainOn 5 = .ok (.invokestatic 48, 3) := by decide +kernel
theorem dX9_gainOn_8 : decode cX9_gainOn 8 = .ok (.iadd, 1) := by decide +kernel
theorem dX9_gainOn_9 : decode cX9_gainOn 9 = .ok (.aload_n 0, 1) := by decide +kernel
theorem dX9_gainOn_10 : decode cX9_gainOn 10 = .ok (.iconst 2, 1) := by decide +kernel
theorem dX9_gainOn_11 : decode cX9_gainOn 11 = .ok (.iload_n 1, 1) := by decide +kernel
theorem dX9_gainOn_12 : decode cX9_gainOn 12 = .ok (.iadd, 1) := by decide +kernel
theorem dX9_gainOn_13 : decode cX9_gainOn 13 = .ok (.iaload, 1) := by decide +kernel
theorem dX9_gainOn_14 : decode cX9_gainOn 14 = .ok (.aload_n 0, 1) := by decide +kernel
theorem dX9_gainOn_15 : decode cX9_gainOn 15 = .ok (.iconst 2, 1) := by decide +kernel
theorem dX9_gainOn_16 : decode cX9_gainOn 16 = .ok (.iload_n 1, 1) := by decide +kernel
theorem dX9_gainOn_17 : decode cX9_gainOn 17 = .ok (.iadd, 1) := by decide +kernel
theorem dX9_gainOn_18 : decode cX9_gainOn 18 = .ok (.iconst 1, 1) := by decide +kernel
theorem dX9_gainOn_19 : decode cX9_gainOn 19 = .ok (.iadd, 1) := by decide +kernel
theorem dX9_gainOn_20 : decode cX9_gainOn 20 = .ok (.iaload, 1) := by decide +kernel
theorem dX9_gainOn_21 : decode cX9_gainOn 21 = .ok (.iadd, 1) := by decide +kernel
theorem dX9_gainOn_22 : decode cX9_gainOn 22 = .ok (.aload_n 0, 1) := by decide +kernel
theorem dX9_gainOn_23 : decode cX9_gainOn 23 = .ok (.iload_n 1, 1) := by decide +kernel
theorem dX9_gainOn_24 : decode cX9_gainOn 24 = .ok (.invokestatic 225, 3) := by decide +kernel
theorem dX9_gainOn_27 : decode cX9_gainOn 27 = .ok (.invokestatic 98, 3) := by decide +kernel
theorem dX9_gainOn_30 : decode cX9_gainOn 30 = .ok (.istore_n 2, 1) := by decide +kernel
theorem dX9_gainOn_31 : decode cX9_gainOn 31 = .ok (.aload_n 0, 1) := by decide +kernel
theorem dX9_gainOn_32 : decode cX9_gainOn 32 = .ok (.iload_n 1, 1) := by decide +kernel
theorem dX9_gainOn_33 : decode cX9_gainOn 33 = .ok (.invokestatic 101, 3) := by decide +kernel
theorem dX9_gainOn_36 : decode cX9_gainOn 36 = .ok (.aload_n 0, 1) := by decide +kernel
theorem dX9_gainOn_37 : decode cX9_gainOn 37 = .ok (.iload_n 1, 1) := by decide +kernel
theorem dX9_gainOn_38 : decode cX9_gainOn 38 = .ok (.iconst 1, 1) := by decide +kernel
theorem dX9_gainOn_39 : decode cX9_gainOn 39 = .ok (.iadd, 1) := by decide +kernel
theorem dX9_gainOn_40 : decode cX9_gainOn 40 = .ok (.invokestatic 101, 3) := by decide +kernel
theorem dX9_gainOn_43 : decode cX9_gainOn 43 = .ok (.iadd, 1) := by decide +kernel
theorem dX9_gainOn_44 : decode cX9_gainOn 44 = .ok (.iload_n 2, 1) := by decide +kernel
theorem dX9_gainOn_45 : decode cX9_gainOn 45 = .ok (.isub, 1) := by decide +kernel
theorem dX9_gainOn_46 : decode cX9_gainOn 46 = .ok (.ireturn, 1) := by decide +kernel
theorem dX9_compactOn_0 : decode cX9_compactOn 0 = .ok (.iconst 0, 1) := by decide +kernel
theorem dX9_compactOn_1 : decode cX9_compactOn 1 = .ok (.istore_n 1, 1) := by decide +kernel
theorem dX9_compactOn_2 : decode cX9_compactOn 2 = .ok (.iconst 0, 1) := by decide +kernel
theorem dX9_compactOn_3 : decode cX9_compactOn 3 = .ok (.istore_n 2, 1) := by decide +kernel
theorem dX9_compactOn_4 : decode cX9_compactOn 4 = .ok (.iload_n 2, 1) := by decide +kernel
theorem dX9_compactOn_5 : decode cX9_compactOn 5 = .ok (.aload_n 0, 1) := by decide +kernel
theorem dX9_compactOn_6 : decode cX9_compactOn 6 = .ok (.iconst 0, 1) := by decide +kernel
theorem dX9_compactOn_7 : decode cX9_compactOn 7 = .ok (.iaload, 1) := by decide +kernel
theorem dX9_compactOn_8 : decode cX9_compactOn 8 = .ok (.iconst 1, 1) := by decide +kernel
theorem dX9_compactOn_9 : decode cX9_compactOn 9 = .ok (.isub, 1) := by decide +kernel
theorem dX9_compactOn_10 : decode cX9_compactOn 10 = .ok (.if_icmp .ge 38, 3) := by decide +kernel
theorem dX9_compactOn_13 : decode cX9_compactOn 13 = .ok (.aload_n 0, 1) := by decide +kernel
theorem dX9_compactOn_14 : decode cX9_compactOn 14 = .ok (.iload_n 2, 1) := by decide +kernel
theorem dX9_compactOn_15 : decode cX9_compactOn 15 = .ok (.invokestatic 228, 3) := by decide +kernel
theorem dX9_compactOn_18 : decode cX9_compactOn 18 = .ok (.ifCond .ne 24, 3) := by decide +kernel
theorem dX9_compactOn_21 : decode cX9_compactOn 21 = .ok (.aload_n 0, 1) := by decide +kernel
theorem dX9_compactOn_22 : decode cX9_compactOn 22 = .ok (.iload_n 2, 1) := by decide +kernel
theorem dX9_compactOn_23 : decode cX9_compactOn 23 = .ok (.invokestatic 234, 3) := by decide +kernel
theorem dX9_compactOn_26 : decode cX9_compactOn 26 = .ok (.ifCond .le 16, 3) := by decide +kernel
theorem dX9_compactOn_29 : decode cX9_compactOn 29 = .ok (.aload_n 0, 1) := by decide +kernel
theorem dX9_compactOn_30 : decode cX9_compactOn 30 = .ok (.iload_n 2, 1) := by decide +kernel
theorem dX9_compactOn_31 : decode cX9_compactOn 31 = .ok (.invokestatic 231, 3) := by decide +kernel
theorem dX9_compactOn_34 : decode cX9_compactOn 34 = .ok (.iinc 1 1, 3) := by decide +kernel
theorem dX9_compactOn_37 : decode cX9_compactOn 37 = .ok (.iconst 0, 1) := by decide +kernel
theorem dX9_compactOn_38 : decode cX9_compactOn 38 = .ok (.istore_n 2, 1) := by decide +kernel
theorem dX9_compactOn_39 : decode cX9_compactOn 39 = .ok (.goto (-35), 3) := by decide +kernel
theorem dX9_compactOn_42 : decode cX9_compactOn 42 = .ok (.iinc 2 1, 3) := by decide +kernel
theorem dX9_compactOn_45 : decode cX9_compactOn 45 = .ok (.goto (-41), 3) := by decide +kernel
theorem dX9_compactOn_48 : decode cX9_compactOn 48 = .ok (.iload_n 1, 1) := by decide +kernel
theorem dX9_compactOn_49 : decode cX9_compactOn 49 = .ok (.ireturn, 1) := by decide +kernel
theorem dX9_compact_0 : decode cX9_compact 0 = .ok (.aload_n 0, 1) := by decide +kernel
theorem dX9_compact_1 : decode cX9_compact 1 = .ok (.invokevirtual 202, 3) := by decide +kernel
theorem dX9_compact_4 : decode cX9_compact 4 = .ok (.aload_n 0, 1) := by decide +kernel
theorem dX9_compact_5 : decode cX9_compact 5 = .ok (.getfield 13, 3) := by decide +kernel
theorem dX9_compact_8 : decode cX9_compact 8 = .ok (.invokestatic 237, 3) := by decide +kernel
theorem dX9_compact_11 : decode cX9_compact 11 = .ok (.ireturn, 1) := by decide +kernel
theorem dX9_pin_0 : decode cX9_pin 0 = .ok (.aload_n 0, 1) := by decide +kernel
theorem dX9_pin_1 : decode cX9_pin 1 = .ok (.aload_n 0, 1) := by decide +kernel
theorem dX9_pin_2 : decode cX9_pin 2 = .ok (.getfield 13, 3) := by decide +kernel
theorem dX9_pin_5 : decode cX9_pin 5 = .ok (.iload_n 1, 1) := by decide +kernel
theorem dX9_pin_6 : decode cX9_pin 6 = .ok (.invokestatic 174, 3) := by decide +kernel
theorem dX9_pin_9 : decode cX9_pin 9 = .ok (.ifCond .ne 7, 3) := by decide +kernel
theorem dX9_pin_12 : decode cX9_pin 12 = .ok (.iconst 1, 1) := by decide +kernel
theorem dX9_pin_13 : decode cX9_pin 13 = .ok (.goto 27, 3) := by decide +kernel
theorem dX9_pin_16 : decode cX9_pin 16 = .ok (.iload_n 2, 1) := by decide +kernel
theorem dX9_pin_17 : decode cX9_pin 17 = .ok (.i2l, 1) := by decide +kernel
theorem dX9_pin_18 : decode cX9_pin 18 = .ok (.lconst 0, 1) := by decide +kernel
theorem dX9_pin_19 : decode cX9_pin 19 = .ok (.ldc2_w 181, 3) := by decide +kernel
theorem dX9_pin_22 : decode cX9_pin 22 = .ok (.invokestatic 52, 3) := by decide +kernel
theorem dX9_pin_25 : decode cX9_pin 25 = .ok (.ifCond .ne 10, 3) := by decide +kernel
theorem dX9_pin_28 : decode cX9_pin 28 = .ok (.iload_n 2, 1) := by decide +kernel
theorem dX9_pin_29 : decode cX9_pin 29 = .ok (.sipush (-9999), 3) := by decide +kernel
theorem dX9_pin_32 : decode cX9_pin 32 = .ok (.if_icmp .ne 7, 3) := by decide +kernel
theorem dX9_pin_35 : decode cX9_pin 35 = .ok (.iconst 0, 1) := by decide +kernel
theorem dX9_pin_36 : decode cX9_pin 36 = .ok (.goto 4, 3) := by decide +kernel
theorem dX9_pin_39 : decode cX9_pin 39 = .ok (.iconst 2, 1) := by decide +kernel
theorem dX9_pin_40 : decode cX9_pin 40 = .ok (.invokevirtual 128, 3) := by decide +kernel
theorem dX9_pin_43 : decode cX9_pin 43 = .ok (.ifCond .eq 5, 3) := by decide +kernel
theorem dX9_pin_46 : decode cX9_pin 46 = .ok (.iconst 0, 1) := by decide +kernel
theorem dX9_pin_47 : decode cX9_pin 47 = .ok (.ireturn, 1) := by decide +kernel
theorem dX9_pin_48 : decode cX9_pin 48 = .ok (.aload_n 0, 1) := by decide +kernel
theorem dX9_pin_49 : decode cX9_pin 49 = .ok (.invokevirtual 202, 3) := by decide +kernel
theorem dX9_pin_52 : decode cX9_pin 52 = .ok (.aload_n 0, 1) := by decide +kernel
theorem dX9_pin_53 : decode cX9_pin 53 = .ok (.getfield 13, 3) := by decide +kernel
theorem dX9_pin_56 : decode cX9_pin 56 = .ok (.bipush 12, 2) := by decide +kernel
theorem dX9_pin_58 : decode cX9_pin 58 = .ok (.iload_n 1, 1) := by decide +kernel
theorem dX9_pin_59 : decode cX9_pin 59 = .ok (.iadd, 1) := by decide +kernel
theorem dX9_pin_60 : decode cX9_pin 60 = .ok (.iload_n 2, 1) := by decide +kernel
theorem dX9_pin_61 : decode cX9_pin 61 = .ok (.sipush (-9999), 3) := by decide +kernel
theorem dX9_pin_64 : decode cX9_pin 64 = .ok (.if_icmp .ne 7, 3) := by decide +kernel
theorem dX9_pin_67 : decode cX9_pin 67 = .ok (.iconst 0, 1) := by decide +kernel
theorem dX9_pin_68 : decode cX9_pin 68 = .ok (.goto 6, 3) := by decide +kernel
theorem dX9_pin_71 : decode cX9_pin 71 = .ok (.iload_n 2, 1) := by decide +kernel
theorem dX9_pin_72 : decode cX9_pin 72 = .ok (.iconst 1, 1) := by decide +kernel
theorem dX9_pin_73 : decode cX9_pin 73 = .ok (.iadd, 1) := by decide +kernel
theorem dX9_pin_74 : decode cX9_pin 74 = .ok (.iastore, 1) := by decide +kernel
theorem dX9_pin_75 : decode cX9_pin 75 = .ok (.aload_n 0, 1) := by decide +kernel
theorem dX9_pin_76 : decode cX9_pin 76 = .ok (.getfield 13, 3) := by decide +kernel
theorem dX9_pin_79 : decode cX9_pin 79 = .ok (.iload_n 1, 1) := by decide +kernel
theorem dX9_pin_80 : decode cX9_pin 80 = .ok (.invokestatic 101, 3) := by decide +kernel
theorem dX9_pin_83 : decode cX9_pin 83 = .ok (.ireturn, 1) := by decide +kernel
theorem dX9_setLimit_0 : decode cX9_setLimit 0 = .ok (.aload_n 0, 1) := by decide +kernel
theorem dX9_setLimit_1 : decode cX9_setLimit 1 = .ok (.iload_n 1, 1) := by decide +kernel
theorem dX9_setLimit_2 : decode cX9_setLimit 2 = .ok (.i2l, 1) := by decide +kernel
theorem dX9_setLimit_3 : decode cX9_setLimit 3 = .ok (.lconst 1, 1) := by decide +kernel
theorem dX9_setLimit_4 : decode cX9_setLimit 4 = .ok (.ldc2_w 240, 3) := by decide +kernel
theorem dX9_setLimit_7 : decode cX9_setLimit 7 = .ok (.invokestatic 52, 3) := by decide +kernel
theorem dX9_setLimit_10 : decode cX9_setLimit 10 = .ok (.ifCond .eq 7, 3) := by decide +kernel
theorem dX9_setLimit_13 : decode cX9_setLimit 13 = .ok (.iconst 0, 1) := by decide +kernel
theorem dX9_setLimit_14 : decode cX9_setLimit 14 = .ok (.goto 4, 3) := by decide +kernel
theorem dX9_setLimit_17 : decode cX9_setLimit 17 = .ok (.iconst 1, 1) := by decide +kernel
theorem dX9_setLimit_18 : decode cX9_setLimit 18 = .ok (.invokevirtual 128, 3) := by decide +kernel
theorem dX9_setLimit_21 : decode cX9_setLimit 21 = .ok (.ifCond .eq 5, 3) := by decide +kernel
theorem dX9_setLimit_24 : decode cX9_setLimit 24 = .ok (.iconst 0, 1) := by decide +kernel
theorem dX9_setLimit_25 : decode cX9_setLimit 25 = .ok (.ireturn, 1) := by decide +kernel
theorem dX9_setLimit_26 : decode cX9_setLimit 26 = .ok (.aload_n 0, 1) := by decide +kernel
theorem dX9_setLimit_27 : decode cX9_setLimit 27 = .ok (.invokevirtual 202, 3) := by decide +kernel
theorem dX9_setLimit_30 : decode cX9_setLimit 30 = .ok (.aload_n 0, 1) := by decide +kernel
theorem dX9_setLimit_31 : decode cX9_setLimit 31 = .ok (.getfield 13, 3) := by decide +kernel
theorem dX9_setLimit_34 : decode cX9_setLimit 34 = .ok (.iconst 1, 1) := by decide +kernel
theorem dX9_setLimit_35 : decode cX9_setLimit 35 = .ok (.iaload, 1) := by decide +kernel
theorem dX9_setLimit_36 : decode cX9_setLimit 36 = .ok (.istore_n 2, 1) := by decide +kernel
theorem dX9_setLimit_37 : decode cX9_setLimit 37 = .ok (.aload_n 0, 1) := by decide +kernel
theorem dX9_setLimit_38 : decode cX9_setLimit 38 = .ok (.getfield 13, 3) := by decide +kernel
theorem dX9_setLimit_41 : decode cX9_setLimit 41 = .ok (.iconst 1, 1) := by decide +kernel
theorem dX9_setLimit_42 : decode cX9_setLimit 42 = .ok (.iload_n 1, 1) := by decide +kernel
theorem dX9_setLimit_43 : decode cX9_setLimit 43 = .ok (.iastore, 1) := by decide +kernel
theorem dX9_setLimit_44 : decode cX9_setLimit 44 = .ok (.iload_n 2, 1) := by decide +kernel
theorem dX9_setLimit_45 : decode cX9_setLimit 45 = .ok (.ireturn, 1) := by decide +kernel
theorem dX9_take_0 : decode cX9_take 0 = .ok (.aload_n 0, 1) := by decide +kernel
theorem dX9_take_1 : decode cX9_take 1 = .ok (.aload_n 0, 1) := by decide +kernel
theorem dX9_take_2 : decode cX9_take 2 = .ok (.invokevirtual 161, 3) := by decide +kernel
theorem dX9_take_5 : decode cX9_take 5 = .ok (.ifCond .eq 18, 3) := by decide +kernel
theorem dX9_take_8 : decode cX9_take 8 = .ok (.aload_n 0, 1) := by decide +kernel
theorem dX9_take_9 : decode cX9_take 9 = .ok (.getfield 13, 3) := by decide +kernel
theorem dX9_take_12 : decode cX9_take 12 = .ok (.iconst 0, 1) := by decide +kernel
theorem dX9_take_13 : decode cX9_take 13 = .ok (.iaload, 1) := by decide +kernel
theorem dX9_take_14 : decode cX9_take 14 = .ok (.bipush 10, 2) := by decide +kernel
theorem dX9_take_16 : decode cX9_take 16 = .ok (.if_icmp .ge 7, 3) := by decide +kernel
theorem dX9_take_19 : decode cX9_take 19 = .ok (.iconst 0, 1) := by decide +kernel
theorem dX9_take_20 : decode cX9_take 20 = .ok (.goto 4, 3) := by decide +kernel
theorem dX9_take_23 : decode cX9_take 23 = .ok (.iconst 1, 1) := by decide +kernel
theorem dX9_take_24 : decode cX9_take 24 = .ok (.invokevirtual 128, 3) := by decide +kernel
theorem dX9_take_27 : decode cX9_take 27 = .ok (.ifCond .eq 5, 3) := by decide +kernel
theorem dX9_take_30 : decode cX9_take 30 = .ok (.iconst 0, 1) := by decide +kernel
theorem dX9_take_31 : decode cX9_take 31 = .ok (.ireturn, 1) := by decide +kernel
theorem dX9_take_32 : decode cX9_take 32 = .ok (.aload_n 0, 1) := by decide +kernel
theorem dX9_take_33 : decode cX9_take 33 = .ok (.invokevirtual 202, 3) := by decide +kernel
theorem dX9_take_36 : decode cX9_take 36 = .ok (.aload_n 0, 1) := by decide +kernel
theorem dX9_take_37 : decode cX9_take 37 = .ok (.getfield 13, 3) := by decide +kernel
theorem dX9_take_40 : decode cX9_take 40 = .ok (.invokestatic 56, 3) := by decide +kernel
theorem dX9_take_43 : decode cX9_take 43 = .ok (.istore_n 1, 1) := by decide +kernel
theorem dX9_take_44 : decode cX9_take 44 = .ok (.iconst 0, 1) := by decide +kernel
theorem dX9_take_45 : decode cX9_take 45 = .ok (.istore_n 2, 1) := by decide +kernel
theorem dX9_take_46 : decode cX9_take 46 = .ok (.iload_n 2, 1) := by decide +kernel
theorem dX9_take_47 : decode cX9_take 47 = .ok (.aload_n 0, 1) := by decide +kernel
theorem dX9_take_48 : decode cX9_take 48 = .ok (.getfield 143, 3) := by decide +kernel
theorem dX9_take_51 : decode cX9_take 51 = .ok (.if_icmp .ge 26, 3) := by decide +kernel
theorem dX9_take_54 : decode cX9_take 54 = .ok (.aload_n 0, 1) := by decide +kernel
theorem dX9_take_55 : decode cX9_take 55 = .ok (.getfield 13, 3) := by decide +kernel
theorem dX9_take_58 : decode cX9_take 58 = .ok (.bipush 22, 2) := by decide +kernel
theorem dX9_take_60 : decode cX9_take 60 = .ok (.iload_n 1, 1) := by decide +kernel
theorem dX9_take_61 : decode cX9_take 61 = .ok (.iadd, 1) := by decide +kernel
theorem dX9_take_62 : decode cX9_take 62 = .ok (.iload_n 2, 1) := by decide +kernel
theorem dX9_take_63 : decode cX9_take 63 = .ok (.iadd, 1) := by decide +kernel
theorem dX9_take_64 : decode cX9_take 64 = .ok (.aload_n 0, 1) := by decide +kernel
theorem dX9_take_65 : decode cX9_take 65 = .ok (.getfield 35, 3) := by decide +kernel
theorem dX9_take_68 : decode cX9_take 68 = .ok (.iload_n 2, 1) := by decide +kernel
theorem dX9_take_69 : decode cX9_take 69 = .ok (.iaload, 1) := by decide +kernel
theorem dX9_take_70 : decode cX9_take 70 = .ok (.iastore, 1) := by decide +kernel
theorem dX9_take_71 : decode cX9_take 71 = .ok (.iinc 2 1, 3) := by decide +kernel
theorem dX9_take_74 : decode cX9_take 74 = .ok (.goto (-28), 3) := by decide +kernel
theorem dX9_take_77 : decode cX9_take 77 = .ok (.aload_n 0, 1) := by decide +kernel
theorem dX9_take_78 : decode cX9_take 78 = .ok (.getfield 13, 3) := by decide +kernel
theorem dX9_take_81 : decode cX9_take 81 = .ok (.iconst 2, 1) := by decide +kernel
theorem dX9_take_82 : decode cX9_take 82 = .ok (.aload_n 0, 1) := by decide +kernel
theorem dX9_take_83 : decode cX9_take 83 = .ok (.getfield 13, 3) := by decide +kernel
theorem dX9_take_86 : decode cX9_take 86 = .ok (.iconst 0, 1) := by decide +kernel
theorem dX9_take_87 : decode cX9_take 87 = .ok (.iaload, 1) := by decide +kernel
theorem dX9_take_88 : decode cX9_take 88 = .ok (.iadd, 1) := by decide +kernel
theorem dX9_take_89 : decode cX9_take 89 = .ok (.aload_n 0, 1) := by decide +kernel
theorem dX9_take_90 : decode cX9_take 90 = .ok (.getfield 143, 3) := by decide +kernel
theorem dX9_take_93 : decode cX9_take 93 = .ok (.iastore, 1) := by decide +kernel
theorem dX9_take_94 : decode cX9_take 94 = .ok (.aload_n 0, 1) := by decide +kernel
theorem dX9_take_95 : decode cX9_take 95 = .ok (.getfield 13, 3) := by decide +kernel
theorem dX9_take_98 : decode cX9_take 98 = .ok (.bipush 12, 2) := by decide +kernel
theorem dX9_take_100 : decode cX9_take 100 = .ok (.aload_n 0, 1) := by decide +kernel
theorem dX9_take_101 : decode cX9_take 101 = .ok (.getfield 13, 3) := by decide +kernel
theorem dX9_take_104 : decode cX9_take 104 = .ok (.iconst 0, 1) := by decide +kernel
theorem dX9_take_105 : decode cX9_take 105 = .ok (.iaload, 1) := by decide +kernel
theorem dX9_take_106 : decode cX9_take 106 = .ok (.iadd, 1) := by decide +kernel
theorem dX9_take_107 : decode cX9_take 107 = .ok (.iconst 0, 1) := by decide +kernel
theorem dX9_take_108 : decode cX9_take 108 = .ok (.iastore, 1) := by decide +kernel
theorem dX9_take_109 : decode cX9_take 109 = .ok (.aload_n 0, 1) := by decide +kernel
theorem dX9_take_110 : decode cX9_take 110 = .ok (.getfield 13, 3) := by decide +kernel
theorem dX9_take_113 : decode cX9_take 113 = .ok (.iconst 0, 1) := by decide +kernel
theorem dX9_take_114 : decode cX9_take 114 = .ok (.dup2, 1) := by decide +kernel
theorem dX9_take_115 : decode cX9_take 115 = .ok (.iaload, 1) := by decide +kernel
theorem dX9_take_116 : decode cX9_take 116 = .ok (.iconst 1, 1) := by decide +kernel
theorem dX9_take_117 : decode cX9_take 117 = .ok (.iadd, 1) := by decide +kernel
theorem dX9_take_118 : decode cX9_take 118 = .ok (.iastore, 1) := by decide +kernel
theorem dX9_take_119 : decode cX9_take 119 = .ok (.aload_n 0, 1) := by decide +kernel
theorem dX9_take_120 : decode cX9_take 120 = .ok (.getfield 13, 3) := by decide +kernel
theorem dX9_take_123 : decode cX9_take 123 = .ok (.aload_n 0, 1) := by decide +kernel
theorem dX9_take_124 : decode cX9_take 124 = .ok (.getfield 13, 3) := by decide +kernel
theorem dX9_take_127 : decode cX9_take 127 = .ok (.iconst 0, 1) := by decide +kernel
theorem dX9_take_128 : decode cX9_take 128 = .ok (.iaload, 1) := by decide +kernel
theorem dX9_take_129 : decode cX9_take 129 = .ok (.iconst 1, 1) := by decide +kernel
theorem dX9_take_130 : decode cX9_take 130 = .ok (.isub, 1) := by decide +kernel
theorem dX9_take_131 : decode cX9_take 131 = .ok (.invokestatic 114, 3) := by decide +kernel
theorem dX9_take_134 : decode cX9_take 134 = .ok (.ireturn, 1) := by decide +kernel
theorem dX9_undo_0 : decode cX9_undo 0 = .ok (.aload_n 0, 1) := by decide +kernel
theorem dX9_undo_1 : decode cX9_undo 1 = .ok (.aload_n 0, 1) := by decide +kernel
theorem dX9_undo_2 : decode cX9_undo 2 = .ok (.getfield 188, 3) := by decide +kernel
theorem dX9_undo_5 : decode cX9_undo 5 = .ok (.ifCond .ne 7, 3) := by decide +kernel
theorem dX9_undo_8 : decode cX9_undo 8 = .ok (.iconst 1, 1) := by decide +kernel
theorem dX9_undo_9 : decode cX9_undo 9 = .ok (.goto 4, 3) := by decide +kernel
theorem dX9_undo_12 : decode cX9_undo 12 = .ok (.iconst 0, 1) := by decide +kernel
theorem dX9_undo_13 : decode cX9_undo 13 = .ok (.invokevirtual 128, 3) := by decide +kernel
theorem dX9_undo_16 : decode cX9_undo 16 = .ok (.ifCond .eq 5, 3) := by decide +kernel
theorem dX9_undo_19 : decode cX9_undo 19 = .ok (.iconst 0, 1) := by decide +kernel
theorem dX9_undo_20 : decode cX9_undo 20 = .ok (.ireturn, 1) := by decide +kernel
theorem dX9_undo_21 : decode cX9_undo 21 = .ok (.aload_n 0, 1) := by decide +kernel
theorem dX9_undo_22 : decode cX9_undo 22 = .ok (.dup, 1) := by decide +kernel
theorem dX9_undo_23 : decode cX9_undo 23 = .ok (.getfield 188, 3) := by decide +kernel
theorem dX9_undo_26 : decode cX9_undo 26 = .ok (.iconst 1, 1) := by decide +kernel
theorem dX9_undo_27 : decode cX9_undo 27 = .ok (.isub, 1) := by decide +kernel
theorem dX9_undo_28 : decode cX9_undo 28 = .ok (.putfield 188, 3) := by decide +kernel
theorem dX9_undo_31 : decode cX9_undo 31 = .ok (.aload_n 0, 1) := by decide +kernel
theorem dX9_undo_32 : decode cX9_undo 32 = .ok (.getfield 22, 3) := by decide +kernel
theorem dX9_undo_35 : decode cX9_undo 35 = .ok (.sipush 142, 3) := by decide +kernel
theorem dX9_undo_38 : decode cX9_undo 38 = .ok (.aload_n 0, 1) := by decide +kernel
theorem dX9_undo_39 : decode cX9_undo 39 = .ok (.getfield 188, 3) := by decide +kernel
theorem dX9_undo_42 : decode cX9_undo 42 = .ok (.imul, 1) := by decide +kernel
theorem dX9_undo_43 : decode cX9_undo 43 = .ok (.aload_n 0, 1) := by decide +kernel
theorem dX9_undo_44 : decode cX9_undo 44 = .ok (.getfield 13, 3) := by decide +kernel
theorem dX9_undo_47 : decode cX9_undo 47 = .ok (.iconst 0, 1) := by decide +kernel
theorem dX9_undo_48 : decode cX9_undo 48 = .ok (.invokestatic 191, 3) := by decide +kernel
theorem dX9_undo_51 : decode cX9_undo 51 = .ok (.aload_n 0, 1) := by decide +kernel
theorem dX9_undo_52 : decode cX9_undo 52 = .ok (.getfield 188, 3) := by decide +kernel
theorem dX9_undo_55 : decode cX9_undo 55 = .ok (.ireturn, 1) := by decide +kernel
theorem dX9_gain_0 : decode cX9_gain 0 = .ok (.aload_n 0, 1) := by decide +kernel
theorem dX9_gain_1 : decode cX9_gain 1 = .ok (.aload_n 0, 1) := by decide +kernel
theorem dX9_gain_2 : decode cX9_gain 2 = .ok (.getfield 13, 3) := by decide +kernel
theorem dX9_gain_5 : decode cX9_gain 5 = .ok (.iload_n 1, 1) := by decide +kernel
theorem dX9_gain_6 : decode cX9_gain 6 = .ok (.invokestatic 174, 3) := by decide +kernel
theorem dX9_gain_9 : decode cX9_gain 9 = .ok (.ifCond .eq 7, 3) := by decide +kernel
theorem dX9_gain_12 : decode cX9_gain 12 = .ok (.iconst 0, 1) := by decide +kernel
theorem dX9_gain_13 : decode cX9_gain 13 = .ok (.goto 4, 3) := by decide +kernel
theorem dX9_gain_16 : decode cX9_gain 16 = .ok (.iconst 1, 1) := by decide +kernel
theorem dX9_gain_17 : decode cX9_gain 17 = .ok (.invokevirtual 128, 3) := by decide +kernel
theorem dX9_gain_20 : decode cX9_gain 20 = .ok (.ifCond .eq 5, 3) := by decide +kernel
theorem dX9_gain_23 : decode cX9_gain 23 = .ok (.iconst 0, 1) := by decide +kernel
theorem dX9_gain_24 : decode cX9_gain 24 = .ok (.ireturn, 1) := by decide +kernel
theorem dX9_gain_25 : decode cX9_gain 25 = .ok (.aload_n 0, 1) := by decide +kernel
theorem dX9_gain_26 : decode cX9_gain 26 = .ok (.getfield 13, 3) := by decide +kernel
theorem dX9_gain_29 : decode cX9_gain 29 = .ok (.iload_n 1, 1) := by decide +kernel
theorem dX9_gain_30 : decode cX9_gain 30 = .ok (.invokestatic 228, 3) := by decide +kernel
theorem dX9_gain_33 : decode cX9_gain 33 = .ok (.ifCond .ne 14, 3) := by decide +kernel
theorem dX9_gain_36 : decode cX9_gain 36 = .ok (.aload_n 0, 1) := by decide +kernel
theorem dX9_gain_37 : decode cX9_gain 37 = .ok (.getfield 13, 3) := by decide +kernel
theorem dX9_gain_40 : decode cX9_gain 40 = .ok (.iload_n 1, 1) := by decide +kernel
theorem dX9_gain_41 : decode cX9_gain 41 = .ok (.invokestatic 234, 3) := by decide +kernel
theorem dX9_gain_44 : decode cX9_gain 44 = .ok (.goto 6, 3) := by decide +kernel
theorem dX9_gain_47 : decode cX9_gain 47 = .ok (.sipush (-9999), 3) := by decide +kernel
theorem dX9_gain_50 : decode cX9_gain 50 = .ok (.ireturn, 1) := by decide +kernel
theorem dX9_bestCut_0 : decode cX9_bestCut 0 = .ok (.aload_n 0, 1) := by decide +kernel
theorem dX9_bestCut_1 : decode cX9_bestCut 1 = .ok (.aload_n 0, 1) := by decide +kernel
theorem dX9_bestCut_2 : decode cX9_bestCut 2 = .ok (.getfield 13, 3) := by decide +kernel
theorem dX9_bestCut_5 : decode cX9_bestCut 5 = .ok (.iload_n 1, 1) := by decide +kernel
theorem dX9_bestCut_6 : decode cX9_bestCut 6 = .ok (.invokestatic 174, 3) := by decide +kernel
theorem dX9_bestCut_9 : decode cX9_bestCut 9 = .ok (.ifCond .eq 7, 3) := by decide +kernel
theorem dX9_bestCut_12 : decode cX9_bestCut 12 = .ok (.iconst 0, 1) := by decide +kernel
theorem dX9_bestCut_13 : decode cX9_bestCut 13 = .ok (.goto 4, 3) := by decide +kernel
theorem dX9_bestCut_16 : decode cX9_bestCut 16 = .ok (.iconst 1, 1) := by decide +kernel
theorem dX9_bestCut_17 : decode cX9_bestCut 17 = .ok (.invokevirtual 128, 3) := by decide +kernel
theorem dX9_bestCut_20 : decode cX9_bestCut 20 = .ok (.ifCond .eq 5, 3) := by decide +kernel
theorem dX9_bestCut_23 : decode cX9_bestCut 23 = .ok (.iconst 0, 1) := by decide +kernel
theorem dX9_bestCut_24 : decode cX9_bestCut 24 = .ok (.ireturn, 1) := by decide +kernel
theorem dX9_bestCut_25 : decode cX9_bestCut 25 = .ok (.bipush 22, 2) := by decide +kernel
theorem dX9_bestCut_27 : decode cX9_bestCut 27 = .ok (.aload_n 0, 1) := by decide +kernel
theorem dX9_bestCut_28 : decode cX9_bestCut 28 = .ok (.getfield 13, 3) := by decide +kernel
theorem dX9_bestCut_31 : decode cX9_bestCut 31 = .ok (.iload_n 1, 1) := by decide +kernel
theorem dX9_bestCut_32 : decode cX9_bestCut 32 = .ok (.invokestatic 48, 3) := by decide +kernel
theorem dX9_bestCut_35 : decode cX9_bestCut 35 = .ok (.iadd, 1) := by decide +kernel
theorem dX9_bestCut_36 : decode cX9_bestCut 36 = .ok (.istore_n 2, 1) := by decide +kernel
theorem dX9_bestCut_37 : decode cX9_bestCut 37 = .ok (.aload_n 0, 1) := by decide +kernel
theorem dX9_bestCut_38 : decode cX9_bestCut 38 = .ok (.getfield 13, 3) := by decide +kernel
theorem dX9_bestCut_41 : decode cX9_bestCut 41 = .ok (.iconst 2, 1) := by decide +kernel
theorem dX9_bestCut_42 : decode cX9_bestCut 42 = .ok (.iload_n 1, 1) := by decide +kernel
theorem dX9_bestCut_43 : decode cX9_bestCut 43 = .ok (.iadd, 1) := by decide +kernel
theorem dX9_bestCut_44 : decode cX9_bestCut 44 = .ok (.iaload, 1) := by decide +kernel
theorem dX9_bestCut_45 : decode cX9_bestCut 45 = .ok (.istore_n 3, 1) := by decide +kernel
theorem dX9_bestCut_46 : decode cX9_bestCut 46 = .ok (.sipush (-9999), 3) := by decide +kernel
theorem dX9_bestCut_49 : decode cX9_bestCut 49 = .ok (.istore 4, 2) := by decide +kernel
theorem dX9_bestCut_51 : decode cX9_bestCut 51 = .ok (.ldc 242, 2) := by decide +kernel
theorem dX9_bestCut_53 : decode cX9_bestCut 53 = .ok (.istore 5, 2) := by decide +kernel
theorem dX9_bestCut_55 : decode cX9_bestCut 55 = .ok (.iconst 1, 1) := by decide +kernel
theorem dX9_bestCut_56 : decode cX9_bestCut 56 = .ok (.istore 6, 2) := by decide +kernel
theorem dX9_bestCut_58 : decode cX9_bestCut 58 = .ok (.iload 6, 2) := by decide +kernel
theorem dX9_bestCut_60 : decode cX9_bestCut 60 = .ok (.iload_n 3, 1) := by decide +kernel
theorem dX9_bestCut_61 : decode cX9_bestCut 61 = .ok (.if_icmp .ge 80, 3) := by decide +kernel
theorem dX9_bestCut_64 : decode cX9_bestCut 64 = .ok (.aload_n 0, 1) := by decide +kernel
theorem dX9_bestCut_65 : decode cX9_bestCut 65 = .ok (.getfield 13, 3) := by decide +kernel
theorem dX9_bestCut_68 : decode cX9_bestCut 68 = .ok (.iload_n 2, 1) := by decide +kernel
theorem dX9_bestCut_69 : decode cX9_bestCut 69 = .ok (.iload 6, 2) := by decide +kernel
theorem dX9_bestCut_71 : decode cX9_bestCut 71 = .ok (.aload_n 0, 1) := by decide +kernel
theorem dX9_bestCut_72 : decode cX9_bestCut 72 = .ok (.getfield 13, 3) := by decide +kernel
theorem dX9_bestCut_75 : decode cX9_bestCut 75 = .ok (.bipush 12, 2) := by decide +kernel
theorem dX9_bestCut_77 : decode cX9_bestCut 77 = .ok (.iload_n 1, 1) := by decide +kernel
theorem dX9_bestCut_78 : decode cX9_bestCut 78 = .ok (.iadd, 1) := by decide +kernel
theorem dX9_bestCut_79 : decode cX9_bestCut 79 = .ok (.iaload, 1) := by decide +kernel
theorem dX9_bestCut_80 : decode cX9_bestCut 80 = .ok (.invokestatic 98, 3) := by decide +kernel
theorem dX9_bestCut_83 : decode cX9_bestCut 83 = .ok (.aload_n 0, 1) := by decide +kernel
theorem dX9_bestCut_84 : decode cX9_bestCut 84 = .ok (.getfield 13, 3) := by decide +kernel
theorem dX9_bestCut_87 : decode cX9_bestCut 87 = .ok (.iload_n 2, 1) := by decide +kernel
theorem dX9_bestCut_88 : decode cX9_bestCut 88 = .ok (.iload 6, 2) := by decide +kernel
theorem dX9_bestCut_90 : decode cX9_bestCut 90 = .ok (.iadd, 1) := by decide +kernel
theorem dX9_bestCut_91 : decode cX9_bestCut 91 = .ok (.iload_n 3, 1) := by decide +kernel
theorem dX9_bestCut_92 : decode cX9_bestCut 92 = .ok (.iload 6, 2) := by decide +kernel
theorem dX9_bestCut_94 : decode cX9_bestCut 94 = .ok (.isub, 1) := by decide +kernel
theorem dX9_bestCut_95 : decode cX9_bestCut 95 = .ok (.aload_n 0, 1) := by decide +kernel
theorem dX9_bestCut_96 : decode cX9_bestCut 96 = .ok (.getfield 13, 3) := by decide +kernel
theorem dX9_bestCut_99 : decode cX9_bestCut 99 = .ok (.bipush 12, 2) := by decide +kernel
theorem dX9_bestCut_101 : decode cX9_bestCut 101 = .ok (.iload_n 1, 1) := by decide +kernel
theorem dX9_bestCut_102 : decode cX9_bestCut 102 = .ok (.iadd, 1) := by decide +kernel
theorem dX9_bestCut_103 : decode cX9_bestCut 103 = .ok (.iaload, 1) := by decide +kernel
theorem dX9_bestCut_104 : decode cX9_bestCut 104 = .ok (.invokestatic 98, 3) := by decide +kernel
theorem dX9_bestCut_107 : decode cX9_bestCut 107 = .ok (.iadd, 1) := by decide +kernel
theorem dX9_bestCut_108 : decode cX9_bestCut 108 = .ok (.istore 7, 2) := by decide +kernel
theorem dX9_bestCut_110 : decode cX9_bestCut 110 = .ok (.iload 7, 2) := by decide +kernel
theorem dX9_bestCut_112 : decode cX9_bestCut 112 = .ok (.iload 5, 2) := by decide +kernel
theorem dX9_bestCut_114 : decode cX9_bestCut 114 = .ok (.if_icmp .ge 8, 3) := by decide +kernel
theorem dX9_bestCut_117 : decode cX9_bestCut 117 = .ok (.iload 6, 2) := by decide +kernel
theorem dX9_bestCut_119 : decode cX9_bestCut 119 = .ok (.goto 5, 3) := by decide +kernel
theorem dX9_bestCut_122 : decode cX9_bestCut 122 = .ok (.iload 4, 2) := by decide +kernel
theorem dX9_bestCut_124 : decode cX9_bestCut 124 = .ok (.istore 4, 2) := by decide +kernel
theorem dX9_bestCut_126 : decode cX9_bestCut 126 = .ok (.iload 5, 2) := by decide +kernel
theorem dX9_bestCut_128 : decode cX9_bestCut 128 = .ok (.iload 7, 2) := by decide +kernel
theorem dX9_bestCut_130 : decode cX9_bestCut 130 = .ok (.invokestatic 60, 3) := by decide +kernel
theorem dX9_bestCut_133 : decode cX9_bestCut 133 = .ok (.istore 5, 2) := by decide +kernel
theorem dX9_bestCut_135 : decode cX9_bestCut 135 = .ok (.iinc 6 1, 3) := by decide +kernel
theorem dX9_bestCut_138 : decode cX9_bestCut 138 = .ok (.goto (-80), 3) := by decide +kernel
theorem dX9_bestCut_141 : decode cX9_bestCut 141 = .ok (.iload 4, 2) := by decide +kernel
theorem dX9_bestCut_143 : decode cX9_bestCut 143 = .ok (.ireturn, 1) := by decide +kernel
theorem dX9_smallest_0 : decode cX9_smallest 0 = .ok (.aload_n 0, 1) := by decide +kernel
theorem dX9_smallest_1 : decode cX9_smallest 1 = .ok (.getfield 13, 3) := by decide +kernel
theorem dX9_smallest_4 : decode cX9_smallest 4 = .ok (.invokestatic 56, 3) := by decide +kernel
theorem dX9_smallest_7 : decode cX9_smallest 7 = .ok (.istore_n 1, 1) := by decide +kernel
theorem dX9_smallest_8 : decode cX9_smallest 8 = .ok (.aload_n 0, 1) := by decide +kernel
theorem dX9_smallest_9 : decode cX9_smallest 9 = .ok (.getfield 41, 3) := by decide +kernel
theorem dX9_smallest_12 : decode cX9_smallest 12 = .ok (.iconst 0, 1) := by decide +kernel
theorem dX9_smallest_13 : decode cX9_smallest 13 = .ok (.iconst 0, 1) := by decide +kernel
theorem dX9_smallest_14 : decode cX9_smallest 14 = .ok (.iastore, 1) := by decide +kernel
theorem dX9_smallest_15 : decode cX9_smallest 15 = .ok (.iconst 1, 1) := by decide +kernel
theorem dX9_smallest_16 : decode cX9_smallest 16 = .ok (.istore_n 2, 1) := by decide +kernel
theorem dX9_smallest_17 : decode cX9_smallest 17 = .ok (.iload_n 2, 1) := by decide +kernel
theorem dX9_smallest_18 : decode cX9_smallest 18 = .ok (.iload_n 1, 1) := by decide +kernel
theorem dX9_smallest_19 : decode cX9_smallest 19 = .ok (.if_icmp .gt 75, 3) := by decide +kernel
theorem dX9_smallest_22 : decode cX9_smallest 22 = .ok (.aload_n 0, 1) := by decide +kernel
theorem dX9_smallest_23 : decode cX9_smallest 23 = .ok (.getfield 41, 3) := by decide +kernel
theorem dX9_smallest_26 : decode cX9_smallest 26 = .ok (.iload_n 2, 1) := by decide +kernel
theorem dX9_smallest_27 : decode cX9_smallest 27 = .ok (.ldc 242, 2) := by decide +kernel
theorem dX9_smallest_29 : decode cX9_smallest 29 = .ok (.iastore, 1) := by decide +kernel
theorem dX9_smallest_30 : decode cX9_smallest 30 = .ok (.iconst 1, 1) := by decide +kernel
theorem dX9_smallest_31 : decode cX9_smallest 31 = .ok (.istore_n 3, 1) := by decide +kernel
theorem dX9_smallest_32 : decode cX9_smallest 32 = .ok (.iload_n 3, 1) := by decide +kernel
theorem dX9_smallest_33 : decode cX9_smallest 33 = .ok (.bipush 12, 2) := by decide +kernel
theorem dX9_smallest_35 : decode cX9_smallest 35 = .ok (.if_icmp .gt 53, 3) := by decide +kernel
theorem dX9_smallest_38 : decode cX9_smallest 38 = .ok (.iload_n 3, 1) := by decide +kernel
theorem dX9_smallest_39 : decode cX9_smallest 39 = .ok (.iload_n 2, 1) := by decide +kernel
theorem dX9_smallest_40 : decode cX9_smallest 40 = .ok (.if_icmp .gt 48, 3) := by decide +kernel
theorem dX9_smallest_43 : decode cX9_smallest 43 = .ok (.aload_n 0, 1) := by decide +kernel
theorem dX9_smallest_44 : decode cX9_smallest 44 = .ok (.getfield 41, 3) := by decide +kernel
theorem dX9_smallest_47 : decode cX9_smallest 47 = .ok (.iload_n 2, 1) := by decide +kernel
theorem dX9_smallest_48 : decode cX9_smallest 48 = .ok (.aload_n 0, 1) := by decide +kernel
theorem dX9_smallest_49 : decode cX9_smallest 49 = .ok (.getfield 41, 3) := by decide +kernel
theorem dX9_smallest_52 : decode cX9_smallest 52 = .ok (.iload_n 2, 1) := by decide +kernel
theorem dX9_smallest_53 : decode cX9_smallest 53 = .ok (.iaload, 1) := by decide +kernel
theorem dX9_smallest_54 : decode cX9_smallest 54 = .ok (.aload_n 0, 1) := by decide +kernel
theorem dX9_smallest_55 : decode cX9_smallest 55 = .ok (.getfield 41, 3) := by decide +kernel
theorem dX9_smallest_58 : decode cX9_smallest 58 = .ok (.iload_n 2, 1) := by decide +kernel
theorem dX9_smallest_59 : decode cX9_smallest 59 = .ok (.iload_n 3, 1) := by decide +kernel
theorem dX9_smallest_60 : decode cX9_smallest 60 = .ok (.isub, 1) := by decide +kernel
theorem dX9_smallest_61 : decode cX9_smallest 61 = .ok (.iaload, 1) := by decide +kernel
theorem dX9_smallest_62 : decode cX9_smallest 62 = .ok (.aload_n 0, 1) := by decide +kernel
theorem dX9_smallest_63 : decode cX9_smallest 63 = .ok (.getfield 13, 3) := by decide +kernel
theorem dX9_smallest_66 : decode cX9_smallest 66 = .ok (.bipush 22, 2) := by decide +kernel
theorem dX9_smallest_68 : decode cX9_smallest 68 = .ok (.iload_n 2, 1) := by decide +kernel
theorem dX9_smallest_69 : decode cX9_smallest 69 = .ok (.iadd, 1) := by decide +kernel
theorem dX9_smallest_70 : decode cX9_smallest 70 = .ok (.iload_n 3, 1) := by decide +kernel
theorem dX9_smallest_71 : decode cX9_smallest 71 = .ok (.isub, 1) := by decide +kernel
theorem dX9_smallest_72 : decode cX9_smallest 72 = .ok (.iload_n 3, 1) := by decide +kernel
theorem dX9_smallest_73 : decode cX9_smallest 73 = .ok (.iconst 0, 1) := by decide +kernel
theorem dX9_smallest_74 : decode cX9_smallest 74 = .ok (.invokestatic 98, 3) := by decide +kernel
theorem dX9_smallest_77 : decode cX9_smallest 77 = .ok (.iadd, 1) := by decide +kernel
theorem dX9_smallest_78 : decode cX9_smallest 78 = .ok (.invokestatic 60, 3) := by decide +kernel
theorem dX9_smallest_81 : decode cX9_smallest 81 = .ok (.iastore, 1) := by decide +kernel
theorem dX9_smallest_82 : decode cX9_smallest 82 = .ok (.iinc 3 1, 3) := by decide +kernel
theorem dX9_smallest_85 : decode cX9_smallest 85 = .ok (.goto (-53), 3) := by decide +kernel
theorem dX9_smallest_88 : decode cX9_smallest 88 = .ok (.iinc 2 1, 3) := by decide +kernel
theorem dX9_smallest_91 : decode cX9_smallest 91 = .ok (.goto (-74), 3) := by decide +kernel
theorem dX9_smallest_94 : decode cX9_smallest 94 = .ok (.aload_n 0, 1) := by decide +kernel
theorem dX9_smallest_95 : decode cX9_smallest 95 = .ok (.getfield 41, 3) := by decide +kernel
theorem dX9_smallest_98 : decode cX9_smallest 98 = .ok (.iload_n 1, 1) := by decide +kernel
theorem dX9_smallest_99 : decode cX9_smallest 99 = .ok (.iaload, 1) := by decide +kernel
theorem dX9_smallest_100 : decode cX9_smallest 100 = .ok (.ireturn, 1) := by decide +kernel
theorem dX9_bestNext_0 : decode cX9_bestNext 0 = .ok (.aload_n 0, 1) := by decide +kernel
theorem dX9_bestNext_1 : decode cX9_bestNext 1 = .ok (.aload_n 0, 1) := by decide +kernel
theorem dX9_bestNext_2 : decode cX9_bestNext 2 = .ok (.getfield 13, 3) := by decide +kernel
theorem dX9_bestNext_5 : decode cX9_bestNext 5 = .ok (.iload_n 1, 1) := by decide +kernel
theorem dX9_bestNext_6 : decode cX9_bestNext 6 = .ok (.invokestatic 174, 3) := by decide +kernel
theorem dX9_bestNext_9 : decode cX9_bestNext 9 = .ok (.ifCond .eq 7, 3) := by decide +kernel
theorem dX9_bestNext_12 : decode cX9_bestNext 12 = .ok (.iconst 0, 1) := by decide +kernel
theorem dX9_bestNext_13 : decode cX9_bestNext 13 = .ok (.goto 4, 3) := by decide +kernel
theorem dX9_bestNext_16 : decode cX9_bestNext 16 = .ok (.iconst 1, 1) := by decide +kernel
theorem dX9_bestNext_17 : decode cX9_bestNext 17 = .ok (.invokevirtual 128, 3) := by decide +kernel
theorem dX9_bestNext_20 : decode cX9_bestNext 20 = .ok (.ifCond .eq 5, 3) := by decide +kernel
theorem dX9_bestNext_23 : decode cX9_bestNext 23 = .ok (.iconst 0, 1) := by decide +kernel
theorem dX9_bestNext_24 : decode cX9_bestNext 24 = .ok (.ireturn, 1) := by decide +kernel
theorem dX9_bestNext_25 : decode cX9_bestNext 25 = .ok (.bipush 22, 2) := by decide +kernel
theorem dX9_bestNext_27 : decode cX9_bestNext 27 = .ok (.aload_n 0, 1) := by decide +kernel
theorem dX9_bestNext_28 : decode cX9_bestNext 28 = .ok (.getfield 13, 3) := by decide +kernel
theorem dX9_bestNext_31 : decode cX9_bestNext 31 = .ok (.iload_n 1, 1) := by decide +kernel
theorem dX9_bestNext_32 : decode cX9_bestNext 32 = .ok (.invokestatic 48, 3) := by decide +kernel
theorem dX9_bestNext_35 : decode cX9_bestNext 35 = .ok (.iadd, 1) := by decide +kernel
theorem dX9_bestNext_36 : decode cX9_bestNext 36 = .ok (.istore_n 2, 1) := by decide +kernel
theorem dX9_bestNext_37 : decode cX9_bestNext 37 = .ok (.aload_n 0, 1) := by decide +kernel
theorem dX9_bestNext_38 : decode cX9_bestNext 38 = .ok (.getfield 13, 3) := by decide +kernel
theorem dX9_bestNext_41 : decode cX9_bestNext 41 = .ok (.iconst 2, 1) := by decide +kernel
theorem dX9_bestNext_42 : decode cX9_bestNext 42 = .ok (.iload_n 1, 1) := by decide +kernel
theorem dX9_bestNext_43 : decode cX9_bestNext 43 = .ok (.iadd, 1) := by decide +kernel
theorem dX9_bestNext_44 : decode cX9_bestNext 44 = .ok (.iaload, 1) := by decide +kernel
theorem dX9_bestNext_45 : decode cX9_bestNext 45 = .ok (.istore_n 3, 1) := by decide +kernel
theorem dX9_bestNext_46 : decode cX9_bestNext 46 = .ok (.iload_n 3, 1) := by decide +kernel
theorem dX9_bestNext_47 : decode cX9_bestNext 47 = .ok (.bipush 12, 2) := by decide +kernel
theorem dX9_bestNext_49 : decode cX9_bestNext 49 = .ok (.if_icmp .ne 7, 3) := by decide +kernel
theorem dX9_bestNext_52 : decode cX9_bestNext 52 = .ok (.sipush (-9999), 3) := by decide +kernel
theorem dX9_bestNext_55 : decode cX9_bestNext 55 = .ok (.ireturn, 1) := by decide +kernel
theorem dX9_bestNext_56 : decode cX9_bestNext 56 = .ok (.iconst 0, 1) := by decide +kernel
theorem dX9_bestNext_57 : decode cX9_bestNext 57 = .ok (.istore 4, 2) := by decide +kernel
theorem dX9_bestNext_59 : decode cX9_bestNext 59 = .ok (.iload 4, 2) := by decide +kernel
theorem dX9_bestNext_61 : decode cX9_bestNext 61 = .ok (.iload_n 3, 1) := by decide +kernel
theorem dX9_bestNext_62 : decode cX9_bestNext 62 = .ok (.if_icmp .ge 25, 3) := by decide +kernel
theorem dX9_bestNext_65 : decode cX9_bestNext 65 = .ok (.aload_n 0, 1) := by decide +kernel
theorem dX9_bestNext_66 : decode cX9_bestNext 66 = .ok (.getfield 19, 3) := by decide +kernel
theorem dX9_bestNext_69 : decode cX9_bestNext 69 = .ok (.iload 4, 2) := by decide +kernel
theorem dX9_bestNext_71 : decode cX9_bestNext 71 = .ok (.aload_n 0, 1) := by decide +kernel
theorem dX9_bestNext_72 : decode cX9_bestNext 72 = .ok (.getfield 13, 3) := by decide +kernel
theorem dX9_bestNext_75 : decode cX9_bestNext 75 = .ok (.iload_n 2, 1) := by decide +kernel
theorem dX9_bestNext_76 : decode cX9_bestNext 76 = .ok (.iload 4, 2) := by decide +kernel
theorem dX9_bestNext_78 : decode cX9_bestNext 78 = .ok (.iadd, 1) := by decide +kernel
theorem dX9_bestNext_79 : decode cX9_bestNext 79 = .ok (.iaload, 1) := by decide +kernel
theorem dX9_bestNext_80 : decode cX9_bestNext 80 = .ok (.iastore, 1) := by decide +kernel
theorem dX9_bestNext_81 : decode cX9_bestNext 81 = .ok (.iinc 4 1, 3) := by decide +kernel
theorem dX9_bestNext_84 : decode cX9_bestNext 84 = .ok (.goto (-25), 3) := by decide +kernel
theorem dX9_bestNext_87 : decode cX9_bestNext 87 = .ok (.sipush (-9999), 3) := by decide +kernel
theorem dX9_bestNext_90 : decode cX9_bestNext 90 = .ok (.istore 4, 2) := by decide +kernel
theorem dX9_bestNext_92 : decode cX9_bestNext 92 = .ok (.ldc 242, 2) := by decide +kernel
theorem dX9_bestNext_94 : decode cX9_bestNext 94 = .ok (.istore 5, 2) := by decide +kernel
theorem dX9_bestNext_96 : decode cX9_bestNext 96 = .ok (.iconst 0, 1) := by decide +kernel
theorem dX9_bestNext_97 : decode cX9_bestNext 97 = .ok (.istore 6, 2) := by decide +kernel
theorem dX9_bestNext_99 : decode cX9_bestNext 99 = .ok (.iload 6, 2) := by decide +kernel
theorem dX9_bestNext_101 : decode cX9_bestNext 101 = .ok (.sipush 1023, 3) := by decide +kernel
theorem dX9_bestNext_104 : decode cX9_bestNext 104 = .ok (.if_icmp .gt 64, 3) := by decide +kernel
theorem dX9_bestNext_107 : decode cX9_bestNext 107 = .ok (.aload_n 0, 1) := by decide +kernel
theorem dX9_bestNext_108 : decode cX9_bestNext 108 = .ok (.getfield 19, 3) := by decide +kernel
theorem dX9_bestNext_111 : decode cX9_bestNext 111 = .ok (.iload_n 3, 1) := by decide +kernel
theorem dX9_bestNext_112 : decode cX9_bestNext 112 = .ok (.iload 6, 2) := by decide +kernel
theorem dX9_bestNext_114 : decode cX9_bestNext 114 = .ok (.iastore, 1) := by decide +kernel
theorem dX9_bestNext_115 : decode cX9_bestNext 115 = .ok (.aload_n 0, 1) := by decide +kernel
theorem dX9_bestNext_116 : decode cX9_bestNext 116 = .ok (.getfield 19, 3) := by decide +kernel
theorem dX9_bestNext_119 : decode cX9_bestNext 119 = .ok (.iconst 0, 1) := by decide +kernel
theorem dX9_bestNext_120 : decode cX9_bestNext 120 = .ok (.iload_n 3, 1) := by decide +kernel
theorem dX9_bestNext_121 : decode cX9_bestNext 121 = .ok (.iconst 1, 1) := by decide +kernel
theorem dX9_bestNext_122 : decode cX9_bestNext 122 = .ok (.iadd, 1) := by decide +kernel
theorem dX9_bestNext_123 : decode cX9_bestNext 123 = .ok (.aload_n 0, 1) := by decide +kernel
theorem dX9_bestNext_124 : decode cX9_bestNext 124 = .ok (.getfield 13, 3) := by decide +kernel
theorem dX9_bestNext_127 : decode cX9_bestNext 127 = .ok (.bipush 12, 2) := by decide +kernel
theorem dX9_bestNext_129 : decode cX9_bestNext 129 = .ok (.iload_n 1, 1) := by decide +kernel
theorem dX9_bestNext_130 : decode cX9_bestNext 130 = .ok (.iadd, 1) := by decide +kernel
theorem dX9_bestNext_131 : decode cX9_bestNext 131 = .ok (.iaload, 1) := by decide +kernel
theorem dX9_bestNext_132 : decode cX9_bestNext 132 = .ok (.invokestatic 98, 3) := by decide +kernel
theorem dX9_bestNext_135 : decode cX9_bestNext 135 = .ok (.istore 7, 2) := by decide +kernel
theorem dX9_bestNext_137 : decode cX9_bestNext 137 = .ok (.iload 7, 2) := by decide +kernel
theorem dX9_bestNext_139 : decode cX9_bestNext 139 = .ok (.iload 5, 2) := by decide +kernel
theorem dX9_bestNext_141 : decode cX9_bestNext 141 = .ok (.if_icmp .ge 8, 3) := by decide +kernel
theorem dX9_bestNext_144 : decode cX9_bestNext 144 = .ok (.iload 6, 2) := by decide +kernel
theorem dX9_bestNext_146 : decode cX9_bestNext 146 = .ok (.goto 5, 3) := by decide +kernel
theorem dX9_bestNext_149 : decode cX9_bestNext 149 = .ok (.iload 4, 2) := by decide +kernel
theorem dX9_bestNext_151 : decode cX9_bestNext 151 = .ok (.istore 4, 2) := by decide +kernel
theorem dX9_bestNext_153 : decode cX9_bestNext 153 = .ok (.iload 5, 2) := by decide +kernel
theorem dX9_bestNext_155 : decode cX9_bestNext 155 = .ok (.iload 7, 2) := by decide +kernel
theorem dX9_bestNext_157 : decode cX9_bestNext 157 = .ok (.invokestatic 60, 3) := by decide +kernel
theorem dX9_bestNext_160 : decode cX9_bestNext 160 = .ok (.istore 5, 2) := by decide +kernel
theorem dX9_bestNext_162 : decode cX9_bestNext 162 = .ok (.iinc 6 1, 3) := by decide +kernel
theorem dX9_bestNext_165 : decode cX9_bestNext 165 = .ok (.goto (-66), 3) := by decide +kernel
theorem dX9_bestNext_168 : decode cX9_bestNext 168 = .ok (.iload 4, 2) := by decide +kernel
theorem dX9_bestNext_170 : decode cX9_bestNext 170 = .ok (.ireturn, 1) := by decide +kernel
theorem dX9_command_0 : decode cX9_command 0 = .ok (.bipush 10, 2) := by decide +kernel
theorem dX9_command_2 : decode cX9_command 2 = .ok (.iload_n 2, 1) := by decide +kernel
theorem dX9_command_3 : decode cX9_command 3 = .ok (.imul, 1) := by decide +kernel
theorem dX9_command_4 : decode cX9_command 4 = .ok (.iload_n 3, 1) := by decide +kernel
theorem dX9_command_5 : decode cX9_command 5 = .ok (.sipush 1000, 3) := by decide +kernel
theorem dX9_command_8 : decode cX9_command 8 = .ok (.idiv, 1) := by decide +kernel
theorem dX9_command_9 : decode cX9_command 9 = .ok (.iadd, 1) := by decide +kernel
theorem dX9_command_10 : decode cX9_command 10 = .ok (.istore 4, 2) := by decide +kernel
theorem dX9_command_12 : decode cX9_command 12 = .ok (.iload_n 3, 1) := by decide +kernel
theorem dX9_command_13 : decode cX9_command 13 = .ok (.sipush 1000, 3) := by decide +kernel
theorem dX9_command_16 : decode cX9_command 16 = .ok (.irem, 1) := by decide +kernel
theorem dX9_command_17 : decode cX9_command 17 = .ok (.istore 5, 2) := by decide +kernel
theorem dX9_command_19 : decode cX9_command 19 = .ok (.iload_n 1, 1) := by decide +kernel
theorem dX9_command_20 : decode cX9_command 20 = .ok (.tableswitch 354 1 9 #[52, 90, 118, 153, 191, 218, 240, 261, 299], 52) := by decide +kernel
theorem dX9_command_72 : decode cX9_command 72 = .ok (.iload_n 2, 1) := by decide +kernel
theorem dX9_command_73 : decode cX9_command 73 = .ok (.ifCond .ne 35, 3) := by decide +kernel
theorem dX9_command_76 : decode cX9_command 76 = .ok (.iload_n 3, 1) := by decide +kernel
theorem dX9_command_77 : decode cX9_command 77 = .ok (.sipush 1023, 3) := by decide +kernel
theorem dX9_command_80 : decode cX9_command 80 = .ok (.if_icmp .gt 28, 3) := by decide +kernel
theorem dX9_command_83 : decode cX9_command 83 = .ok (.aload_n 0, 1) := by decide +kernel
theorem dX9_command_84 : decode cX9_command 84 = .ok (.getfield 16, 3) := by decide +kernel
theorem dX9_command_87 : decode cX9_command 87 = .ok (.invokestatic 199, 3) := by decide +kernel
theorem dX9_command_90 : decode cX9_command 90 = .ok (.ifCond .eq 18, 3) := by decide +kernel
theorem dX9_command_93 : decode cX9_command 93 = .ok (.aload_n 0, 1) := by decide +kernel
theorem dX9_command_94 : decode cX9_command 94 = .ok (.getfield 16, 3) := by decide +kernel
theorem dX9_command_97 : decode cX9_command 97 = .ok (.iload_n 3, 1) := by decide +kernel
theorem dX9_command_98 : decode cX9_command 98 = .ok (.invokestatic 205, 3) := by decide +kernel
theorem dX9_command_101 : decode cX9_command 101 = .ok (.ifCond .lt 7, 3) := by decide +kernel
theorem dX9_command_104 : decode cX9_command 104 = .ok (.iconst 1, 1) := by decide +kernel
theorem dX9_command_105 : decode cX9_command 105 = .ok (.goto 4, 3) := by decide +kernel
theorem dX9_command_108 : decode cX9_command 108 = .ok (.iconst 0, 1) := by decide +kernel
theorem dX9_command_109 : decode cX9_command 109 = .ok (.ireturn, 1) := by decide +kernel
theorem dX9_command_110 : decode cX9_command 110 = .ok (.aload_n 0, 1) := by decide +kernel
theorem dX9_command_111 : decode cX9_command 111 = .ok (.getfield 16, 3) := by decide +kernel
theorem dX9_command_114 : decode cX9_command 114 = .ok (.iload 4, 2) := by decide +kernel
theorem dX9_command_116 : decode cX9_command 116 = .ok (.invokestatic 170, 3) := by decide +kernel
theorem dX9_command_119 : decode cX9_command 119 = .ok (.ifCond .ne 5, 3) := by decide +kernel
theorem dX9_command_122 : decode cX9_command 122 = .ok (.iconst 0, 1) := by decide +kernel
theorem dX9_command_123 : decode cX9_command 123 = .ok (.ireturn, 1) := by decide +kernel
theorem dX9_command_124 : decode cX9_command 124 = .ok (.aload_n 0, 1) := by decide +kernel
theorem dX9_command_125 : decode cX9_command 125 = .ok (.getfield 16, 3) := by decide +kernel
theorem dX9_command_128 : decode cX9_command 128 = .ok (.bipush 22, 2) := by decide +kernel
theorem dX9_command_130 : decode cX9_command 130 = .ok (.iload 4, 2) := by decide +kernel
theorem dX9_command_132 : decode cX9_command 132 = .ok (.iadd, 1) := by decide +kernel
theorem dX9_command_133 : decode cX9_command 133 = .ok (.iload 5, 2) := by decide +kernel
theorem dX9_command_135 : decode cX9_command 135 = .ok (.iastore, 1) := by decide +kernel
theorem dX9_command_136 : decode cX9_command 136 = .ok (.iconst 1, 1) := by decide +kernel
theorem dX9_command_137 : decode cX9_command 137 = .ok (.ireturn, 1) := by decide +kernel
theorem dX9_command_138 : decode cX9_command 138 = .ok (.iload 5, 2) := by decide +kernel
theorem dX9_command_140 : decode cX9_command 140 = .ok (.ifCond .ne 31, 3) := by decide +kernel
theorem dX9_command_143 : decode cX9_command 143 = .ok (.aload_n 0, 1) := by decide +kernel
theorem dX9_command_144 : decode cX9_command 144 = .ok (.getfield 16, 3) := by decide +kernel
theorem dX9_command_147 : decode cX9_command 147 = .ok (.iload 4, 2) := by decide +kernel
theorem dX9_command_149 : decode cX9_command 149 = .ok (.invokestatic 170, 3) := by decide +kernel
theorem dX9_command_152 : decode cX9_command 152 = .ok (.ifCond .eq 19, 3) := by decide +kernel
theorem dX9_command_155 : decode cX9_command 155 = .ok (.aload_n 0, 1) := by decide +kernel
theorem dX9_command_156 : decode cX9_command 156 = .ok (.getfield 16, 3) := by decide +kernel
theorem dX9_command_159 : decode cX9_command 159 = .ok (.iload 4, 2) := by decide +kernel
theorem dX9_command_161 : decode cX9_command 161 = .ok (.invokestatic 215, 3) := by decide +kernel
theorem dX9_command_164 : decode cX9_command 164 = .ok (.ifCond .lt 7, 3) := by decide +kernel
theorem dX9_command_167 : decode cX9_command 167 = .ok (.iconst 1, 1) := by decide +kernel
theorem dX9_command_168 : decode cX9_command 168 = .ok (.goto 4, 3) := by decide +kernel
theorem dX9_command_171 : decode cX9_command 171 = .ok (.iconst 0, 1) := by decide +kernel
theorem dX9_command_172 : decode cX9_command 172 = .ok (.ireturn, 1) := by decide +kernel
theorem dX9_command_173 : decode cX9_command 173 = .ok (.iload_n 3, 1) := by decide +kernel
theorem dX9_command_174 : decode cX9_command 174 = .ok (.bipush 100, 2) := by decide +kernel
theorem dX9_command_176 : decode cX9_command 176 = .ok (.irem, 1) := by decide +kernel
theorem dX9_command_177 : decode cX9_command 177 = .ok (.ifCond .gt 18, 3) := by decide +kernel
theorem dX9_command_180 : decode cX9_command 180 = .ok (.aload_n 0, 1) := by decide +kernel
theorem dX9_command_181 : decode cX9_command 181 = .ok (.getfield 16, 3) := by decide +kernel
theorem dX9_command_184 : decode cX9_command 184 = .ok (.iload_n 2, 1) := by decide +kernel
theorem dX9_command_185 : decode cX9_command 185 = .ok (.iload_n 3, 1) := by decide +kernel
theorem dX9_command_186 : decode cX9_command 186 = .ok (.bipush 100, 2) := by decide +kernel
theorem dX9_command_188 : decode cX9_command 188 = .ok (.idiv, 1) := by decide +kernel
theorem dX9_command_189 : decode cX9_command 189 = .ok (.invokestatic 218, 3) := by decide +kernel
theorem dX9_command_192 : decode cX9_command 192 = .ok (.ifCond .eq 5, 3) := by decide +kernel
theorem dX9_command_195 : decode cX9_command 195 = .ok (.iconst 0, 1) := by decide +kernel
theorem dX9_command_196 : decode cX9_command 196 = .ok (.ireturn, 1) := by decide +kernel
theorem dX9_command_197 : decode cX9_command 197 = .ok (.aload_n 0, 1) := by decide +kernel
theorem dX9_command_198 : decode cX9_command 198 = .ok (.getfield 16, 3) := by decide +kernel
theorem dX9_command_201 : decode cX9_command 201 = .ok (.iload_n 2, 1) := by decide +kernel
theorem dX9_command_202 : decode cX9_command 202 = .ok (.iload_n 3, 1) := by decide +kernel
theorem dX9_command_203 : decode cX9_command 203 = .ok (.bipush 100, 2) := by decide +kernel
theorem dX9_command_205 : decode cX9_command 205 = .ok (.idiv, 1) := by decide +kernel
theorem dX9_command_206 : decode cX9_command 206 = .ok (.invokestatic 221, 3) := by decide +kernel
theorem dX9_command_209 : decode cX9_command 209 = .ok (.iconst 1, 1) := by decide +kernel
theorem dX9_command_210 : decode cX9_command 210 = .ok (.ireturn, 1) := by decide +kernel
theorem dX9_command_211 : decode cX9_command 211 = .ok (.iload_n 3, 1) := by decide +kernel
theorem dX9_command_212 : decode cX9_command 212 = .ok (.ifCond .gt 14, 3) := by decide +kernel
theorem dX9_command_215 : decode cX9_command 215 = .ok (.aload_n 0, 1) := by decide +kernel
theorem dX9_command_216 : decode cX9_command 216 = .ok (.getfield 16, 3) := by decide +kernel
theorem dX9_command_219 : decode cX9_command 219 = .ok (.iload_n 2, 1) := by decide +kernel
theorem dX9_command_220 : decode cX9_command 220 = .ok (.invokestatic 228, 3) := by decide +kernel
theorem dX9_command_223 : decode cX9_command 223 = .ok (.ifCond .eq 5, 3) := by decide +kernel
theorem dX9_command_226 : decode cX9_command 226 = .ok (.iconst 0, 1) := by decide +kernel
theorem dX9_command_227 : decode cX9_command 227 = .ok (.ireturn, 1) := by decide +kernel
theorem dX9_command_228 : decode cX9_command 228 = .ok (.aload_n 0, 1) := by decide +kernel
theorem dX9_command_229 : decode cX9_command 229 = .ok (.getfield 16, 3) := by decide +kernel
theorem dX9_command_232 : decode cX9_command 232 = .ok (.iload_n 2, 1) := by decide +kernel
theorem dX9_command_233 : decode cX9_command 233 = .ok (.invokestatic 231, 3) := by decide +kernel
theorem dX9_command_236 : decode cX9_command 236 = .ok (.iconst 1, 1) := by decide +kernel
theorem dX9_command_237 : decode cX9_command 237 = .ok (.ireturn, 1) := by decide +kernel
theorem dX9_command_238 : decode cX9_command 238 = .ok (.iload_n 2, 1) := by decide +kernel
theorem dX9_command_239 : decode cX9_command 239 = .ok (.iload_n 3, 1) := by decide +kernel
theorem dX9_command_240 : decode cX9_command 240 = .ok (.iadd, 1) := by decide +kernel
theorem dX9_command_241 : decode cX9_command 241 = .ok (.ifCond .ne 17, 3) := by decide +kernel
theorem dX9_command_244 : decode cX9_command 244 = .ok (.aload_n 0, 1) := by decide +kernel
theorem dX9_command_245 : decode cX9_command 245 = .ok (.getfield 16, 3) := by decide +kernel
theorem dX9_command_248 : decode cX9_command 248 = .ok (.invokestatic 237, 3) := by decide +kernel
theorem dX9_command_251 : decode cX9_command 251 = .ok (.ifCond .lt 7, 3) := by decide +kernel
theorem dX9_command_254 : decode cX9_command 254 = .ok (.iconst 1, 1) := by decide +kernel
theorem dX9_command_255 : decode cX9_command 255 = .ok (.goto 4, 3) := by decide +kernel
theorem dX9_command_258 : decode cX9_command 258 = .ok (.iconst 0, 1) := by decide +kernel
theorem dX9_command_259 : decode cX9_command 259 = .ok (.ireturn, 1) := by decide +kernel
theorem dX9_command_260 : decode cX9_command 260 = .ok (.iload_n 2, 1) := by decide +kernel
theorem dX9_command_261 : decode cX9_command 261 = .ok (.ifCond .ne 18, 3) := by decide +kernel
theorem dX9_command_264 : decode cX9_command 264 = .ok (.aload_n 0, 1) := by decide +kernel
theorem dX9_command_265 : decode cX9_command 265 = .ok (.getfield 16, 3) := by decide +kernel
theorem dX9_command_268 : decode cX9_command 268 = .ok (.invokestatic 167, 3) := by decide +kernel
theorem dX9_command_271 : decode cX9_command 271 = .ok (.iload_n 3, 1) := by decide +kernel
theorem dX9_command_272 : decode cX9_command 272 = .ok (.if_icmp .gt 7, 3) := by decide +kernel
theorem dX9_command_275 : decode cX9_command 275 = .ok (.iconst 1, 1) := by decide +kernel
theorem dX9_command_276 : decode cX9_command 276 = .ok (.goto 4, 3) := by decide +kernel
theorem dX9_command_279 : decode cX9_command 279 = .ok (.iconst 0, 1) := by decide +kernel
theorem dX9_command_280 : decode cX9_command 280 = .ok (.ireturn, 1) := by decide +kernel
theorem dX9_command_281 : decode cX9_command 281 = .ok (.iload 5, 2) := by decide +kernel
theorem dX9_command_283 : decode cX9_command 283 = .ok (.ifCond .ne 34, 3) := by decide +kernel
theorem dX9_command_286 : decode cX9_command 286 = .ok (.aload_n 0, 1) := by decide +kernel
theorem dX9_command_287 : decode cX9_command 287 = .ok (.getfield 16, 3) := by decide +kernel
theorem dX9_command_290 : decode cX9_command 290 = .ok (.iload_n 2, 1) := by decide +kernel
theorem dX9_command_291 : decode cX9_command 291 = .ok (.invokestatic 174, 3) := by decide +kernel
theorem dX9_command_294 : decode cX9_command 294 = .ok (.ifCond .eq 23, 3) := by decide +kernel
theorem dX9_command_297 : decode cX9_command 297 = .ok (.aload_n 0, 1) := by decide +kernel
theorem dX9_command_298 : decode cX9_command 298 = .ok (.getfield 16, 3) := by decide +kernel
theorem dX9_command_301 : decode cX9_command 301 = .ok (.iload_n 2, 1) := by decide +kernel
theorem dX9_command_302 : decode cX9_command 302 = .ok (.invokestatic 114, 3) := by decide +kernel
theorem dX9_command_305 : decode cX9_command 305 = .ok (.iload_n 3, 1) := by decide +kernel
theorem dX9_command_306 : decode cX9_command 306 = .ok (.sipush 1000, 3) := by decide +kernel
theorem dX9_command_309 : decode cX9_command 309 = .ok (.idiv, 1) := by decide +kernel
theorem dX9_command_310 : decode cX9_command 310 = .ok (.if_icmp .ne 7, 3) := by decide +kernel
theorem dX9_command_313 : decode cX9_command 313 = .ok (.iconst 1, 1) := by decide +kernel
theorem dX9_command_314 : decode cX9_command 314 = .ok (.goto 4, 3) := by decide +kernel
theorem dX9_command_317 : decode cX9_command 317 = .ok (.iconst 0, 1) := by decide +kernel
theorem dX9_command_318 : decode cX9_command 318 = .ok (.ireturn, 1) := by decide +kernel
theorem dX9_command_319 : decode cX9_command 319 = .ok (.aload_n 0, 1) := by decide +kernel
theorem dX9_command_320 : decode cX9_command 320 = .ok (.getfield 16, 3) := by decide +kernel
theorem dX9_command_323 : decode cX9_command 323 = .ok (.invokestatic 56, 3) := by decide +kernel
theorem dX9_command_326 : decode cX9_command 326 = .ok (.istore 6, 2) := by decide +kernel
theorem dX9_command_328 : decode cX9_command 328 = .ok (.iload_n 2, 1) := by decide +kernel
theorem dX9_command_329 : decode cX9_command 329 = .ok (.ifCond .ne 43, 3) := by decide +kernel
theorem dX9_command_332 : decode cX9_command 332 = .ok (.iload_n 3, 1) := by decide +kernel
theorem dX9_command_333 : decode cX9_command 333 = .ok (.bipush 10, 2) := by decide +kernel
theorem dX9_command_335 : decode cX9_command 335 = .ok (.irem, 1) := by decide +kernel
theorem dX9_command_336 : decode cX9_command 336 = .ok (.ifCond .ne 36, 3) := by decide +kernel
theorem dX9_command_339 : decode cX9_command 339 = .ok (.aload_n 0, 1) := by decide +kernel
theorem dX9_command_340 : decode cX9_command 340 = .ok (.getfield 16, 3) := by decide +kernel
theorem dX9_command_343 : decode cX9_command 343 = .ok (.bipush 22, 2) := by decide +kernel
theorem dX9_command_345 : decode cX9_command 345 = .ok (.iload 6, 2) := by decide +kernel
theorem dX9_command_347 : decode cX9_command 347 = .ok (.iload_n 3, 1) := by decide +kernel
theorem dX9_command_348 : decode cX9_command 348 = .ok (.bipush 10, 2) := by decide +kernel
theorem dX9_command_350 : decode cX9_command 350 = .ok (.idiv, 1) := by decide +kernel
theorem dX9_command_351 : decode cX9_command 351 = .ok (.invokestatic 111, 3) := by decide +kernel
theorem dX9_command_354 : decode cX9_command 354 = .ok (.aload_n 0, 1) := by decide +kernel
theorem dX9_command_355 : decode cX9_command 355 = .ok (.getfield 16, 3) := by decide +kernel
theorem dX9_command_358 : decode cX9_command 358 = .ok (.bipush 22, 2) := by decide +kernel
theorem dX9_command_360 : decode cX9_command 360 = .ok (.iload 6, 2) := by decide +kernel
theorem dX9_command_362 : decode cX9_command 362 = .ok (.invokestatic 71, 3) := by decide +kernel
theorem dX9_command_365 : decode cX9_command 365 = .ok (.if_icmp .ge 7, 3) := by decide +kernel
theorem dX9_command_368 : decode cX9_command 368 = .ok (.iconst 1, 1) := by decide +kernel
theorem dX9_command_369 : decode cX9_command 369 = .ok (.goto 4, 3) := by decide +kernel
theorem dX9_command_372 : decode cX9_command 372 = .ok (.iconst 0, 1) := by decide +kernel
theorem dX9_command_373 : decode cX9_command 373 = .ok (.ireturn, 1) := by decide +kernel
theorem dX9_command_374 : decode cX9_command 374 = .ok (.iconst 0, 1) := by decide +kernel
theorem dX9_command_375 : decode cX9_command 375 = .ok (.ireturn, 1) := by decide +kernel
theorem dX9_runScript_0 : decode cX9_runScript 0 = .ok (.lconst 1, 1) := by decide +kernel
theorem dX9_runScript_1 : decode cX9_runScript 1 = .ok (.lstore 4, 2) := by decide +kernel
theorem dX9_runScript_3 : decode cX9_runScript 3 = .ok (.iconst 0, 1) := by decide +kernel
theorem dX9_runScript_4 : decode cX9_runScript 4 = .ok (.istore 6, 2) := by decide +kernel
theorem dX9_runScript_6 : decode cX9_runScript 6 = .ok (.iload 6, 2) := by decide +kernel
theorem dX9_runScript_8 : decode cX9_runScript 8 = .ok (.iload_n 1, 1) := by decide +kernel
theorem dX9_runScript_9 : decode cX9_runScript 9 = .ok (.if_icmp .ge 23, 3) := by decide +kernel
theorem dX9_runScript_12 : decode cX9_runScript 12 = .ok (.iload 6, 2) := by decide +kernel
theorem dX9_runScript_14 : decode cX9_runScript 14 = .ok (.iconst 3, 1) := by decide +kernel
theorem dX9_runScript_15 : decode cX9_runScript 15 = .ok (.if_icmp .ge 17, 3) := by decide +kernel
theorem dX9_runScript_18 : decode cX9_runScript 18 = .ok (.lload 4, 2) := by decide +kernel
theorem dX9_runScript_20 : decode cX9_runScript 20 = .ok (.ldc2_w 243, 3) := by decide +kernel
theorem dX9_runScript_23 : decode cX9_runScript 23 = .ok (.lmul, 1) := by decide +kernel
theorem dX9_runScript_24 : decode cX9_runScript 24 = .ok (.lstore 4, 2) := by decide +kernel
theorem dX9_runScript_26 : decode cX9_runScript 26 = .ok (.iinc 6 1, 3) := by decide +kernel
theorem dX9_runScript_29 : decode cX9_runScript 29 = .ok (.goto (-23), 3) := by decide +kernel
theorem dX9_runScript_32 : decode cX9_runScript 32 = .ok (.aload_n 0, 1) := by decide +kernel
theorem dX9_runScript_33 : decode cX9_runScript 33 = .ok (.iload_n 1, 1) := by decide +kernel
theorem dX9_runScript_34 : decode cX9_runScript 34 = .ok (.i2l, 1) := by decide +kernel
theorem dX9_runScript_35 : decode cX9_runScript 35 = .ok (.lconst 1, 1) := by decide +kernel
theorem dX9_runScript_36 : decode cX9_runScript 36 = .ok (.ldc2_w 245, 3) := by decide +kernel
theorem dX9_runScript_39 : decode cX9_runScript 39 = .ok (.invokestatic 52, 3) := by decide +kernel
theorem dX9_runScript_42 : decode cX9_runScript 42 = .ok (.ifCond .eq 19, 3) := by decide +kernel
theorem dX9_runScript_45 : decode cX9_runScript 45 = .ok (.lload_n 2, 1) := by decide +kernel
theorem dX9_runScript_46 : decode cX9_runScript 46 = .ok (.lconst 0, 1) := by decide +kernel
theorem dX9_runScript_47 : decode cX9_runScript 47 = .ok (.lload 4, 2) := by decide +kernel
theorem dX9_runScript_49 : decode cX9_runScript 49 = .ok (.lconst 1, 1) := by decide +kernel
theorem dX9_runScript_50 : decode cX9_runScript 50 = .ok (.lsub, 1) := by decide +kernel
theorem dX9_runScript_51 : decode cX9_runScript 51 = .ok (.invokestatic 52, 3) := by decide +kernel
theorem dX9_runScript_54 : decode cX9_runScript 54 = .ok (.ifCond .eq 7, 3) := by decide +kernel
theorem dX9_runScript_57 : decode cX9_runScript 57 = .ok (.iconst 0, 1) := by decide +kernel
theorem dX9_runScript_58 : decode cX9_runScript 58 = .ok (.goto 4, 3) := by decide +kernel
theorem dX9_runScript_61 : decode cX9_runScript 61 = .ok (.iconst 1, 1) := by decide +kernel
theorem dX9_runScript_62 : decode cX9_runScript 62 = .ok (.invokevirtual 128, 3) := by decide +kernel
theorem dX9_runScript_65 : decode cX9_runScript 65 = .ok (.ifCond .eq 5, 3) := by decide +kernel
theorem dX9_runScript_68 : decode cX9_runScript 68 = .ok (.iconst 0, 1) := by decide +kernel
theorem dX9_runScript_69 : decode cX9_runScript 69 = .ok (.ireturn, 1) := by decide +kernel
theorem dX9_runScript_70 : decode cX9_runScript 70 = .ok (.aload_n 0, 1) := by decide +kernel
theorem dX9_runScript_71 : decode cX9_runScript 71 = .ok (.getfield 13, 3) := by decide +kernel
theorem dX9_runScript_74 : decode cX9_runScript 74 = .ok (.iconst 0, 1) := by decide +kernel
theorem dX9_runScript_75 : decode cX9_runScript 75 = .ok (.aload_n 0, 1) := by decide +kernel
theorem dX9_runScript_76 : decode cX9_runScript 76 = .ok (.getfield 16, 3) := by decide +kernel
theorem dX9_runScript_79 : decode cX9_runScript 79 = .ok (.iconst 0, 1) := by decide +kernel
theorem dX9_runScript_80 : decode cX9_runScript 80 = .ok (.invokestatic 191, 3) := by decide +kernel
theorem dX9_runScript_83 : decode cX9_runScript 83 = .ok (.iconst 0, 1) := by decide +kernel
theorem dX9_runScript_84 : decode cX9_runScript 84 = .ok (.istore 6, 2) := by decide +kernel
theorem dX9_runScript_86 : decode cX9_runScript 86 = .ok (.iload 6, 2) := by decide +kernel
theorem dX9_runScript_88 : decode cX9_runScript 88 = .ok (.iload_n 1, 1) := by decide +kernel
theorem dX9_runScript_89 : decode cX9_runScript 89 = .ok (.if_icmp .ge 58, 3) := by decide +kernel
theorem dX9_runScript_92 : decode cX9_runScript 92 = .ok (.lload 4, 2) := by decide +kernel
theorem dX9_runScript_94 : decode cX9_runScript 94 = .ok (.ldc2_w 243, 3) := by decide +kernel
theorem dX9_runScript_97 : decode cX9_runScript 97 = .ok (.ldiv, 1) := by decide +kernel
theorem dX9_runScript_98 : decode cX9_runScript 98 = .ok (.lstore 4, 2) := by decide +kernel
theorem dX9_runScript_100 : decode cX9_runScript 100 = .ok (.lload_n 2, 1) := by decide +kernel
theorem dX9_runScript_101 : decode cX9_runScript 101 = .ok (.lload 4, 2) := by decide +kernel
theorem dX9_runScript_103 : decode cX9_runScript 103 = .ok (.ldiv, 1) := by decide +kernel
theorem dX9_runScript_104 : decode cX9_runScript 104 = .ok (.ldc2_w 243, 3) := by decide +kernel
theorem dX9_runScript_107 : decode cX9_runScript 107 = .ok (.lrem, 1) := by decide +kernel
theorem dX9_runScript_108 : decode cX9_runScript 108 = .ok (.l2i, 1) := by decide +kernel
theorem dX9_runScript_109 : decode cX9_runScript 109 = .ok (.istore 7, 2) := by decide +kernel
theorem dX9_runScript_111 : decode cX9_runScript 111 = .ok (.aload_n 0, 1) := by decide +kernel
theorem dX9_runScript_112 : decode cX9_runScript 112 = .ok (.iload 7, 2) := by decide +kernel
theorem dX9_runScript_114 : decode cX9_runScript 114 = .ok (.ldc 247, 2) := by decide +kernel
theorem dX9_runScript_116 : decode cX9_runScript 116 = .ok (.idiv, 1) := by decide +kernel
theorem dX9_runScript_117 : decode cX9_runScript 117 = .ok (.iload 7, 2) := by decide +kernel
theorem dX9_runScript_119 : decode cX9_runScript 119 = .ok (.sipush 10000, 3) := by decide +kernel
theorem dX9_runScript_122 : decode cX9_runScript 122 = .ok (.idiv, 1) := by decide +kernel
theorem dX9_runScript_123 : decode cX9_runScript 123 = .ok (.bipush 10, 2) := by decide +kernel
theorem dX9_runScript_125 : decode cX9_runScript 125 = .ok (.irem, 1) := by decide +kernel
theorem dX9_runScript_126 : decode cX9_runScript 126 = .ok (.iload 7, 2) := by decide +kernel
theorem dX9_runScript_128 : decode cX9_runScript 128 = .ok (.sipush 10000, 3) := by decide +kernel
theorem dX9_runScript_131 : decode cX9_runScript 131 = .ok (.irem, 1) := by decide +kernel
theorem dX9_runScript_132 : decode cX9_runScript 132 = .ok (.invokevirtual 248, 3) := by decide +kernel
theorem dX9_runScript_135 : decode cX9_runScript 135 = .ok (.ifCond .ne 6, 3) := by decide +kernel
theorem dX9_runScript_138 : decode cX9_runScript 138 = .ok (.iload 6, 2) := by decide +kernel
theorem dX9_runScript_140 : decode cX9_runScript 140 = .ok (.ireturn, 1) := by decide +kernel
theorem dX9_runScript_141 : decode cX9_runScript 141 = .ok (.iinc 6 1, 3) := by decide +kernel
theorem dX9_runScript_144 : decode cX9_runScript 144 = .ok (.goto (-58), 3) := by decide +kernel
theorem dX9_runScript_147 : decode cX9_runScript 147 = .ok (.sipush (-9999), 3) := by decide +kernel
theorem dX9_runScript_150 : decode cX9_runScript 150 = .ok (.ireturn, 1) := by decide +kernel
theorem dX9_simulate_0 : decode cX9_simulate 0 = .ok (.aload_n 0, 1) := by decide +kernel
theorem dX9_simulate_1 : decode cX9_simulate 1 = .ok (.iload_n 3, 1) := by decide +kernel
theorem dX9_simulate_2 : decode cX9_simulate 2 = .ok (.i2l, 1) := by decide +kernel
theorem dX9_simulate_3 : decode cX9_simulate 3 = .ok (.lconst 1, 1) := by decide +kernel
theorem dX9_simulate_4 : decode cX9_simulate 4 = .ok (.ldc2_w 252, 3) := by decide +kernel
theorem dX9_simulate_7 : decode cX9_simulate 7 = .ok (.invokestatic 52, 3) := by decide +kernel
theorem dX9_simulate_10 : decode cX9_simulate 10 = .ok (.ifCond .eq 7, 3) := by decide +kernel
theorem dX9_simulate_13 : decode cX9_simulate 13 = .ok (.iconst 0, 1) := by decide +kernel
theorem dX9_simulate_14 : decode cX9_simulate 14 = .ok (.goto 4, 3) := by decide +kernel
theorem dX9_simulate_17 : decode cX9_simulate 17 = .ok (.iconst 1, 1) := by decide +kernel
theorem dX9_simulate_18 : decode cX9_simulate 18 = .ok (.invokevirtual 128, 3) := by decide +kernel
theorem dX9_simulate_21 : decode cX9_simulate 21 = .ok (.ifCond .eq 5, 3) := by decide +kernel
theorem dX9_simulate_24 : decode cX9_simulate 24 = .ok (.iconst 0, 1) := by decide +kernel
theorem dX9_simulate_25 : decode cX9_simulate 25 = .ok (.ireturn, 1) := by decide +kernel
theorem dX9_simulate_26 : decode cX9_simulate 26 = .ok (.aload_n 0, 1) := by decide +kernel
theorem dX9_simulate_27 : decode cX9_simulate 27 = .ok (.getfield 13, 3) := by decide +kernel
theorem dX9_simulate_30 : decode cX9_simulate 30 = .ok (.iconst 0, 1) := by decide +kernel
theorem dX9_simulate_31 : decode cX9_simulate 31 = .ok (.aload_n 0, 1) := by decide +kernel
theorem dX9_simulate_32 : decode cX9_simulate 32 = .ok (.getfield 16, 3) := by decide +kernel
theorem dX9_simulate_35 : decode cX9_simulate 35 = .ok (.iconst 0, 1) := by decide +kernel
theorem dX9_simulate_36 : decode cX9_simulate 36 = .ok (.invokestatic 191, 3) := by decide +kernel
theorem dX9_simulate_39 : decode cX9_simulate 39 = .ok (.lload_n 1, 1) := by decide +kernel
theorem dX9_simulate_40 : decode cX9_simulate 40 = .ok (.lstore 4, 2) := by decide +kernel
theorem dX9_simulate_42 : decode cX9_simulate 42 = .ok (.iconst 0, 1) := by decide +kernel
theorem dX9_simulate_43 : decode cX9_simulate 43 = .ok (.istore 6, 2) := by decide +kernel
theorem dX9_simulate_45 : decode cX9_simulate 45 = .ok (.iload 6, 2) := by decide +kernel
theorem dX9_simulate_47 : decode cX9_simulate 47 = .ok (.iload_n 3, 1) := by decide +kernel
theorem dX9_simulate_48 : decode cX9_simulate 48 = .ok (.if_icmp .ge 165, 3) := by decide +kernel
theorem dX9_simulate_51 : decode cX9_simulate 51 = .ok (.lload 4, 2) := by decide +kernel
theorem dX9_simulate_53 : decode cX9_simulate 53 = .ok (.ldc2_w 254, 3) := by decide +kernel
theorem dX9_simulate_56 : decode cX9_simulate 56 = .ok (.lmul, 1) := by decide +kernel
theorem dX9_simulate_57 : decode cX9_simulate 57 = .ok (.ldc2_w 256, 3) := by decide +kernel
theorem dX9_simulate_60 : decode cX9_simulate 60 = .ok (.ladd, 1) := by decide +kernel
theorem dX9_simulate_61 : decode cX9_simulate 61 = .ok (.lstore 4, 2) := by decide +kernel
theorem dX9_simulate_63 : decode cX9_simulate 63 = .ok (.lload 4, 2) := by decide +kernel
theorem dX9_simulate_65 : decode cX9_simulate 65 = .ok (.bipush 33, 2) := by decide +kernel
theorem dX9_simulate_67 : decode cX9_simulate 67 = .ok (.lushr, 1) := by decide +kernel
theorem dX9_simulate_68 : decode cX9_simulate 68 = .ok (.l2i, 1) := by decide +kernel
theorem dX9_simulate_69 : decode cX9_simulate 69 = .ok (.istore 7, 2) := by decide +kernel
theorem dX9_simulate_71 : decode cX9_simulate 71 = .ok (.aload_n 0, 1) := by decide +kernel
theorem dX9_simulate_72 : decode cX9_simulate 72 = .ok (.getfield 16, 3) := by decide +kernel
theorem dX9_simulate_75 : decode cX9_simulate 75 = .ok (.invokestatic 56, 3) := by decide +kernel
theorem dX9_simulate_78 : decode cX9_simulate 78 = .ok (.istore 8, 2) := by decide +kernel
theorem dX9_simulate_80 : decode cX9_simulate 80 = .ok (.iload 8, 2) := by decide +kernel
theorem dX9_simulate_82 : decode cX9_simulate 82 = .ok (.ifCond .ne 7, 3) := by decide +kernel
theorem dX9_simulate_85 : decode cX9_simulate 85 = .ok (.iconst 0, 1) := by decide +kernel
theorem dX9_simulate_86 : decode cX9_simulate 86 = .ok (.goto 15, 3) := by decide +kernel
theorem dX9_simulate_89 : decode cX9_simulate 89 = .ok (.aload_n 0, 1) := by decide +kernel
theorem dX9_simulate_90 : decode cX9_simulate 90 = .ok (.getfield 16, 3) := by decide +kernel
theorem dX9_simulate_93 : decode cX9_simulate 93 = .ok (.bipush 22, 2) := by decide +kernel
theorem dX9_simulate_95 : decode cX9_simulate 95 = .ok (.iload 8, 2) := by decide +kernel
theorem dX9_simulate_97 : decode cX9_simulate 97 = .ok (.iadd, 1) := by decide +kernel
theorem dX9_simulate_98 : decode cX9_simulate 98 = .ok (.iconst 1, 1) := by decide +kernel
theorem dX9_simulate_99 : decode cX9_simulate 99 = .ok (.isub, 1) := by decide +kernel
theorem dX9_simulate_100 : decode cX9_simulate 100 = .ok (.iaload, 1) := by decide +kernel
theorem dX9_simulate_101 : decode cX9_simulate 101 = .ok (.istore 9, 2) := by decide +kernel
theorem dX9_simulate_103 : decode cX9_simulate 103 = .ok (.iload 7, 2) := by decide +kernel
theorem dX9_simulate_105 : decode cX9_simulate 105 = .ok (.iconst 4, 1) := by decide +kernel
theorem dX9_simulate_106 : decode cX9_simulate 106 = .ok (.idiv, 1) := by decide +kernel
theorem dX9_simulate_107 : decode cX9_simulate 107 = .ok (.bipush 8, 2) := by decide +kernel
theorem dX9_simulate_109 : decode cX9_simulate 109 = .ok (.irem, 1) := by decide +kernel
theorem dX9_simulate_110 : decode cX9_simulate 110 = .ok (.istore 10, 2) := by decide +kernel
theorem dX9_simulate_112 : decode cX9_simulate 112 = .ok (.iload 7, 2) := by decide +kernel
theorem dX9_simulate_114 : decode cX9_simulate 114 = .ok (.iconst 4, 1) := by decide +kernel
theorem dX9_simulate_115 : decode cX9_simulate 115 = .ok (.irem, 1) := by decide +kernel
theorem dX9_simulate_116 : decode cX9_simulate 116 = .ok (.ifCond .ne 14, 3) := by decide +kernel
theorem dX9_simulate_119 : decode cX9_simulate 119 = .ok (.iload 7, 2) := by decide +kernel
theorem dX9_simulate_121 : decode cX9_simulate 121 = .ok (.iconst 4, 1) := by decide +kernel
theorem dX9_simulate_122 : decode cX9_simulate 122 = .ok (.idiv, 1) := by decide +kernel
theorem dX9_simulate_123 : decode cX9_simulate 123 = .ok (.sipush 1024, 3) := by decide +kernel
theorem dX9_simulate_126 : decode cX9_simulate 126 = .ok (.irem, 1) := by decide +kernel
theorem dX9_simulate_127 : decode cX9_simulate 127 = .ok (.goto 47, 3) := by decide +kernel
theorem dX9_simulate_130 : decode cX9_simulate 130 = .ok (.iload 7, 2) := by decide +kernel
theorem dX9_simulate_132 : decode cX9_simulate 132 = .ok (.iconst 4, 1) := by decide +kernel
theorem dX9_simulate_133 : decode cX9_simulate 133 = .ok (.irem, 1) := by decide +kernel
theorem dX9_simulate_134 : decode cX9_simulate 134 = .ok (.iconst 1, 1) := by decide +kernel
theorem dX9_simulate_135 : decode cX9_simulate 135 = .ok (.if_icmp .ne 8, 3) := by decide +kernel
theorem dX9_simulate_138 : decode cX9_simulate 138 = .ok (.iload 9, 2) := by decide +kernel
theorem dX9_simulate_140 : decode cX9_simulate 140 = .ok (.goto 34, 3) := by decide +kernel
theorem dX9_simulate_143 : decode cX9_simulate 143 = .ok (.iload 7, 2) := by decide +kernel
theorem dX9_simulate_145 : decode cX9_simulate 145 = .ok (.iconst 4, 1) := by decide +kernel
theorem dX9_simulate_146 : decode cX9_simulate 146 = .ok (.irem, 1) := by decide +kernel
theorem dX9_simulate_147 : decode cX9_simulate 147 = .ok (.iconst 2, 1) := by decide +kernel
theorem dX9_simulate_148 : decode cX9_simulate 148 = .ok (.if_icmp .ne 17, 3) := by decide +kernel
theorem dX9_simulate_151 : decode cX9_simulate 151 = .ok (.sipush 1023, 3) := by decide +kernel
theorem dX9_simulate_154 : decode cX9_simulate 154 = .ok (.iload 9, 2) := by decide +kernel
theorem dX9_simulate_156 : decode cX9_simulate 156 = .ok (.iload 10, 2) := by decide +kernel
theorem dX9_simulate_158 : decode cX9_simulate 158 = .ok (.iadd, 1) := by decide +kernel
theorem dX9_simulate_159 : decode cX9_simulate 159 = .ok (.invokestatic 60, 3) := by decide +kernel
theorem dX9_simulate_162 : decode cX9_simulate 162 = .ok (.goto 12, 3) := by decide +kernel
theorem dX9_simulate_165 : decode cX9_simulate 165 = .ok (.iconst 0, 1) := by decide +kernel
theorem dX9_simulate_166 : decode cX9_simulate 166 = .ok (.iload 9, 2) := by decide +kernel
theorem dX9_simulate_168 : decode cX9_simulate 168 = .ok (.iload 10, 2) := by decide +kernel
theorem dX9_simulate_170 : decode cX9_simulate 170 = .ok (.isub, 1) := by decide +kernel
theorem dX9_simulate_171 : decode cX9_simulate 171 = .ok (.invokestatic 64, 3) := by decide +kernel
theorem dX9_simulate_174 : decode cX9_simulate 174 = .ok (.istore 11, 2) := by decide +kernel
theorem dX9_simulate_176 : decode cX9_simulate 176 = .ok (.aload_n 0, 1) := by decide +kernel
theorem dX9_simulate_177 : decode cX9_simulate 177 = .ok (.getfield 16, 3) := by decide +kernel
theorem dX9_simulate_180 : decode cX9_simulate 180 = .ok (.invokestatic 199, 3) := by decide +kernel
theorem dX9_simulate_183 : decode cX9_simulate 183 = .ok (.ifCond .eq 16, 3) := by decide +kernel
theorem dX9_simulate_186 : decode cX9_simulate 186 = .ok (.aload_n 0, 1) := by decide +kernel
theorem dX9_simulate_187 : decode cX9_simulate 187 = .ok (.getfield 16, 3) := by decide +kernel
theorem dX9_simulate_190 : decode cX9_simulate 190 = .ok (.iload 11, 2) := by decide +kernel
theorem dX9_simulate_192 : decode cX9_simulate 192 = .ok (.invokestatic 205, 3) := by decide +kernel
theorem dX9_simulate_195 : decode cX9_simulate 195 = .ok (.pop, 1) := by decide +kernel
theorem dX9_simulate_196 : decode cX9_simulate 196 = .ok (.goto 11, 3) := by decide +kernel
theorem dX9_simulate_199 : decode cX9_simulate 199 = .ok (.aload_n 0, 1) := by decide +kernel
theorem dX9_simulate_200 : decode cX9_simulate 200 = .ok (.getfield 16, 3) := by decide +kernel
theorem dX9_simulate_203 : decode cX9_simulate 203 = .ok (.invokestatic 237, 3) := by decide +kernel
theorem dX9_simulate_206 : decode cX9_simulate 206 = .ok (.pop, 1) := by decide +kernel
theorem dX9_simulate_207 : decode cX9_simulate 207 = .ok (.iinc 6 1, 3) := by decide +kernel
theorem dX9_simulate_210 : decode cX9_simulate 210 = .ok (.goto (-165), 3) := by decide +kernel
theorem dX9_simulate_213 : decode cX9_simulate 213 = .ok (.iconst 0, 1) := by decide +kernel
theorem dX9_simulate_214 : decode cX9_simulate 214 = .ok (.istore 6, 2) := by decide +kernel
theorem dX9_simulate_216 : decode cX9_simulate 216 = .ok (.iconst 0, 1) := by decide +kernel
theorem dX9_simulate_217 : decode cX9_simulate 217 = .ok (.istore 7, 2) := by decide +kernel
theorem dX9_simulate_219 : decode cX9_simulate 219 = .ok (.iload 7, 2) := by decide +kernel
theorem dX9_simulate_221 : decode cX9_simulate 221 = .ok (.aload_n 0, 1) := by decide +kernel
theorem dX9_simulate_222 : decode cX9_simulate 222 = .ok (.getfield 16, 3) := by decide +kernel
theorem dX9_simulate_225 : decode cX9_simulate 225 = .ok (.iconst 0, 1) := by decide +kernel
theorem dX9_simulate_226 : decode cX9_simulate 226 = .ok (.iaload, 1) := by decide +kernel
theorem dX9_simulate_227 : decode cX9_simulate 227 = .ok (.if_icmp .ge 25, 3) := by decide +kernel
theorem dX9_simulate_230 : decode cX9_simulate 230 = .ok (.iload 6, 2) := by decide +kernel
theorem dX9_simulate_232 : decode cX9_simulate 232 = .ok (.iconst 1, 1) := by decide +kernel
theorem dX9_simulate_233 : decode cX9_simulate 233 = .ok (.aload_n 0, 1) := by decide +kernel
theorem dX9_simulate_234 : decode cX9_simulate 234 = .ok (.getfield 16, 3) := by decide +kernel
theorem dX9_simulate_237 : decode cX9_simulate 237 = .ok (.iload 7, 2) := by decide +kernel
theorem dX9_simulate_239 : decode cX9_simulate 239 = .ok (.invokestatic 114, 3) := by decide +kernel
theorem dX9_simulate_242 : decode cX9_simulate 242 = .ok (.ishl, 1) := by decide +kernel
theorem dX9_simulate_243 : decode cX9_simulate 243 = .ok (.ior, 1) := by decide +kernel
theorem dX9_simulate_244 : decode cX9_simulate 244 = .ok (.istore 6, 2) := by decide +kernel
theorem dX9_simulate_246 : decode cX9_simulate 246 = .ok (.iinc 7 1, 3) := by decide +kernel
theorem dX9_simulate_249 : decode cX9_simulate 249 = .ok (.goto (-30), 3) := by decide +kernel
theorem dX9_simulate_252 : decode cX9_simulate 252 = .ok (.iconst 0, 1) := by decide +kernel
theorem dX9_simulate_253 : decode cX9_simulate 253 = .ok (.istore 7, 2) := by decide +kernel
theorem dX9_simulate_255 : decode cX9_simulate 255 = .ok (.iconst 0, 1) := by decide +kernel
theorem dX9_simulate_256 : decode cX9_simulate 256 = .ok (.istore 8, 2) := by decide +kernel
theorem dX9_simulate_258 : decode cX9_simulate 258 = .ok (.iload 8, 2) := by decide +kernel
theorem dX9_simulate_260 : decode cX9_simulate 260 = .ok (.iconst 5, 1) := by decide +kernel
theorem dX9_simulate_261 : decode cX9_simulate 261 = .ok (.if_icmp .ge 21, 3) := by decide +kernel
theorem dX9_simulate_264 : decode cX9_simulate 264 = .ok (.iload 7, 2) := by decide +kernel
theorem dX9_simulate_266 : decode cX9_simulate 266 = .ok (.iload 6, 2) := by decide +kernel
theorem dX9_simulate_268 : decode cX9_simulate 268 = .ok (.iload 8, 2) := by decide +kernel
theorem dX9_simulate_270 : decode cX9_simulate 270 = .ok (.ishr, 1) := by decide +kernel
theorem dX9_simulate_271 : decode cX9_simulate 271 = .ok (.iconst 1, 1) := by decide +kernel
theorem dX9_simulate_272 : decode cX9_simulate 272 = .ok (.iand, 1) := by decide +kernel
theorem dX9_simulate_273 : decode cX9_simulate 273 = .ok (.iadd, 1) := by decide +kernel
theorem dX9_simulate_274 : decode cX9_simulate 274 = .ok (.istore 7, 2) := by decide +kernel
theorem dX9_simulate_276 : decode cX9_simulate 276 = .ok (.iinc 8 1, 3) := by decide +kernel
theorem dX9_simulate_279 : decode cX9_simulate 279 = .ok (.goto (-21), 3) := by decide +kernel
theorem dX9_simulate_282 : decode cX9_simulate 282 = .ok (.bipush 10, 2) := by decide +kernel
theorem dX9_simulate_284 : decode cX9_simulate 284 = .ok (.aload_n 0, 1) := by decide +kernel
theorem dX9_simulate_285 : decode cX9_simulate 285 = .ok (.getfield 16, 3) := by decide +kernel
theorem dX9_simulate_288 : decode cX9_simulate 288 = .ok (.invokestatic 167, 3) := by decide +kernel
theorem dX9_simulate_291 : decode cX9_simulate 291 = .ok (.imul, 1) := by decide +kernel
theorem dX9_simulate_292 : decode cX9_simulate 292 = .ok (.iload 7, 2) := by decide +kernel
theorem dX9_simulate_294 : decode cX9_simulate 294 = .ok (.iadd, 1) := by decide +kernel
theorem dX9_simulate_295 : decode cX9_simulate 295 = .ok (.ireturn, 1) := by decide +kernel
theorem dX9_save_0 : decode cX9_save 0 = .ok (.aload_n 0, 1) := by decide +kernel
theorem dX9_save_1 : decode cX9_save 1 = .ok (.iload_n 1, 1) := by decide +kernel
theorem dX9_save_2 : decode cX9_save 2 = .ok (.i2l, 1) := by decide +kernel
theorem dX9_save_3 : decode cX9_save 3 = .ok (.lconst 0, 1) := by decide +kernel
theorem dX9_save_4 : decode cX9_save 4 = .ok (.lconst 1, 1) := by decide +kernel
theorem dX9_save_5 : decode cX9_save 5 = .ok (.invokestatic 52, 3) := by decide +kernel
theorem dX9_save_8 : decode cX9_save 8 = .ok (.ifCond .eq 7, 3) := by decide +kernel
theorem dX9_save_11 : decode cX9_save 11 = .ok (.iconst 0, 1) := by decide +kernel
theorem dX9_save_12 : decode cX9_save 12 = .ok (.goto 4, 3) := by decide +kernel
theorem dX9_save_15 : decode cX9_save 15 = .ok (.iconst 1, 1) := by decide +kernel
theorem dX9_save_16 : decode cX9_save 16 = .ok (.invokevirtual 128, 3) := by decide +kernel
theorem dX9_save_19 : decode cX9_save 19 = .ok (.ifCond .eq 5, 3) := by decide +kernel
theorem dX9_save_22 : decode cX9_save 22 = .ok (.iconst 0, 1) := by decide +kernel
theorem dX9_save_23 : decode cX9_save 23 = .ok (.ireturn, 1) := by decide +kernel
theorem dX9_save_24 : decode cX9_save 24 = .ok (.aload_n 0, 1) := by decide +kernel
theorem dX9_save_25 : decode cX9_save 25 = .ok (.getfield 13, 3) := by decide +kernel
theorem dX9_save_28 : decode cX9_save 28 = .ok (.iconst 0, 1) := by decide +kernel
theorem dX9_save_29 : decode cX9_save 29 = .ok (.aload_n 0, 1) := by decide +kernel
theorem dX9_save_30 : decode cX9_save 30 = .ok (.getfield 25, 3) := by decide +kernel
theorem dX9_save_33 : decode cX9_save 33 = .ok (.sipush 142, 3) := by decide +kernel
theorem dX9_save_36 : decode cX9_save 36 = .ok (.iload_n 1, 1) := by decide +kernel
theorem dX9_save_37 : decode cX9_save 37 = .ok (.imul, 1) := by decide +kernel
theorem dX9_save_38 : decode cX9_save 38 = .ok (.invokestatic 191, 3) := by decide +kernel
theorem dX9_save_41 : decode cX9_save 41 = .ok (.aload_n 0, 1) := by decide +kernel
theorem dX9_save_42 : decode cX9_save 42 = .ok (.getfield 28, 3) := by decide +kernel
theorem dX9_save_45 : decode cX9_save 45 = .ok (.iload_n 1, 1) := by decide +kernel
theorem dX9_save_46 : decode cX9_save 46 = .ok (.iconst 1, 1) := by decide +kernel
theorem dX9_save_47 : decode cX9_save 47 = .ok (.bastore, 1) := by decide +kernel
theorem dX9_save_48 : decode cX9_save 48 = .ok (.aload_n 0, 1) := by decide +kernel
theorem dX9_save_49 : decode cX9_save 49 = .ok (.getfield 13, 3) := by decide +kernel
theorem dX9_save_52 : decode cX9_save 52 = .ok (.invokestatic 56, 3) := by decide +kernel
theorem dX9_save_55 : decode cX9_save 55 = .ok (.ireturn, 1) := by decide +kernel
theorem dX9_restore_0 : decode cX9_restore 0 = .ok (.aload_n 0, 1) := by decide +kernel
theorem dX9_restore_1 : decode cX9_restore 1 = .ok (.iload_n 1, 1) := by decide +kernel
theorem dX9_restore_2 : decode cX9_restore 2 = .ok (.i2l, 1) := by decide +kernel
theorem dX9_restore_3 : decode cX9_restore 3 = .ok (.lconst 0, 1) := by decide +kernel
theorem dX9_restore_4 : decode cX9_restore 4 = .ok (.lconst 1, 1) := by decide +kernel
theorem dX9_restore_5 : decode cX9_restore 5 = .ok (.invokestatic 52, 3) := by decide +kernel
theorem dX9_restore_8 : decode cX9_restore 8 = .ok (.ifCond .ne 7, 3) := by decide +kernel
theorem dX9_restore_11 : decode cX9_restore 11 = .ok (.iconst 1, 1) := by decide +kernel
theorem dX9_restore_12 : decode cX9_restore 12 = .ok (.goto 17, 3) := by decide +kernel
theorem dX9_restore_15 : decode cX9_restore 15 = .ok (.aload_n 0, 1) := by decide +kernel
theorem dX9_restore_16 : decode cX9_restore 16 = .ok (.getfield 28, 3) := by decide +kernel
theorem dX9_restore_19 : decode cX9_restore 19 = .ok (.iload_n 1, 1) := by decide +kernel
theorem dX9_restore_20 : decode cX9_restore 20 = .ok (.baload, 1) := by decide +kernel
theorem dX9_restore_21 : decode cX9_restore 21 = .ok (.ifCond .ne 7, 3) := by decide +kernel
theorem dX9_restore_24 : decode cX9_restore 24 = .ok (.iconst 2, 1) := by decide +kernel
theorem dX9_restore_25 : decode cX9_restore 25 = .ok (.goto 4, 3) := by decide +kernel
theorem dX9_restore_28 : decode cX9_restore 28 = .ok (.iconst 0, 1) := by decide +kernel
theorem dX9_restore_29 : decode cX9_restore 29 = .ok (.invokevirtual 128, 3) := by decide +kernel
theorem dX9_restore_32 : decode cX9_restore 32 = .ok (.ifCond .eq 5, 3) := by decide +kernel
theorem dX9_restore_35 : decode cX9_restore 35 = .ok (.iconst 0, 1) := by decide +kernel
theorem dX9_restore_36 : decode cX9_restore 36 = .ok (.ireturn, 1) := by decide +kernel
theorem dX9_restore_37 : decode cX9_restore 37 = .ok (.aload_n 0, 1) := by decide +kernel
theorem dX9_restore_38 : decode cX9_restore 38 = .ok (.getfield 25, 3) := by decide +kernel
theorem dX9_restore_41 : decode cX9_restore 41 = .ok (.sipush 142, 3) := by decide +kernel
theorem dX9_restore_44 : decode cX9_restore 44 = .ok (.iload_n 1, 1) := by decide +kernel
theorem dX9_restore_45 : decode cX9_restore 45 = .ok (.imul, 1) := by decide +kernel
theorem dX9_restore_46 : decode cX9_restore 46 = .ok (.aload_n 0, 1) := by decide +kernel
theorem dX9_restore_47 : decode cX9_restore 47 = .ok (.getfield 13, 3) := by decide +kernel
theorem dX9_restore_50 : decode cX9_restore 50 = .ok (.iconst 0, 1) := by decide +kernel
theorem dX9_restore_51 : decode cX9_restore 51 = .ok (.invokestatic 191, 3) := by decide +kernel
theorem dX9_restore_54 : decode cX9_restore 54 = .ok (.aload_n 0, 1) := by decide +kernel
theorem dX9_restore_55 : decode cX9_restore 55 = .ok (.iconst 0, 1) := by decide +kernel
theorem dX9_restore_56 : decode cX9_restore 56 = .ok (.putfield 188, 3) := by decide +kernel
theorem dX9_restore_59 : decode cX9_restore 59 = .ok (.aload_n 0, 1) := by decide +kernel
theorem dX9_restore_60 : decode cX9_restore 60 = .ok (.getfield 13, 3) := by decide +kernel
theorem dX9_restore_63 : decode cX9_restore 63 = .ok (.invokestatic 56, 3) := by decide +kernel
theorem dX9_restore_66 : decode cX9_restore 66 = .ok (.ireturn, 1) := by decide +kernel
theorem dJ6_bitCount_0f7a4_0 : decode cJ6_bitCount_0f7a4 0 = .ok (.iload_n 0, 1) := by decide +kernel
theorem dJ6_bitCount_0f7a4_1 : decode cJ6_bitCount_0f7a4 1 = .ok (.iload_n 0, 1) := by decide +kernel
theorem dJ6_bitCount_0f7a4_2 : decode cJ6_bitCount_0f7a4 2 = .ok (.iconst 1, 1) := by decide +kernel
theorem dJ6_bitCount_0f7a4_3 : decode cJ6_bitCount_0f7a4 3 = .ok (.iushr, 1) := by decide +kernel
theorem dJ6_bitCount_0f7a4_4 : decode cJ6_bitCount_0f7a4 4 = .ok (.ldc_w 265, 3) := by decide +kernel
theorem dJ6_bitCount_0f7a4_7 : decode cJ6_bitCount_0f7a4 7 = .ok (.iand, 1) := by decide +kernel
theorem dJ6_bitCount_0f7a4_8 : decode cJ6_bitCount_0f7a4 8 = .ok (.isub, 1) := by decide +kernel
theorem dJ6_bitCount_0f7a4_9 : decode cJ6_bitCount_0f7a4 9 = .ok (.istore_n 0, 1) := by decide +kernel
theorem dJ6_bitCount_0f7a4_10 : decode cJ6_bitCount_0f7a4 10 = .ok (.iload_n 0, 1) := by decide +kernel
theorem dJ6_bitCount_0f7a4_11 : decode cJ6_bitCount_0f7a4 11 = .ok (.ldc_w 266, 3) := by decide +kernel
theorem dJ6_bitCount_0f7a4_14 : decode cJ6_bitCount_0f7a4 14 = .ok (.iand, 1) := by decide +kernel
theorem dJ6_bitCount_0f7a4_15 : decode cJ6_bitCount_0f7a4 15 = .ok (.iload_n 0, 1) := by decide +kernel
theorem dJ6_bitCount_0f7a4_16 : decode cJ6_bitCount_0f7a4 16 = .ok (.iconst 2, 1) := by decide +kernel
theorem dJ6_bitCount_0f7a4_17 : decode cJ6_bitCount_0f7a4 17 = .ok (.iushr, 1) := by decide +kernel
theorem dJ6_bitCount_0f7a4_18 : decode cJ6_bitCount_0f7a4 18 = .ok (.ldc_w 266, 3) := by decide +kernel
theorem dJ6_bitCount_0f7a4_21 : decode cJ6_bitCount_0f7a4 21 = .ok (.iand, 1) := by decide +kernel
theorem dJ6_bitCount_0f7a4_22 : decode cJ6_bitCount_0f7a4 22 = .ok (.iadd, 1) := by decide +kernel
theorem dJ6_bitCount_0f7a4_23 : decode cJ6_bitCount_0f7a4 23 = .ok (.istore_n 0, 1) := by decide +kernel
theorem dJ6_bitCount_0f7a4_24 : decode cJ6_bitCount_0f7a4 24 = .ok (.iload_n 0, 1) := by decide +kernel
theorem dJ6_bitCount_0f7a4_25 : decode cJ6_bitCount_0f7a4 25 = .ok (.iload_n 0, 1) := by decide +kernel
theorem dJ6_bitCount_0f7a4_26 : decode cJ6_bitCount_0f7a4 26 = .ok (.iconst 4, 1) := by decide +kernel
theorem dJ6_bitCount_0f7a4_27 : decode cJ6_bitCount_0f7a4 27 = .ok (.iushr, 1) := by decide +kernel
theorem dJ6_bitCount_0f7a4_28 : decode cJ6_bitCount_0f7a4 28 = .ok (.iadd, 1) := by decide +kernel
theorem dJ6_bitCount_0f7a4_29 : decode cJ6_bitCount_0f7a4 29 = .ok (.ldc_w 267, 3) := by decide +kernel
theorem dJ6_bitCount_0f7a4_32 : decode cJ6_bitCount_0f7a4 32 = .ok (.iand, 1) := by decide +kernel
theorem dJ6_bitCount_0f7a4_33 : decode cJ6_bitCount_0f7a4 33 = .ok (.istore_n 0, 1) := by decide +kernel
theorem dJ6_bitCount_0f7a4_34 : decode cJ6_bitCount_0f7a4 34 = .ok (.iload_n 0, 1) := by decide +kernel
theorem dJ6_bitCount_0f7a4_35 : decode cJ6_bitCount_0f7a4 35 = .ok (.iload_n 0, 1) := by decide +kernel
theorem dJ6_bitCount_0f7a4_36 : decode cJ6_bitCount_0f7a4 36 = .ok (.bipush 8, 2) := by decide +kernel
theorem dJ6_bitCount_0f7a4_38 : decode cJ6_bitCount_0f7a4 38 = .ok (.iushr, 1) := by decide +kernel
theorem dJ6_bitCount_0f7a4_39 : decode cJ6_bitCount_0f7a4 39 = .ok (.iadd, 1) := by decide +kernel
theorem dJ6_bitCount_0f7a4_40 : decode cJ6_bitCount_0f7a4 40 = .ok (.istore_n 0, 1) := by decide +kernel
theorem dJ6_bitCount_0f7a4_41 : decode cJ6_bitCount_0f7a4 41 = .ok (.iload_n 0, 1) := by decide +kernel
theorem dJ6_bitCount_0f7a4_42 : decode cJ6_bitCount_0f7a4 42 = .ok (.iload_n 0, 1) := by decide +kernel
theorem dJ6_bitCount_0f7a4_43 : decode cJ6_bitCount_0f7a4 43 = .ok (.bipush 16, 2) := by decide +kernel
theorem dJ6_bitCount_0f7a4_45 : decode cJ6_bitCount_0f7a4 45 = .ok (.iushr, 1) := by decide +kernel
theorem dJ6_bitCount_0f7a4_46 : decode cJ6_bitCount_0f7a4 46 = .ok (.iadd, 1) := by decide +kernel
theorem dJ6_bitCount_0f7a4_47 : decode cJ6_bitCount_0f7a4 47 = .ok (.istore_n 0, 1) := by decide +kernel
theorem dJ6_bitCount_0f7a4_48 : decode cJ6_bitCount_0f7a4 48 = .ok (.iload_n 0, 1) := by decide +kernel
theorem dJ6_bitCount_0f7a4_49 : decode cJ6_bitCount_0f7a4 49 = .ok (.bipush 63, 2) := by decide +kernel
theorem dJ6_bitCount_0f7a4_51 : decode cJ6_bitCount_0f7a4 51 = .ok (.iand, 1) := by decide +kernel
theorem dJ6_bitCount_0f7a4_52 : decode cJ6_bitCount_0f7a4 52 = .ok (.ireturn, 1) := by decide +kernel
theorem dJ9_max_7cf53_0 : decode cJ9_max_7cf53 0 = .ok (.iload_n 0, 1) := by decide +kernel
theorem dJ9_max_7cf53_1 : decode cJ9_max_7cf53 1 = .ok (.iload_n 1, 1) := by decide +kernel
theorem dJ9_max_7cf53_2 : decode cJ9_max_7cf53 2 = .ok (.if_icmp .lt 7, 3) := by decide +kernel
theorem dJ9_max_7cf53_5 : decode cJ9_max_7cf53 5 = .ok (.iload_n 0, 1) := by decide +kernel
theorem dJ9_max_7cf53_6 : decode cJ9_max_7cf53 6 = .ok (.goto 4, 3) := by decide +kernel
theorem dJ9_max_7cf53_9 : decode cJ9_max_7cf53 9 = .ok (.iload_n 1, 1) := by decide +kernel
theorem dJ9_max_7cf53_10 : decode cJ9_max_7cf53 10 = .ok (.ireturn, 1) := by decide +kernel
theorem dJ9_min_7cf53_0 : decode cJ9_min_7cf53 0 = .ok (.iload_n 0, 1) := by decide +kernel
theorem dJ9_min_7cf53_1 : decode cJ9_min_7cf53 1 = .ok (.iload_n 1, 1) := by decide +kernel
theorem dJ9_min_7cf53_2 : decode cJ9_min_7cf53 2 = .ok (.if_icmp .gt 7, 3) := by decide +kernel
theorem dJ9_min_7cf53_5 : decode cJ9_min_7cf53 5 = .ok (.iload_n 0, 1) := by decide +kernel
theorem dJ9_min_7cf53_6 : decode cJ9_min_7cf53 6 = .ok (.goto 4, 3) := by decide +kernel
theorem dJ9_min_7cf53_9 : decode cJ9_min_7cf53 9 = .ok (.iload_n 1, 1) := by decide +kernel
theorem dJ9_min_7cf53_10 : decode cJ9_min_7cf53 10 = .ok (.ireturn, 1) := by decide +kernel
theorem dL_append_0 : decode cL_append 0 = .ok (.aload_n 2, 1) := by decide +kernel
theorem dL_append_1 : decode cL_append 1 = .ok (.iconst 0, 1) := by decide +kernel
theorem dL_append_2 : decode cL_append 2 = .ok (.aload_n 0, 1) := by decide +kernel
theorem dL_append_3 : decode cL_append 3 = .ok (.iload_n 1, 1) := by decide +kernel
theorem dL_append_4 : decode cL_append 4 = .ok (.invokevirtual 7, 3) := by decide +kernel
theorem dL_append_7 : decode cL_append 7 = .ok (.i2l, 1) := by decide +kernel
theorem dL_append_8 : decode cL_append 8 = .ok (.lastore, 1) := by decide +kernel
theorem dL_append_9 : decode cL_append 9 = .ok (.goto 9, 3) := by decide +kernel
theorem dL_append_12 : decode cL_append 12 = .ok (.astore_n 3, 1) := by decide +kernel
theorem dL_append_13 : decode cL_append 13 = .ok (.iconst 1, 1) := by decide +kernel
theorem dL_append_14 : decode cL_append 14 = .ok (.ireturn, 1) := by decide +kernel
theorem dL_append_15 : decode cL_append 15 = .ok (.astore_n 3, 1) := by decide +kernel
theorem dL_append_16 : decode cL_append 16 = .ok (.iconst 2, 1) := by decide +kernel
theorem dL_append_17 : decode cL_append 17 = .ok (.ireturn, 1) := by decide +kernel
theorem dL_append_18 : decode cL_append 18 = .ok (.iconst 0, 1) := by decide +kernel
theorem dL_append_19 : decode cL_append 19 = .ok (.ireturn, 1) := by decide +kernel
theorem dL_about_0 : decode cL_about 0 = .ok (.aload_n 2, 1) := by decide +kernel
theorem dL_about_1 : decode cL_about 1 = .ok (.iconst 0, 1) := by decide +kernel
theorem dL_about_2 : decode cL_about 2 = .ok (.aload_n 0, 1) := by decide +kernel
theorem dL_about_3 : decode cL_about 3 = .ok (.iload_n 1, 1) := by decide +kernel
theorem dL_about_4 : decode cL_about 4 = .ok (.invokevirtual 17, 3) := by decide +kernel
theorem dL_about_7 : decode cL_about 7 = .ok (.i2l, 1) := by decide +kernel
theorem dL_about_8 : decode cL_about 8 = .ok (.lastore, 1) := by decide +kernel
theorem dL_about_9 : decode cL_about 9 = .ok (.goto 6, 3) := by decide +kernel
theorem dL_about_12 : decode cL_about 12 = .ok (.astore_n 3, 1) := by decide +kernel
theorem dL_about_13 : decode cL_about 13 = .ok (.iconst 1, 1) := by decide +kernel
theorem dL_about_14 : decode cL_about 14 = .ok (.ireturn, 1) := by decide +kernel
theorem dL_about_15 : decode cL_about 15 = .ok (.iconst 0, 1) := by decide +kernel
theorem dL_about_16 : decode cL_about 16 = .ok (.ireturn, 1) := by decide +kernel
theorem dL_at_0 : decode cL_at 0 = .ok (.aload_n 2, 1) := by decide +kernel
theorem dL_at_1 : decode cL_at 1 = .ok (.iconst 0, 1) := by decide +kernel
theorem dL_at_2 : decode cL_at 2 = .ok (.aload_n 0, 1) := by decide +kernel
theorem dL_at_3 : decode cL_at 3 = .ok (.iload_n 1, 1) := by decide +kernel
theorem dL_at_4 : decode cL_at 4 = .ok (.invokevirtual 20, 3) := by decide +kernel
theorem dL_at_7 : decode cL_at 7 = .ok (.i2l, 1) := by decide +kernel
theorem dL_at_8 : decode cL_at 8 = .ok (.lastore, 1) := by decide +kernel
theorem dL_at_9 : decode cL_at 9 = .ok (.goto 6, 3) := by decide +kernel
theorem dL_at_12 : decode cL_at 12 = .ok (.astore_n 3, 1) := by decide +kernel
theorem dL_at_13 : decode cL_at 13 = .ok (.iconst 1, 1) := by decide +kernel
theorem dL_at_14 : decode cL_at 14 = .ok (.ireturn, 1) := by decide +kernel
theorem dL_at_15 : decode cL_at 15 = .ok (.iconst 0, 1) := by decide +kernel
theorem dL_at_16 : decode cL_at 16 = .ok (.ireturn, 1) := by decide +kernel
theorem dL_page_0 : decode cL_page 0 = .ok (.aload_n 3, 1) := by decide +kernel
theorem dL_page_1 : decode cL_page 1 = .ok (.iconst 0, 1) := by decide +kernel
theorem dL_page_2 : decode cL_page 2 = .ok (.aload_n 0, 1) := by decide +kernel
theorem dL_page_3 : decode cL_page 3 = .ok (.iload_n 1, 1) := by decide +kernel
theorem dL_page_4 : decode cL_page 4 = .ok (.iload_n 2, 1) := by decide +kernel
theorem dL_page_5 : decode cL_page 5 = .ok (.invokevirtual 25, 3) := by decide +kernel
theorem dL_page_8 : decode cL_page 8 = .ok (.i2l, 1) := by decide +kernel
theorem dL_page_9 : decode cL_page 9 = .ok (.lastore, 1) := by decide +kernel
theorem dL_page_10 : decode cL_page 10 = .ok (.goto 11, 3) := by decide +kernel
theorem dL_page_13 : decode cL_page 13 = .ok (.astore 4, 2) := by decide +kernel
theorem dL_page_15 : decode cL_page 15 = .ok (.iconst 1, 1) := by decide +kernel
theorem dL_page_16 : decode cL_page 16 = .ok (.ireturn, 1) := by decide +kernel
