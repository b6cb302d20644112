theorem dX10_findShortest_51 : decode cX10_findShortest 51 = .ok (.iload 4, 2) := by decide +kernel
theorem dX10_findShortest_53 : decode cX10_findShortest 53 = .ok (.invokevirtual 78, 3) := by decide +kernel
theorem dX10_findShortest_56 : decode cX10_findShortest 56 = .ok (.iinc 2 1, 3) := by decide +kernel
theorem dX10_findShortest_59 : decode cX10_findShortest 59 = .ok (.goto (-55), 3) := by decide +kernel
theorem dX10_findShortest_62 : decode cX10_findShortest 62 = .ok (.iload_n 1, 1) := by decide +kernel
theorem dX10_findShortest_63 : decode cX10_findShortest 63 = .ok (.ireturn, 1) := by decide +kernel
set_option maxRecDepth 20000 in
set_option maxRecDepth 100000 in
theorem ggX10_lengthFrom_X8_all : GoodIn wsX10_lengthFrom wsX8_all := goodIn_r _ [8, 9, 30, 31, 32, 33, 34, 35, 36, 37, 38, 39] rfl (by decide +kernel)
set_option maxRecDepth 20000 in
theorem gX10_lengthFrom_X8_all : GoodIn wsX10_lengthFrom (wsV RX10 81 RX8 yX8_all wsX8_all) := goodIn_app (goodIn_of _ (by decide +kernel)) ggX10_lengthFrom_X8_all
set_option maxRecDepth 20000 in
set_option maxRecDepth 100000 in
theorem ggX10_lengthFrom_X10_peckersOfSet : GoodIn wsX10_lengthFrom wsX10_peckersOfSet := goodIn_r _ [14, 1, 15, 16, 17, 18, 19, 20, 21, 22, 23, 24, 25, 26, 27, 28, 29, 30, 31, 32, 33, 34, 35, 36, 37, 38, 39] rfl (by decide +kernel)
set_option maxRecDepth 20000 in
theorem gX10_lengthFrom_X10_peckersOfSet : GoodIn wsX10_lengthFrom (wsV RX10 84 RX10 yX10_peckersOfSet wsX10_peckersOfSet) := goodIn_app (goodIn_of _ (by decide +kernel)) ggX10_lengthFrom_X10_peckersOfSet
theorem dX10_lengthFrom_0 : decode cX10_lengthFrom 0 = .ok (.aload_n 0, 1) := by decide +kernel
theorem dX10_lengthFrom_1 : decode cX10_lengthFrom 1 = .ok (.getfield 36, 3) := by decide +kernel
theorem dX10_lengthFrom_4 : decode cX10_lengthFrom 4 = .ok (.invokevirtual 81, 3) := by decide +kernel
theorem dX10_lengthFrom_7 : decode cX10_lengthFrom 7 = .ok (.iconst 2, 1) := by decide +kernel
theorem dX10_lengthFrom_8 : decode cX10_lengthFrom 8 = .ok (.iload_n 1, 1) := by decide +kernel
theorem dX10_lengthFrom_9 : decode cX10_lengthFrom 9 = .ok (.ishl, 1) := by decide +kernel
theorem dX10_lengthFrom_10 : decode cX10_lengthFrom 10 = .ok (.ineg, 1) := by decide +kernel
theorem dX10_lengthFrom_11 : decode cX10_lengthFrom 11 = .ok (.iand, 1) := by decide +kernel
theorem dX10_lengthFrom_12 : decode cX10_lengthFrom 12 = .ok (.istore_n 3, 1) := by decide +kernel
theorem dX10_lengthFrom_13 : decode cX10_lengthFrom 13 = .ok (.aload_n 0, 1) := by decide +kernel
theorem dX10_lengthFrom_14 : decode cX10_lengthFrom 14 = .ok (.getfield 30, 3) := by decide +kernel
theorem dX10_lengthFrom_17 : decode cX10_lengthFrom 17 = .ok (.iconst 0, 1) := by decide +kernel
theorem dX10_lengthFrom_18 : decode cX10_lengthFrom 18 = .ok (.iconst 1, 1) := by decide +kernel
theorem dX10_lengthFrom_19 : decode cX10_lengthFrom 19 = .ok (.iload_n 1, 1) := by decide +kernel
theorem dX10_lengthFrom_20 : decode cX10_lengthFrom 20 = .ok (.ishl, 1) := by decide +kernel
theorem dX10_lengthFrom_21 : decode cX10_lengthFrom 21 = .ok (.iastore, 1) := by decide +kernel
theorem dX10_lengthFrom_22 : decode cX10_lengthFrom 22 = .ok (.iconst 1, 1) := by decide +kernel
theorem dX10_lengthFrom_23 : decode cX10_lengthFrom 23 = .ok (.istore 4, 2) := by decide +kernel
theorem dX10_lengthFrom_25 : decode cX10_lengthFrom 25 = .ok (.iload 4, 2) := by decide +kernel
theorem dX10_lengthFrom_27 : decode cX10_lengthFrom 27 = .ok (.iconst 1, 1) := by decide +kernel
theorem dX10_lengthFrom_28 : decode cX10_lengthFrom 28 = .ok (.iadd, 1) := by decide +kernel
theorem dX10_lengthFrom_29 : decode cX10_lengthFrom 29 = .ok (.iload_n 2, 1) := by decide +kernel
theorem dX10_lengthFrom_30 : decode cX10_lengthFrom 30 = .ok (.if_icmp .ge 84, 3) := by decide +kernel
theorem dX10_lengthFrom_33 : decode cX10_lengthFrom 33 = .ok (.iload 4, 2) := by decide +kernel
theorem dX10_lengthFrom_35 : decode cX10_lengthFrom 35 = .ok (.bipush 12, 2) := by decide +kernel
theorem dX10_lengthFrom_37 : decode cX10_lengthFrom 37 = .ok (.if_icmp .ge 77, 3) := by decide +kernel
theorem dX10_lengthFrom_40 : decode cX10_lengthFrom 40 = .ok (.aload_n 0, 1) := by decide +kernel
theorem dX10_lengthFrom_41 : decode cX10_lengthFrom 41 = .ok (.getfield 30, 3) := by decide +kernel
theorem dX10_lengthFrom_44 : decode cX10_lengthFrom 44 = .ok (.iload 4, 2) := by decide +kernel
theorem dX10_lengthFrom_46 : decode cX10_lengthFrom 46 = .ok (.aload_n 0, 1) := by decide +kernel
theorem dX10_lengthFrom_47 : decode cX10_lengthFrom 47 = .ok (.aload_n 0, 1) := by decide +kernel
theorem dX10_lengthFrom_48 : decode cX10_lengthFrom 48 = .ok (.getfield 30, 3) := by decide +kernel
theorem dX10_lengthFrom_51 : decode cX10_lengthFrom 51 = .ok (.iload 4, 2) := by decide +kernel
theorem dX10_lengthFrom_53 : decode cX10_lengthFrom 53 = .ok (.iconst 1, 1) := by decide +kernel
theorem dX10_lengthFrom_54 : decode cX10_lengthFrom 54 = .ok (.isub, 1) := by decide +kernel
theorem dX10_lengthFrom_55 : decode cX10_lengthFrom 55 = .ok (.iaload, 1) := by decide +kernel
theorem dX10_lengthFrom_56 : decode cX10_lengthFrom 56 = .ok (.invokevirtual 84, 3) := by decide +kernel
theorem dX10_lengthFrom_59 : decode cX10_lengthFrom 59 = .ok (.iload_n 3, 1) := by decide +kernel
theorem dX10_lengthFrom_60 : decode cX10_lengthFrom 60 = .ok (.iand, 1) := by decide +kernel
theorem dX10_lengthFrom_61 : decode cX10_lengthFrom 61 = .ok (.iastore, 1) := by decide +kernel
theorem dX10_lengthFrom_62 : decode cX10_lengthFrom 62 = .ok (.iload_n 3, 1) := by decide +kernel
theorem dX10_lengthFrom_63 : decode cX10_lengthFrom 63 = .ok (.aload_n 0, 1) := by decide +kernel
theorem dX10_lengthFrom_64 : decode cX10_lengthFrom 64 = .ok (.getfield 30, 3) := by decide +kernel
theorem dX10_lengthFrom_67 : decode cX10_lengthFrom 67 = .ok (.iload 4, 2) := by decide +kernel
theorem dX10_lengthFrom_69 : decode cX10_lengthFrom 69 = .ok (.iaload, 1) := by decide +kernel
theorem dX10_lengthFrom_70 : decode cX10_lengthFrom 70 = .ok (.iconst (-1), 1) := by decide +kernel
theorem dX10_lengthFrom_71 : decode cX10_lengthFrom 71 = .ok (.ixor, 1) := by decide +kernel
theorem dX10_lengthFrom_72 : decode cX10_lengthFrom 72 = .ok (.iand, 1) := by decide +kernel
theorem dX10_lengthFrom_73 : decode cX10_lengthFrom 73 = .ok (.istore_n 3, 1) := by decide +kernel
theorem dX10_lengthFrom_74 : decode cX10_lengthFrom 74 = .ok (.aload_n 0, 1) := by decide +kernel
theorem dX10_lengthFrom_75 : decode cX10_lengthFrom 75 = .ok (.getfield 30, 3) := by decide +kernel
theorem dX10_lengthFrom_78 : decode cX10_lengthFrom 78 = .ok (.iload 4, 2) := by decide +kernel
theorem dX10_lengthFrom_80 : decode cX10_lengthFrom 80 = .ok (.iaload, 1) := by decide +kernel
theorem dX10_lengthFrom_81 : decode cX10_lengthFrom 81 = .ok (.ifCond .ne 5, 3) := by decide +kernel
theorem dX10_lengthFrom_84 : decode cX10_lengthFrom 84 = .ok (.iconst 0, 1) := by decide +kernel
theorem dX10_lengthFrom_85 : decode cX10_lengthFrom 85 = .ok (.ireturn, 1) := by decide +kernel
theorem dX10_lengthFrom_86 : decode cX10_lengthFrom 86 = .ok (.aload_n 0, 1) := by decide +kernel
theorem dX10_lengthFrom_87 : decode cX10_lengthFrom 87 = .ok (.getfield 24, 3) := by decide +kernel
theorem dX10_lengthFrom_90 : decode cX10_lengthFrom 90 = .ok (.iload_n 1, 1) := by decide +kernel
theorem dX10_lengthFrom_91 : decode cX10_lengthFrom 91 = .ok (.iaload, 1) := by decide +kernel
theorem dX10_lengthFrom_92 : decode cX10_lengthFrom 92 = .ok (.aload_n 0, 1) := by decide +kernel
theorem dX10_lengthFrom_93 : decode cX10_lengthFrom 93 = .ok (.getfield 30, 3) := by decide +kernel
theorem dX10_lengthFrom_96 : decode cX10_lengthFrom 96 = .ok (.iload 4, 2) := by decide +kernel
theorem dX10_lengthFrom_98 : decode cX10_lengthFrom 98 = .ok (.iaload, 1) := by decide +kernel
theorem dX10_lengthFrom_99 : decode cX10_lengthFrom 99 = .ok (.iand, 1) := by decide +kernel
theorem dX10_lengthFrom_100 : decode cX10_lengthFrom 100 = .ok (.ifCond .eq 8, 3) := by decide +kernel
theorem dX10_lengthFrom_103 : decode cX10_lengthFrom 103 = .ok (.iload 4, 2) := by decide +kernel
theorem dX10_lengthFrom_105 : decode cX10_lengthFrom 105 = .ok (.iconst 1, 1) := by decide +kernel
theorem dX10_lengthFrom_106 : decode cX10_lengthFrom 106 = .ok (.iadd, 1) := by decide +kernel
theorem dX10_lengthFrom_107 : decode cX10_lengthFrom 107 = .ok (.ireturn, 1) := by decide +kernel
theorem dX10_lengthFrom_108 : decode cX10_lengthFrom 108 = .ok (.iinc 4 1, 3) := by decide +kernel
theorem dX10_lengthFrom_111 : decode cX10_lengthFrom 111 = .ok (.goto (-86), 3) := by decide +kernel
theorem dX10_lengthFrom_114 : decode cX10_lengthFrom 114 = .ok (.iconst 0, 1) := by decide +kernel
theorem dX10_lengthFrom_115 : decode cX10_lengthFrom 115 = .ok (.ireturn, 1) := by decide +kernel
set_option maxRecDepth 20000 in
set_option maxRecDepth 100000 in
theorem ggX10_peckersOfSet_X11_isIn : GoodIn wsX10_peckersOfSet wsX11_isIn := goodIn_r _ [6] rfl (by decide +kernel)
set_option maxRecDepth 20000 in
theorem gX10_peckersOfSet_X11_isIn_n87 : GoodIn wsX10_peckersOfSet (wsX11_isIn) := ggX10_peckersOfSet_X11_isIn
theorem dX10_peckersOfSet_0 : decode cX10_peckersOfSet 0 = .ok (.iconst 0, 1) := by decide +kernel
theorem dX10_peckersOfSet_1 : decode cX10_peckersOfSet 1 = .ok (.istore_n 2, 1) := by decide +kernel
theorem dX10_peckersOfSet_2 : decode cX10_peckersOfSet 2 = .ok (.iconst 0, 1) := by decide +kernel
theorem dX10_peckersOfSet_3 : decode cX10_peckersOfSet 3 = .ok (.istore_n 3, 1) := by decide +kernel
theorem dX10_peckersOfSet_4 : decode cX10_peckersOfSet 4 = .ok (.iload_n 3, 1) := by decide +kernel
theorem dX10_peckersOfSet_5 : decode cX10_peckersOfSet 5 = .ok (.aload_n 0, 1) := by decide +kernel
theorem dX10_peckersOfSet_6 : decode cX10_peckersOfSet 6 = .ok (.getfield 36, 3) := by decide +kernel
theorem dX10_peckersOfSet_9 : decode cX10_peckersOfSet 9 = .ok (.getfield 70, 3) := by decide +kernel
theorem dX10_peckersOfSet_12 : decode cX10_peckersOfSet 12 = .ok (.if_icmp .ge 26, 3) := by decide +kernel
theorem dX10_peckersOfSet_15 : decode cX10_peckersOfSet 15 = .ok (.iload_n 1, 1) := by decide +kernel
theorem dX10_peckersOfSet_16 : decode cX10_peckersOfSet 16 = .ok (.iload_n 3, 1) := by decide +kernel
theorem dX10_peckersOfSet_17 : decode cX10_peckersOfSet 17 = .ok (.invokestatic 87, 3) := by decide +kernel
theorem dX10_peckersOfSet_20 : decode cX10_peckersOfSet 20 = .ok (.ifCond .eq 12, 3) := by decide +kernel
theorem dX10_peckersOfSet_23 : decode cX10_peckersOfSet 23 = .ok (.iload_n 2, 1) := by decide +kernel
theorem dX10_peckersOfSet_24 : decode cX10_peckersOfSet 24 = .ok (.aload_n 0, 1) := by decide +kernel
theorem dX10_peckersOfSet_25 : decode cX10_peckersOfSet 25 = .ok (.getfield 27, 3) := by decide +kernel
theorem dX10_peckersOfSet_28 : decode cX10_peckersOfSet 28 = .ok (.iload_n 3, 1) := by decide +kernel
theorem dX10_peckersOfSet_29 : decode cX10_peckersOfSet 29 = .ok (.iaload, 1) := by decide +kernel
theorem dX10_peckersOfSet_30 : decode cX10_peckersOfSet 30 = .ok (.ior, 1) := by decide +kernel
theorem dX10_peckersOfSet_31 : decode cX10_peckersOfSet 31 = .ok (.istore_n 2, 1) := by decide +kernel
theorem dX10_peckersOfSet_32 : decode cX10_peckersOfSet 32 = .ok (.iinc 3 1, 3) := by decide +kernel
theorem dX10_peckersOfSet_35 : decode cX10_peckersOfSet 35 = .ok (.goto (-31), 3) := by decide +kernel
theorem dX10_peckersOfSet_38 : decode cX10_peckersOfSet 38 = .ok (.iload_n 2, 1) := by decide +kernel
theorem dX10_peckersOfSet_39 : decode cX10_peckersOfSet 39 = .ok (.ireturn, 1) := by decide +kernel
set_option maxRecDepth 20000 in
set_option maxRecDepth 100000 in
theorem ggX10_trace_X10_leastOf : GoodIn wsX10_trace wsX10_leastOf := goodIn_r _ [7, 8, 9, 10, 11, 12, 13, 14] rfl (by decide +kernel)
set_option maxRecDepth 20000 in
theorem gX10_trace_X10_leastOf : GoodIn wsX10_trace (va_wsS RX10 91 yX10_leastOf wsX10_leastOf) := goodIn_app (goodIn_of _ (by decide +kernel)) ggX10_trace_X10_leastOf
theorem dX10_trace_0 : decode cX10_trace 0 = .ok (.aload_n 0, 1) := by decide +kernel
theorem dX10_trace_1 : decode cX10_trace 1 = .ok (.getfield 33, 3) := by decide +kernel
theorem dX10_trace_4 : decode cX10_trace 4 = .ok (.iconst 0, 1) := by decide +kernel
theorem dX10_trace_5 : decode cX10_trace 5 = .ok (.iload_n 1, 1) := by decide +kernel
theorem dX10_trace_6 : decode cX10_trace 6 = .ok (.iastore, 1) := by decide +kernel
theorem dX10_trace_7 : decode cX10_trace 7 = .ok (.iconst 1, 1) := by decide +kernel
theorem dX10_trace_8 : decode cX10_trace 8 = .ok (.istore_n 3, 1) := by decide +kernel
theorem dX10_trace_9 : decode cX10_trace 9 = .ok (.iload_n 3, 1) := by decide +kernel
theorem dX10_trace_10 : decode cX10_trace 10 = .ok (.iload_n 2, 1) := by decide +kernel
theorem dX10_trace_11 : decode cX10_trace 11 = .ok (.if_icmp .ge 44, 3) := by decide +kernel
theorem dX10_trace_14 : decode cX10_trace 14 = .ok (.aload_n 0, 1) := by decide +kernel
theorem dX10_trace_15 : decode cX10_trace 15 = .ok (.getfield 24, 3) := by decide +kernel
theorem dX10_trace_18 : decode cX10_trace 18 = .ok (.aload_n 0, 1) := by decide +kernel
theorem dX10_trace_19 : decode cX10_trace 19 = .ok (.getfield 33, 3) := by decide +kernel
theorem dX10_trace_22 : decode cX10_trace 22 = .ok (.iload_n 3, 1) := by decide +kernel
theorem dX10_trace_23 : decode cX10_trace 23 = .ok (.iconst 1, 1) := by decide +kernel
theorem dX10_trace_24 : decode cX10_trace 24 = .ok (.isub, 1) := by decide +kernel
theorem dX10_trace_25 : decode cX10_trace 25 = .ok (.iaload, 1) := by decide +kernel
theorem dX10_trace_26 : decode cX10_trace 26 = .ok (.iaload, 1) := by decide +kernel
theorem dX10_trace_27 : decode cX10_trace 27 = .ok (.aload_n 0, 1) := by decide +kernel
theorem dX10_trace_28 : decode cX10_trace 28 = .ok (.getfield 30, 3) := by decide +kernel
theorem dX10_trace_31 : decode cX10_trace 31 = .ok (.iload_n 2, 1) := by decide +kernel
theorem dX10_trace_32 : decode cX10_trace 32 = .ok (.iload_n 3, 1) := by decide +kernel
theorem dX10_trace_33 : decode cX10_trace 33 = .ok (.isub, 1) := by decide +kernel
theorem dX10_trace_34 : decode cX10_trace 34 = .ok (.iaload, 1) := by decide +kernel
theorem dX10_trace_35 : decode cX10_trace 35 = .ok (.iand, 1) := by decide +kernel
theorem dX10_trace_36 : decode cX10_trace 36 = .ok (.istore 4, 2) := by decide +kernel
theorem dX10_trace_38 : decode cX10_trace 38 = .ok (.aload_n 0, 1) := by decide +kernel
theorem dX10_trace_39 : decode cX10_trace 39 = .ok (.getfield 33, 3) := by decide +kernel
theorem dX10_trace_42 : decode cX10_trace 42 = .ok (.iload_n 3, 1) := by decide +kernel
theorem dX10_trace_43 : decode cX10_trace 43 = .ok (.iload 4, 2) := by decide +kernel
theorem dX10_trace_45 : decode cX10_trace 45 = .ok (.invokestatic 91, 3) := by decide +kernel
theorem dX10_trace_48 : decode cX10_trace 48 = .ok (.iastore, 1) := by decide +kernel
theorem dX10_trace_49 : decode cX10_trace 49 = .ok (.iinc 3 1, 3) := by decide +kernel
theorem dX10_trace_52 : decode cX10_trace 52 = .ok (.goto (-43), 3) := by decide +kernel
theorem dX10_trace_55 : decode cX10_trace 55 = .ok (.return_, 1) := by decide +kernel
set_option maxRecDepth 20000 in
set_option maxRecDepth 100000 in
theorem ggX10_leastOf_J6_bitCount_0f7a4 : GoodIn wsX10_leastOf wsJ6_bitCount_0f7a4 := goodIn_r _ [4, 5, 6, 7] rfl (by decide +kernel)
set_option maxRecDepth 20000 in
theorem gX10_leastOf_J6_bitCount_0f7a4 : GoodIn wsX10_leastOf (va_wsS RX10 94 yJ6_bitCount_0f7a4 wsJ6_bitCount_0f7a4) := goodIn_app (goodIn_of _ (by decide +kernel)) ggX10_leastOf_J6_bitCount_0f7a4
theorem dX10_leastOf_0 : decode cX10_leastOf 0 = .ok (.iload_n 0, 1) := by decide +kernel
theorem dX10_leastOf_1 : decode cX10_leastOf 1 = .ok (.ifCond .ne 7, 3) := by decide +kernel
theorem dX10_leastOf_4 : decode cX10_leastOf 4 = .ok (.iconst 0, 1) := by decide +kernel
theorem dX10_leastOf_5 : decode cX10_leastOf 5 = .ok (.goto 12, 3) := by decide +kernel
theorem dX10_leastOf_8 : decode cX10_leastOf 8 = .ok (.iload_n 0, 1) := by decide +kernel
theorem dX10_leastOf_9 : decode cX10_leastOf 9 = .ok (.iload_n 0, 1) := by decide +kernel
theorem dX10_leastOf_10 : decode cX10_leastOf 10 = .ok (.ineg, 1) := by decide +kernel
theorem dX10_leastOf_11 : decode cX10_leastOf 11 = .ok (.iand, 1) := by decide +kernel
theorem dX10_leastOf_12 : decode cX10_leastOf 12 = .ok (.iconst 1, 1) := by decide +kernel
theorem dX10_leastOf_13 : decode cX10_leastOf 13 = .ok (.isub, 1) := by decide +kernel
theorem dX10_leastOf_14 : decode cX10_leastOf 14 = .ok (.invokestatic 94, 3) := by decide +kernel
theorem dX10_leastOf_17 : decode cX10_leastOf 17 = .ok (.ireturn, 1) := by decide +kernel
set_option maxRecDepth 20000 in
set_option maxRecDepth 100000 in
theorem ggX10_useUp_X10_foundPeck : GoodIn wsX10_useUp wsX10_foundPeck := goodIn_r _ [13, 14, 15, 16, 17, 18, 19, 20, 21, 22, 23, 24] rfl (by decide +kernel)
set_option maxRecDepth 20000 in
theorem gX10_useUp_X10_foundPeck : GoodIn wsX10_useUp (wsV RX10 100 RX10 yX10_foundPeck wsX10_foundPeck) := goodIn_app (goodIn_of _ (by decide +kernel)) ggX10_useUp_X10_foundPeck
theorem dX10_useUp_0 : decode cX10_useUp 0 = .ok (.ldc 99, 2) := by decide +kernel
theorem dX10_useUp_2 : decode cX10_useUp 2 = .ok (.istore_n 2, 1) := by decide +kernel
theorem dX10_useUp_3 : decode cX10_useUp 3 = .ok (.iconst 0, 1) := by decide +kernel
theorem dX10_useUp_4 : decode cX10_useUp 4 = .ok (.istore_n 3, 1) := by decide +kernel
theorem dX10_useUp_5 : decode cX10_useUp 5 = .ok (.iload_n 3, 1) := by decide +kernel
theorem dX10_useUp_6 : decode cX10_useUp 6 = .ok (.iload_n 1, 1) := by decide +kernel
theorem dX10_useUp_7 : decode cX10_useUp 7 = .ok (.if_icmp .ge 25, 3) := by decide +kernel
theorem dX10_useUp_10 : decode cX10_useUp 10 = .ok (.iload_n 2, 1) := by decide +kernel
theorem dX10_useUp_11 : decode cX10_useUp 11 = .ok (.aload_n 0, 1) := by decide +kernel
theorem dX10_useUp_12 : decode cX10_useUp 12 = .ok (.getfield 21, 3) := by decide +kernel
theorem dX10_useUp_15 : decode cX10_useUp 15 = .ok (.aload_n 0, 1) := by decide +kernel
theorem dX10_useUp_16 : decode cX10_useUp 16 = .ok (.iload_n 3, 1) := by decide +kernel
theorem dX10_useUp_17 : decode cX10_useUp 17 = .ok (.iload_n 1, 1) := by decide +kernel
theorem dX10_useUp_18 : decode cX10_useUp 18 = .ok (.invokevirtual 100, 3) := by decide +kernel
theorem dX10_useUp_21 : decode cX10_useUp 21 = .ok (.iaload, 1) := by decide +kernel
theorem dX10_useUp_22 : decode cX10_useUp 22 = .ok (.invokestatic 103, 3) := by decide +kernel
theorem dX10_useUp_25 : decode cX10_useUp 25 = .ok (.istore_n 2, 1) := by decide +kernel
theorem dX10_useUp_26 : decode cX10_useUp 26 = .ok (.iinc 3 1, 3) := by decide +kernel
theorem dX10_useUp_29 : decode cX10_useUp 29 = .ok (.goto (-24), 3) := by decide +kernel
theorem dX10_useUp_32 : decode cX10_useUp 32 = .ok (.iconst 0, 1) := by decide +kernel
theorem dX10_useUp_33 : decode cX10_useUp 33 = .ok (.istore_n 3, 1) := by decide +kernel
theorem dX10_useUp_34 : decode cX10_useUp 34 = .ok (.iload_n 3, 1) := by decide +kernel
theorem dX10_useUp_35 : decode cX10_useUp 35 = .ok (.iload_n 1, 1) := by decide +kernel
theorem dX10_useUp_36 : decode cX10_useUp 36 = .ok (.if_icmp .ge 82, 3) := by decide +kernel
theorem dX10_useUp_39 : decode cX10_useUp 39 = .ok (.aload_n 0, 1) := by decide +kernel
theorem dX10_useUp_40 : decode cX10_useUp 40 = .ok (.iload_n 3, 1) := by decide +kernel
theorem dX10_useUp_41 : decode cX10_useUp 41 = .ok (.iload_n 1, 1) := by decide +kernel
theorem dX10_useUp_42 : decode cX10_useUp 42 = .ok (.invokevirtual 100, 3) := by decide +kernel
theorem dX10_useUp_45 : decode cX10_useUp 45 = .ok (.istore 4, 2) := by decide +kernel
theorem dX10_useUp_47 : decode cX10_useUp 47 = .ok (.aload_n 0, 1) := by decide +kernel
theorem dX10_useUp_48 : decode cX10_useUp 48 = .ok (.getfield 21, 3) := by decide +kernel
theorem dX10_useUp_51 : decode cX10_useUp 51 = .ok (.iload 4, 2) := by decide +kernel
theorem dX10_useUp_53 : decode cX10_useUp 53 = .ok (.dup2, 1) := by decide +kernel
theorem dX10_useUp_54 : decode cX10_useUp 54 = .ok (.iaload, 1) := by decide +kernel
theorem dX10_useUp_55 : decode cX10_useUp 55 = .ok (.iload_n 2, 1) := by decide +kernel
theorem dX10_useUp_56 : decode cX10_useUp 56 = .ok (.isub, 1) := by decide +kernel
theorem dX10_useUp_57 : decode cX10_useUp 57 = .ok (.iastore, 1) := by decide +kernel
theorem dX10_useUp_58 : decode cX10_useUp 58 = .ok (.aload_n 0, 1) := by decide +kernel
theorem dX10_useUp_59 : decode cX10_useUp 59 = .ok (.getfield 21, 3) := by decide +kernel
theorem dX10_useUp_62 : decode cX10_useUp 62 = .ok (.iload 4, 2) := by decide +kernel
theorem dX10_useUp_64 : decode cX10_useUp 64 = .ok (.iaload, 1) := by decide +kernel
theorem dX10_useUp_65 : decode cX10_useUp 65 = .ok (.ifCond .ne 47, 3) := by decide +kernel
theorem dX10_useUp_68 : decode cX10_useUp 68 = .ok (.aload_n 0, 1) := by decide +kernel
theorem dX10_useUp_69 : decode cX10_useUp 69 = .ok (.getfield 24, 3) := by decide +kernel
theorem dX10_useUp_72 : decode cX10_useUp 72 = .ok (.iload 4, 2) := by decide +kernel
theorem dX10_useUp_74 : decode cX10_useUp 74 = .ok (.bipush 12, 2) := by decide +kernel
theorem dX10_useUp_76 : decode cX10_useUp 76 = .ok (.idiv, 1) := by decide +kernel
theorem dX10_useUp_77 : decode cX10_useUp 77 = .ok (.dup2, 1) := by decide +kernel
theorem dX10_useUp_78 : decode cX10_useUp 78 = .ok (.iaload, 1) := by decide +kernel
theorem dX10_useUp_79 : decode cX10_useUp 79 = .ok (.iconst 1, 1) := by decide +kernel
theorem dX10_useUp_80 : decode cX10_useUp 80 = .ok (.iload 4, 2) := by decide +kernel
theorem dX10_useUp_82 : decode cX10_useUp 82 = .ok (.bipush 12, 2) := by decide +kernel
theorem dX10_useUp_84 : decode cX10_useUp 84 = .ok (.irem, 1) := by decide +kernel
theorem dX10_useUp_85 : decode cX10_useUp 85 = .ok (.ishl, 1) := by decide +kernel
theorem dX10_useUp_86 : decode cX10_useUp 86 = .ok (.iconst (-1), 1) := by decide +kernel
theorem dX10_useUp_87 : decode cX10_useUp 87 = .ok (.ixor, 1) := by decide +kernel
theorem dX10_useUp_88 : decode cX10_useUp 88 = .ok (.iand, 1) := by decide +kernel
theorem dX10_useUp_89 : decode cX10_useUp 89 = .ok (.iastore, 1) := by decide +kernel
theorem dX10_useUp_90 : decode cX10_useUp 90 = .ok (.aload_n 0, 1) := by decide +kernel
theorem dX10_useUp_91 : decode cX10_useUp 91 = .ok (.getfield 27, 3) := by decide +kernel
theorem dX10_useUp_94 : decode cX10_useUp 94 = .ok (.iload 4, 2) := by decide +kernel
theorem dX10_useUp_96 : decode cX10_useUp 96 = .ok (.bipush 12, 2) := by decide +kernel
theorem dX10_useUp_98 : decode cX10_useUp 98 = .ok (.irem, 1) := by decide +kernel
theorem dX10_useUp_99 : decode cX10_useUp 99 = .ok (.dup2, 1) := by decide +kernel
theorem dX10_useUp_100 : decode cX10_useUp 100 = .ok (.iaload, 1) := by decide +kernel
theorem dX10_useUp_101 : decode cX10_useUp 101 = .ok (.iconst 1, 1) := by decide +kernel
theorem dX10_useUp_102 : decode cX10_useUp 102 = .ok (.iload 4, 2) := by decide +kernel
theorem dX10_useUp_104 : decode cX10_useUp 104 = .ok (.bipush 12, 2) := by decide +kernel
theorem dX10_useUp_106 : decode cX10_useUp 106 = .ok (.idiv, 1) := by decide +kernel
theorem dX10_useUp_107 : decode cX10_useUp 107 = .ok (.ishl, 1) := by decide +kernel
theorem dX10_useUp_108 : decode cX10_useUp 108 = .ok (.iconst (-1), 1) := by decide +kernel
theorem dX10_useUp_109 : decode cX10_useUp 109 = .ok (.ixor, 1) := by decide +kernel
theorem dX10_useUp_110 : decode cX10_useUp 110 = .ok (.iand, 1) := by decide +kernel
theorem dX10_useUp_111 : decode cX10_useUp 111 = .ok (.iastore, 1) := by decide +kernel
theorem dX10_useUp_112 : decode cX10_useUp 112 = .ok (.iinc 3 1, 3) := by decide +kernel
theorem dX10_useUp_115 : decode cX10_useUp 115 = .ok (.goto (-81), 3) := by decide +kernel
theorem dX10_useUp_118 : decode cX10_useUp 118 = .ok (.iload_n 2, 1) := by decide +kernel
theorem dX10_useUp_119 : decode cX10_useUp 119 = .ok (.ireturn, 1) := by decide +kernel
theorem dX10_foundPeck_0 : decode cX10_foundPeck 0 = .ok (.iload_n 1, 1) := by decide +kernel
theorem dX10_foundPeck_1 : decode cX10_foundPeck 1 = .ok (.iconst 1, 1) := by decide +kernel
theorem dX10_foundPeck_2 : decode cX10_foundPeck 2 = .ok (.iadd, 1) := by decide +kernel
theorem dX10_foundPeck_3 : decode cX10_foundPeck 3 = .ok (.iload_n 2, 1) := by decide +kernel
theorem dX10_foundPeck_4 : decode cX10_foundPeck 4 = .ok (.if_icmp .ge 9, 3) := by decide +kernel
theorem dX10_foundPeck_7 : decode cX10_foundPeck 7 = .ok (.iload_n 1, 1) := by decide +kernel
theorem dX10_foundPeck_8 : decode cX10_foundPeck 8 = .ok (.iconst 1, 1) := by decide +kernel
theorem dX10_foundPeck_9 : decode cX10_foundPeck 9 = .ok (.iadd, 1) := by decide +kernel
theorem dX10_foundPeck_10 : decode cX10_foundPeck 10 = .ok (.goto 4, 3) := by decide +kernel
theorem dX10_foundPeck_13 : decode cX10_foundPeck 13 = .ok (.iconst 0, 1) := by decide +kernel
theorem dX10_foundPeck_14 : decode cX10_foundPeck 14 = .ok (.istore_n 3, 1) := by decide +kernel
theorem dX10_foundPeck_15 : decode cX10_foundPeck 15 = .ok (.aload_n 0, 1) := by decide +kernel
theorem dX10_foundPeck_16 : decode cX10_foundPeck 16 = .ok (.getfield 33, 3) := by decide +kernel
theorem dX10_foundPeck_19 : decode cX10_foundPeck 19 = .ok (.iload_n 1, 1) := by decide +kernel
theorem dX10_foundPeck_20 : decode cX10_foundPeck 20 = .ok (.iaload, 1) := by decide +kernel
theorem dX10_foundPeck_21 : decode cX10_foundPeck 21 = .ok (.bipush 12, 2) := by decide +kernel
theorem dX10_foundPeck_23 : decode cX10_foundPeck 23 = .ok (.imul, 1) := by decide +kernel
theorem dX10_foundPeck_24 : decode cX10_foundPeck 24 = .ok (.aload_n 0, 1) := by decide +kernel
theorem dX10_foundPeck_25 : decode cX10_foundPeck 25 = .ok (.getfield 33, 3) := by decide +kernel
theorem dX10_foundPeck_28 : decode cX10_foundPeck 28 = .ok (.iload_n 3, 1) := by decide +kernel
theorem dX10_foundPeck_29 : decode cX10_foundPeck 29 = .ok (.iaload, 1) := by decide +kernel
theorem dX10_foundPeck_30 : decode cX10_foundPeck 30 = .ok (.iadd, 1) := by decide +kernel
theorem dX10_foundPeck_31 : decode cX10_foundPeck 31 = .ok (.ireturn, 1) := by decide +kernel
theorem dX10_keepFound_0 : decode cX10_keepFound 0 = .ok (.aload_n 0, 1) := by decide +kernel
theorem dX10_keepFound_1 : decode cX10_keepFound 1 = .ok (.getfield 11, 3) := by decide +kernel
theorem dX10_keepFound_4 : decode cX10_keepFound 4 = .ok (.aload_n 0, 1) := by decide +kernel
theorem dX10_keepFound_5 : decode cX10_keepFound 5 = .ok (.getfield 48, 3) := by decide +kernel
theorem dX10_keepFound_8 : decode cX10_keepFound 8 = .ok (.iload_n 2, 1) := by decide +kernel
theorem dX10_keepFound_9 : decode cX10_keepFound 9 = .ok (.iastore, 1) := by decide +kernel
theorem dX10_keepFound_10 : decode cX10_keepFound 10 = .ok (.aload_n 0, 1) := by decide +kernel
theorem dX10_keepFound_11 : decode cX10_keepFound 11 = .ok (.getfield 15, 3) := by decide +kernel
theorem dX10_keepFound_14 : decode cX10_keepFound 14 = .ok (.aload_n 0, 1) := by decide +kernel
theorem dX10_keepFound_15 : decode cX10_keepFound 15 = .ok (.getfield 48, 3) := by decide +kernel
theorem dX10_keepFound_18 : decode cX10_keepFound 18 = .ok (.iload_n 1, 1) := by decide +kernel
theorem dX10_keepFound_19 : decode cX10_keepFound 19 = .ok (.iastore, 1) := by decide +kernel
theorem dX10_keepFound_20 : decode cX10_keepFound 20 = .ok (.iconst 0, 1) := by decide +kernel
theorem dX10_keepFound_21 : decode cX10_keepFound 21 = .ok (.istore_n 3, 1) := by decide +kernel
theorem dX10_keepFound_22 : decode cX10_keepFound 22 = .ok (.iload_n 3, 1) := by decide +kernel
theorem dX10_keepFound_23 : decode cX10_keepFound 23 = .ok (.iload_n 1, 1) := by decide +kernel
theorem dX10_keepFound_24 : decode cX10_keepFound 24 = .ok (.if_icmp .ge 37, 3) := by decide +kernel
theorem dX10_keepFound_27 : decode cX10_keepFound 27 = .ok (.aload_n 0, 1) := by decide +kernel
theorem dX10_keepFound_28 : decode cX10_keepFound 28 = .ok (.getfield 18, 3) := by decide +kernel
theorem dX10_keepFound_31 : decode cX10_keepFound 31 = .ok (.aload_n 0, 1) := by decide +kernel
theorem dX10_keepFound_32 : decode cX10_keepFound 32 = .ok (.getfield 48, 3) := by decide +kernel
theorem dX10_keepFound_35 : decode cX10_keepFound 35 = .ok (.bipush 12, 2) := by decide +kernel
theorem dX10_keepFound_37 : decode cX10_keepFound 37 = .ok (.imul, 1) := by decide +kernel
theorem dX10_keepFound_38 : decode cX10_keepFound 38 = .ok (.iload_n 3, 1) := by decide +kernel
theorem dX10_keepFound_39 : decode cX10_keepFound 39 = .ok (.iadd, 1) := by decide +kernel
theorem dX10_keepFound_40 : decode cX10_keepFound 40 = .ok (.aload_n 0, 1) := by decide +kernel
theorem dX10_keepFound_41 : decode cX10_keepFound 41 = .ok (.getfield 36, 3) := by decide +kernel
theorem dX10_keepFound_44 : decode cX10_keepFound 44 = .ok (.getfield 108, 3) := by decide +kernel
theorem dX10_keepFound_47 : decode cX10_keepFound 47 = .ok (.aload_n 0, 1) := by decide +kernel
theorem dX10_keepFound_48 : decode cX10_keepFound 48 = .ok (.getfield 33, 3) := by decide +kernel
theorem dX10_keepFound_51 : decode cX10_keepFound 51 = .ok (.iload_n 3, 1) := by decide +kernel
theorem dX10_keepFound_52 : decode cX10_keepFound 52 = .ok (.iaload, 1) := by decide +kernel
theorem dX10_keepFound_53 : decode cX10_keepFound 53 = .ok (.iaload, 1) := by decide +kernel
theorem dX10_keepFound_54 : decode cX10_keepFound 54 = .ok (.iastore, 1) := by decide +kernel
theorem dX10_keepFound_55 : decode cX10_keepFound 55 = .ok (.iinc 3 1, 3) := by decide +kernel
theorem dX10_keepFound_58 : decode cX10_keepFound 58 = .ok (.goto (-36), 3) := by decide +kernel
theorem dX10_keepFound_61 : decode cX10_keepFound 61 = .ok (.aload_n 0, 1) := by decide +kernel
theorem dX10_keepFound_62 : decode cX10_keepFound 62 = .ok (.dup, 1) := by decide +kernel
theorem dX10_keepFound_63 : decode cX10_keepFound 63 = .ok (.getfield 48, 3) := by decide +kernel
theorem dX10_keepFound_66 : decode cX10_keepFound 66 = .ok (.iconst 1, 1) := by decide +kernel
theorem dX10_keepFound_67 : decode cX10_keepFound 67 = .ok (.iadd, 1) := by decide +kernel
theorem dX10_keepFound_68 : decode cX10_keepFound 68 = .ok (.putfield 48, 3) := by decide +kernel
theorem dX10_keepFound_71 : decode cX10_keepFound 71 = .ok (.return_, 1) := by decide +kernel
theorem dX10_tell_0 : decode cX10_tell 0 = .ok (.iload_n 2, 1) := by decide +kernel
theorem dX10_tell_1 : decode cX10_tell 1 = .ok (.ifCond .ne 11, 3) := by decide +kernel
theorem dX10_tell_4 : decode cX10_tell 4 = .ok (.aload_n 0, 1) := by decide +kernel
theorem dX10_tell_5 : decode cX10_tell 5 = .ok (.getfield 11, 3) := by decide +kernel
theorem dX10_tell_8 : decode cX10_tell 8 = .ok (.iload_n 1, 1) := by decide +kernel
theorem dX10_tell_9 : decode cX10_tell 9 = .ok (.iaload, 1) := by decide +kernel
theorem dX10_tell_10 : decode cX10_tell 10 = .ok (.i2l, 1) := by decide +kernel
theorem dX10_tell_11 : decode cX10_tell 11 = .ok (.lreturn, 1) := by decide +kernel
theorem dX10_tell_12 : decode cX10_tell 12 = .ok (.iload_n 2, 1) := by decide +kernel
theorem dX10_tell_13 : decode cX10_tell 13 = .ok (.iconst 1, 1) := by decide +kernel
theorem dX10_tell_14 : decode cX10_tell 14 = .ok (.if_icmp .ne 11, 3) := by decide +kernel
theorem dX10_tell_17 : decode cX10_tell 17 = .ok (.aload_n 0, 1) := by decide +kernel
theorem dX10_tell_18 : decode cX10_tell 18 = .ok (.getfield 15, 3) := by decide +kernel
theorem dX10_tell_21 : decode cX10_tell 21 = .ok (.iload_n 1, 1) := by decide +kernel
theorem dX10_tell_22 : decode cX10_tell 22 = .ok (.iaload, 1) := by decide +kernel
theorem dX10_tell_23 : decode cX10_tell 23 = .ok (.i2l, 1) := by decide +kernel
theorem dX10_tell_24 : decode cX10_tell 24 = .ok (.lreturn, 1) := by decide +kernel
theorem dX10_tell_25 : decode cX10_tell 25 = .ok (.iload_n 2, 1) := by decide +kernel
theorem dX10_tell_26 : decode cX10_tell 26 = .ok (.iconst 2, 1) := by decide +kernel
theorem dX10_tell_27 : decode cX10_tell 27 = .ok (.isub, 1) := by decide +kernel
theorem dX10_tell_28 : decode cX10_tell 28 = .ok (.aload_n 0, 1) := by decide +kernel
theorem dX10_tell_29 : decode cX10_tell 29 = .ok (.getfield 15, 3) := by decide +kernel
theorem dX10_tell_32 : decode cX10_tell 32 = .ok (.iload_n 1, 1) := by decide +kernel
theorem dX10_tell_33 : decode cX10_tell 33 = .ok (.iaload, 1) := by decide +kernel
theorem dX10_tell_34 : decode cX10_tell 34 = .ok (.if_icmp .ge 20, 3) := by decide +kernel
theorem dX10_tell_37 : decode cX10_tell 37 = .ok (.aload_n 0, 1) := by decide +kernel
theorem dX10_tell_38 : decode cX10_tell 38 = .ok (.getfield 18, 3) := by decide +kernel
theorem dX10_tell_41 : decode cX10_tell 41 = .ok (.iload_n 1, 1) := by decide +kernel
theorem dX10_tell_42 : decode cX10_tell 42 = .ok (.bipush 12, 2) := by decide +kernel
theorem dX10_tell_44 : decode cX10_tell 44 = .ok (.imul, 1) := by decide +kernel
theorem dX10_tell_45 : decode cX10_tell 45 = .ok (.iload_n 2, 1) := by decide +kernel
theorem dX10_tell_46 : decode cX10_tell 46 = .ok (.iadd, 1) := by decide +kernel
theorem dX10_tell_47 : decode cX10_tell 47 = .ok (.iconst 2, 1) := by decide +kernel
theorem dX10_tell_48 : decode cX10_tell 48 = .ok (.isub, 1) := by decide +kernel
theorem dX10_tell_49 : decode cX10_tell 49 = .ok (.iaload, 1) := by decide +kernel
theorem dX10_tell_50 : decode cX10_tell 50 = .ok (.i2l, 1) := by decide +kernel
theorem dX10_tell_51 : decode cX10_tell 51 = .ok (.goto 6, 3) := by decide +kernel
theorem dX10_tell_54 : decode cX10_tell 54 = .ok (.ldc2_w 111, 3) := by decide +kernel
theorem dX10_tell_57 : decode cX10_tell 57 = .ok (.lreturn, 1) := by decide +kernel
set_option maxRecDepth 20000 in
set_option maxRecDepth 100000 in
theorem ggX11_init_X2_init : GoodIn wsX11_init wsX2_init := goodIn_r _ [41, 42, 2, 3, 43, 44, 45, 46, 47, 48, 144, 145, 146, 147, 148, 149, 150] rfl (by decide +kernel)
set_option maxRecDepth 20000 in
theorem gX11_init_X2_init_n9 : GoodIn wsX11_init (wsX2_init) := ggX11_init_X2_init
set_option maxRecDepth 20000 in
set_option maxRecDepth 100000 in
theorem ggX11_init_X1_init : GoodIn wsX11_init wsX1_init := goodIn_r _ [51, 52, 2, 3, 53, 54, 55, 56, 57, 58, 59, 43, 60, 160, 161, 162, 208, 209, 210, 211, 212, 213] rfl (by decide +kernel)
set_option maxRecDepth 20000 in
theorem gX11_init_X1_init : GoodIn wsX11_init (wsX1_init) := ggX11_init_X1_init
set_option maxRecDepth 20000 in
set_option maxRecDepth 100000 in
theorem ggX11_init_X8_init : GoodIn wsX11_init wsX8_init := goodIn_r _ [63, 64, 2, 3, 65, 43, 66, 67, 68, 69, 70, 71, 72, 73, 163, 164, 165, 166, 167, 168, 169, 170, 171, 172] rfl (by decide +kernel)
set_option maxRecDepth 20000 in
theorem gX11_init_X8_init : GoodIn wsX11_init (wsX8_init) := ggX11_init_X8_init
set_option maxRecDepth 20000 in
set_option maxRecDepth 100000 in
theorem ggX11_init_X9_init : GoodIn wsX11_init wsX9_init := goodIn_r _ [76, 77, 2, 3, 78, 79, 80, 43, 81, 82, 83, 84, 85, 86, 87, 88, 89, 90, 91, 92, 93, 94, 95, 96, 97, 98, 99, 100, 101, 102, 103, 173, 174, 175, 176, 177, 178, 179, 180, 181, 182, 183, 214, 215, 216, 217, 218, 219, 220, 221] rfl (by decide +kernel)
set_option maxRecDepth 20000 in
theorem gX11_init_X9_init : GoodIn wsX11_init (wsX9_init) := ggX11_init_X9_init
set_option maxRecDepth 20000 in
set_option maxRecDepth 100000 in
theorem ggX11_init_X5_init : GoodIn wsX11_init wsX5_init := goodIn_r _ [105, 106, 2, 3, 43, 107, 184, 185] rfl (by decide +kernel)
set_option maxRecDepth 20000 in
theorem gX11_init_X5_init_n43 : GoodIn wsX11_init (wsX5_init) := ggX11_init_X5_init
set_option maxRecDepth 20000 in
set_option maxRecDepth 100000 in
theorem ggX11_init_X7_init : GoodIn wsX11_init wsX7_init := goodIn_r _ [110, 111, 2, 3, 43, 112, 113, 114, 115, 186, 187, 188, 189] rfl (by decide +kernel)
set_option maxRecDepth 20000 in
theorem gX11_init_X7_init : GoodIn wsX11_init (wsX7_init) := ggX11_init_X7_init
set_option maxRecDepth 20000 in
set_option maxRecDepth 100000 in
theorem ggX11_init_X3_init : GoodIn wsX11_init wsX3_init := goodIn_r _ [118, 119, 2, 3, 120, 43, 121, 122, 123, 190, 191, 192, 193, 194] rfl (by decide +kernel)
set_option maxRecDepth 20000 in
theorem gX11_init_X3_init : GoodIn wsX11_init (wsX3_init) := ggX11_init_X3_init
set_option maxRecDepth 20000 in
set_option maxRecDepth 100000 in
theorem ggX11_init_X10_init : GoodIn wsX11_init wsX10_init := goodIn_r _ [126, 127, 2, 3, 43, 128, 129, 130, 131, 132, 133, 134, 135, 136, 195, 196, 197, 198, 199, 200, 201, 202, 203, 204] rfl (by decide +kernel)
set_option maxRecDepth 20000 in
theorem gX11_init_X10_init : GoodIn wsX11_init (wsX10_init) := ggX11_init_X10_init
set_option maxRecDepth 20000 in
set_option maxRecDepth 100000 in
theorem ggX11_init_X6_init : GoodIn wsX11_init wsX6_init := goodIn_r _ [139, 140, 2, 3, 43, 141, 142, 143, 205, 206, 207] rfl (by decide +kernel)
set_option maxRecDepth 20000 in
theorem gX11_init_X6_init : GoodIn wsX11_init (wsX6_init) := ggX11_init_X6_init
theorem dX11_init_0 : decode cX11_init 0 = .ok (.aload_n 0, 1) := by decide +kernel
theorem dX11_init_1 : decode cX11_init 1 = .ok (.invokespecial 1, 3) := by decide +kernel
theorem dX11_init_4 : decode cX11_init 4 = .ok (.aload_n 0, 1) := by decide +kernel
theorem dX11_init_5 : decode cX11_init 5 = .ok (.new 7, 3) := by decide +kernel
theorem dX11_init_8 : decode cX11_init 8 = .ok (.dup, 1) := by decide +kernel
theorem dX11_init_9 : decode cX11_init 9 = .ok (.invokespecial 9, 3) := by decide +kernel
theorem dX11_init_12 : decode cX11_init 12 = .ok (.putfield 10, 3) := by decide +kernel
theorem dX11_init_15 : decode cX11_init 15 = .ok (.aload_n 0, 1) := by decide +kernel
theorem dX11_init_16 : decode cX11_init 16 = .ok (.new 16, 3) := by decide +kernel
theorem dX11_init_19 : decode cX11_init 19 = .ok (.dup, 1) := by decide +kernel
theorem dX11_init_20 : decode cX11_init 20 = .ok (.invokespecial 18, 3) := by decide +kernel
theorem dX11_init_23 : decode cX11_init 23 = .ok (.putfield 19, 3) := by decide +kernel
theorem dX11_init_26 : decode cX11_init 26 = .ok (.aload_n 0, 1) := by decide +kernel
theorem dX11_init_27 : decode cX11_init 27 = .ok (.new 23, 3) := by decide +kernel
theorem dX11_init_30 : decode cX11_init 30 = .ok (.dup, 1) := by decide +kernel
theorem dX11_init_31 : decode cX11_init 31 = .ok (.aload_n 0, 1) := by decide +kernel
theorem dX11_init_32 : decode cX11_init 32 = .ok (.getfield 10, 3) := by decide +kernel
theorem dX11_init_35 : decode cX11_init 35 = .ok (.invokespecial 25, 3) := by decide +kernel
theorem dX11_init_38 : decode cX11_init 38 = .ok (.putfield 28, 3) := by decide +kernel
theorem dX11_init_41 : decode cX11_init 41 = .ok (.aload_n 0, 1) := by decide +kernel
theorem dX11_init_42 : decode cX11_init 42 = .ok (.new 32, 3) := by decide +kernel
theorem dX11_init_45 : decode cX11_init 45 = .ok (.dup, 1) := by decide +kernel
theorem dX11_init_46 : decode cX11_init 46 = .ok (.aload_n 0, 1) := by decide +kernel
theorem dX11_init_47 : decode cX11_init 47 = .ok (.getfield 28, 3) := by decide +kernel
theorem dX11_init_50 : decode cX11_init 50 = .ok (.invokespecial 34, 3) := by decide +kernel
theorem dX11_init_53 : decode cX11_init 53 = .ok (.putfield 37, 3) := by decide +kernel
theorem dX11_init_56 : decode cX11_init 56 = .ok (.aload_n 0, 1) := by decide +kernel
theorem dX11_init_57 : decode cX11_init 57 = .ok (.new 41, 3) := by decide +kernel
theorem dX11_init_60 : decode cX11_init 60 = .ok (.dup, 1) := by decide +kernel
theorem dX11_init_61 : decode cX11_init 61 = .ok (.invokespecial 43, 3) := by decide +kernel
theorem dX11_init_64 : decode cX11_init 64 = .ok (.putfield 44, 3) := by decide +kernel
theorem dX11_init_67 : decode cX11_init 67 = .ok (.aload_n 0, 1) := by decide +kernel
theorem dX11_init_68 : decode cX11_init 68 = .ok (.new 48, 3) := by decide +kernel
theorem dX11_init_71 : decode cX11_init 71 = .ok (.dup, 1) := by decide +kernel
theorem dX11_init_72 : decode cX11_init 72 = .ok (.aload_n 0, 1) := by decide +kernel
theorem dX11_init_73 : decode cX11_init 73 = .ok (.getfield 28, 3) := by decide +kernel
theorem dX11_init_76 : decode cX11_init 76 = .ok (.invokespecial 50, 3) := by decide +kernel
theorem dX11_init_79 : decode cX11_init 79 = .ok (.putfield 51, 3) := by decide +kernel
theorem dX11_init_82 : decode cX11_init 82 = .ok (.aload_n 0, 1) := by decide +kernel
theorem dX11_init_83 : decode cX11_init 83 = .ok (.new 55, 3) := by decide +kernel
theorem dX11_init_86 : decode cX11_init 86 = .ok (.dup, 1) := by decide +kernel
theorem dX11_init_87 : decode cX11_init 87 = .ok (.aload_n 0, 1) := by decide +kernel
theorem dX11_init_88 : decode cX11_init 88 = .ok (.getfield 28, 3) := by decide +kernel
theorem dX11_init_91 : decode cX11_init 91 = .ok (.invokespecial 57, 3) := by decide +kernel
theorem dX11_init_94 : decode cX11_init 94 = .ok (.putfield 58, 3) := by decide +kernel
theorem dX11_init_97 : decode cX11_init 97 = .ok (.aload_n 0, 1) := by decide +kernel
theorem dX11_init_98 : decode cX11_init 98 = .ok (.new 62, 3) := by decide +kernel
theorem dX11_init_101 : decode cX11_init 101 = .ok (.dup, 1) := by decide +kernel
theorem dX11_init_102 : decode cX11_init 102 = .ok (.aload_n 0, 1) := by decide +kernel
theorem dX11_init_103 : decode cX11_init 103 = .ok (.getfield 28, 3) := by decide +kernel
theorem dX11_init_106 : decode cX11_init 106 = .ok (.invokespecial 64, 3) := by decide +kernel
theorem dX11_init_109 : decode cX11_init 109 = .ok (.putfield 65, 3) := by decide +kernel
theorem dX11_init_112 : decode cX11_init 112 = .ok (.aload_n 0, 1) := by decide +kernel
theorem dX11_init_113 : decode cX11_init 113 = .ok (.new 69, 3) := by decide +kernel
theorem dX11_init_116 : decode cX11_init 116 = .ok (.dup, 1) := by decide +kernel
theorem dX11_init_117 : decode cX11_init 117 = .ok (.aload_n 0, 1) := by decide +kernel
theorem dX11_init_118 : decode cX11_init 118 = .ok (.getfield 28, 3) := by decide +kernel
theorem dX11_init_121 : decode cX11_init 121 = .ok (.invokespecial 71, 3) := by decide +kernel
theorem dX11_init_124 : decode cX11_init 124 = .ok (.putfield 72, 3) := by decide +kernel
theorem dX11_init_127 : decode cX11_init 127 = .ok (.return_, 1) := by decide +kernel
set_option maxRecDepth 20000 in
set_option maxRecDepth 100000 in
theorem ggX11_hen_X11_isKind : GoodIn wsX11_hen wsX11_isKind := goodIn_r _ [9] rfl (by decide +kernel)
set_option maxRecDepth 20000 in
theorem gX11_hen_X11_isKind : GoodIn wsX11_hen (va_wsS RX11 76 yX11_isKind wsX11_isKind) := goodIn_app (goodIn_of _ (by decide +kernel)) ggX11_hen_X11_isKind
set_option maxRecDepth 20000 in
set_option maxRecDepth 100000 in
theorem ggX11_hen_X11_mayAskFor : GoodIn wsX11_hen wsX11_mayAskFor := goodIn_r _ [12, 13, 14, 15, 8, 16] rfl (by decide +kernel)
set_option maxRecDepth 20000 in
theorem gX11_hen_X11_mayAskFor : GoodIn wsX11_hen (va_wsS RX11 84 yX11_mayAskFor wsX11_mayAskFor) := goodIn_app (goodIn_of _ (by decide +kernel)) ggX11_hen_X11_mayAskFor
set_option maxRecDepth 20000 in
set_option maxRecDepth 100000 in
theorem ggX11_hen_X1_keepNewHen : GoodIn wsX11_hen wsX1_keepNewHen := goodIn_r _ [21, 22, 23, 24, 25, 26, 27, 20, 28, 29, 30, 31, 32, 33, 34, 66, 67, 68, 69, 70, 71, 72, 73, 74, 59, 60, 61, 62, 63, 64, 65] rfl (by decide +kernel)
set_option maxRecDepth 20000 in
theorem gX11_hen_X1_keepNewHen : GoodIn wsX11_hen (wsV RX11 92 RX1 yX1_keepNewHen wsX1_keepNewHen) := goodIn_app (goodIn_of _ (by decide +kernel)) ggX11_hen_X1_keepNewHen
set_option maxRecDepth 20000 in
set_option maxRecDepth 100000 in
theorem ggX11_hen_X2_addHen : GoodIn wsX11_hen wsX2_addHen := goodIn_r _ [39, 40, 41, 42, 43, 44, 45, 46, 38, 47, 48, 49, 59, 60, 61, 62, 63, 64, 65] rfl (by decide +kernel)
set_option maxRecDepth 20000 in
theorem gX11_hen_X2_addHen : GoodIn wsX11_hen (wsV RX11 95 RX2 yX2_addHen wsX2_addHen) := goodIn_app (goodIn_of _ (by decide +kernel)) ggX11_hen_X2_addHen
theorem dX11_hen_0 : decode cX11_hen 0 = .ok (.iload_n 1, 1) := by decide +kernel
theorem dX11_hen_1 : decode cX11_hen 1 = .ok (.invokestatic 76, 3) := by decide +kernel
theorem dX11_hen_4 : decode cX11_hen 4 = .ok (.ifCond .eq 17, 3) := by decide +kernel
theorem dX11_hen_7 : decode cX11_hen 7 = .ok (.aload_n 0, 1) := by decide +kernel
theorem dX11_hen_8 : decode cX11_hen 8 = .ok (.getfield 10, 3) := by decide +kernel
theorem dX11_hen_11 : decode cX11_hen 11 = .ok (.getfield 80, 3) := by decide +kernel
theorem dX11_hen_14 : decode cX11_hen 14 = .ok (.iload_n 2, 1) := by decide +kernel
theorem dX11_hen_15 : decode cX11_hen 15 = .ok (.invokestatic 84, 3) := by decide +kernel
theorem dX11_hen_18 : decode cX11_hen 18 = .ok (.ifCond .ne 7, 3) := by decide +kernel
theorem dX11_hen_21 : decode cX11_hen 21 = .ok (.ldc2_w 88, 3) := by decide +kernel
theorem dX11_hen_24 : decode cX11_hen 24 = .ok (.lreturn, 1) := by decide +kernel
theorem dX11_hen_25 : decode cX11_hen 25 = .ok (.aload_n 0, 1) := by decide +kernel
theorem dX11_hen_26 : decode cX11_hen 26 = .ok (.getfield 10, 3) := by decide +kernel
theorem dX11_hen_29 : decode cX11_hen 29 = .ok (.getfield 80, 3) := by decide +kernel
theorem dX11_hen_32 : decode cX11_hen 32 = .ok (.bipush 12, 2) := by decide +kernel
theorem dX11_hen_34 : decode cX11_hen 34 = .ok (.if_icmp .lt 7, 3) := by decide +kernel
theorem dX11_hen_37 : decode cX11_hen 37 = .ok (.ldc2_w 90, 3) := by decide +kernel
theorem dX11_hen_40 : decode cX11_hen 40 = .ok (.lreturn, 1) := by decide +kernel
theorem dX11_hen_41 : decode cX11_hen 41 = .ok (.aload_n 0, 1) := by decide +kernel
theorem dX11_hen_42 : decode cX11_hen 42 = .ok (.getfield 19, 3) := by decide +kernel
theorem dX11_hen_45 : decode cX11_hen 45 = .ok (.aload_n 0, 1) := by decide +kernel
theorem dX11_hen_46 : decode cX11_hen 46 = .ok (.getfield 10, 3) := by decide +kernel
theorem dX11_hen_49 : decode cX11_hen 49 = .ok (.invokevirtual 92, 3) := by decide +kernel
theorem dX11_hen_52 : decode cX11_hen 52 = .ok (.aload_n 0, 1) := by decide +kernel
theorem dX11_hen_53 : decode cX11_hen 53 = .ok (.getfield 10, 3) := by decide +kernel
theorem dX11_hen_56 : decode cX11_hen 56 = .ok (.iload_n 1, 1) := by decide +kernel
theorem dX11_hen_57 : decode cX11_hen 57 = .ok (.iload_n 2, 1) := by decide +kernel
theorem dX11_hen_58 : decode cX11_hen 58 = .ok (.invokevirtual 95, 3) := by decide +kernel
theorem dX11_hen_61 : decode cX11_hen 61 = .ok (.aload_n 0, 1) := by decide +kernel
theorem dX11_hen_62 : decode cX11_hen 62 = .ok (.getfield 10, 3) := by decide +kernel
theorem dX11_hen_65 : decode cX11_hen 65 = .ok (.getfield 80, 3) := by decide +kernel
theorem dX11_hen_68 : decode cX11_hen 68 = .ok (.iconst 1, 1) := by decide +kernel
theorem dX11_hen_69 : decode cX11_hen 69 = .ok (.isub, 1) := by decide +kernel
theorem dX11_hen_70 : decode cX11_hen 70 = .ok (.i2l, 1) := by decide +kernel
theorem dX11_hen_71 : decode cX11_hen 71 = .ok (.lreturn, 1) := by decide +kernel
set_option maxRecDepth 20000 in
set_option maxRecDepth 100000 in
theorem ggX11_ask_X2_has : GoodIn wsX11_ask wsX2_has := goodIn_r _ [9, 10, 64, 65, 66, 67, 68, 69, 70] rfl (by decide +kernel)
set_option maxRecDepth 20000 in
theorem gX11_ask_X2_has : GoodIn wsX11_ask (wsV RX11 99 RX2 yX2_has wsX2_has) := goodIn_app (goodIn_of _ (by decide +kernel)) ggX11_ask_X2_has
set_option maxRecDepth 20000 in
set_option maxRecDepth 100000 in
theorem ggX11_ask_X11_mayAskFor : GoodIn wsX11_ask wsX11_mayAskFor := goodIn_r _ [14, 15, 16, 17, 13, 18] rfl (by decide +kernel)
set_option maxRecDepth 20000 in
theorem gX11_ask_X11_mayAskFor : GoodIn wsX11_ask (va_wsS RX11 84 yX11_mayAskFor wsX11_mayAskFor) := goodIn_app (goodIn_of _ (by decide +kernel)) ggX11_ask_X11_mayAskFor
set_option maxRecDepth 20000 in
set_option maxRecDepth 100000 in
theorem ggX11_ask_X1_keepHen : GoodIn wsX11_ask wsX1_keepHen := goodIn_r _ [23, 24, 25, 26, 27, 28, 29, 30, 31, 32, 33, 34, 35, 36, 37, 38, 39, 40, 41, 42, 43, 44, 45, 46, 47, 22, 48, 49, 50, 51, 52, 53, 54, 71, 72, 73, 74, 75, 76, 77, 78, 79, 64, 65, 66, 67, 68, 69, 70] rfl (by decide +kernel)
set_option maxRecDepth 20000 in
theorem gX11_ask_X1_keepHen : GoodIn wsX11_ask (wsV RX11 102 RX1 yX1_keepHen wsX1_keepHen) := goodIn_app (goodIn_of _ (by decide +kernel)) ggX11_ask_X1_keepHen
theorem dX11_ask_0 : decode cX11_ask 0 = .ok (.aload_n 0, 1) := by decide +kernel
theorem dX11_ask_1 : decode cX11_ask 1 = .ok (.getfield 10, 3) := by decide +kernel
theorem dX11_ask_4 : decode cX11_ask 4 = .ok (.iload_n 1, 1) := by decide +kernel
theorem dX11_ask_5 : decode cX11_ask 5 = .ok (.invokevirtual 99, 3) := by decide +kernel
theorem dX11_ask_8 : decode cX11_ask 8 = .ok (.ifCond .eq 11, 3) := by decide +kernel
theorem dX11_ask_11 : decode cX11_ask 11 = .ok (.iload_n 1, 1) := by decide +kernel
theorem dX11_ask_12 : decode cX11_ask 12 = .ok (.iload_n 2, 1) := by decide +kernel
theorem dX11_ask_13 : decode cX11_ask 13 = .ok (.invokestatic 84, 3) := by decide +kernel
theorem dX11_ask_16 : decode cX11_ask 16 = .ok (.ifCond .ne 7, 3) := by decide +kernel
theorem dX11_ask_19 : decode cX11_ask 19 = .ok (.ldc2_w 88, 3) := by decide +kernel
theorem dX11_ask_22 : decode cX11_ask 22 = .ok (.lreturn, 1) := by decide +kernel
theorem dX11_ask_23 : decode cX11_ask 23 = .ok (.aload_n 0, 1) := by decide +kernel
theorem dX11_ask_24 : decode cX11_ask 24 = .ok (.getfield 19, 3) := by decide +kernel
theorem dX11_ask_27 : decode cX11_ask 27 = .ok (.aload_n 0, 1) := by decide +kernel
theorem dX11_ask_28 : decode cX11_ask 28 = .ok (.getfield 10, 3) := by decide +kernel
theorem dX11_ask_31 : decode cX11_ask 31 = .ok (.iload_n 1, 1) := by decide +kernel
theorem dX11_ask_32 : decode cX11_ask 32 = .ok (.invokevirtual 102, 3) := by decide +kernel
theorem dX11_ask_35 : decode cX11_ask 35 = .ok (.aload_n 0, 1) := by decide +kernel
theorem dX11_ask_36 : decode cX11_ask 36 = .ok (.getfield 10, 3) := by decide +kernel
theorem dX11_ask_39 : decode cX11_ask 39 = .ok (.getfield 106, 3) := by decide +kernel
theorem dX11_ask_42 : decode cX11_ask 42 = .ok (.iload_n 1, 1) := by decide +kernel
theorem dX11_ask_43 : decode cX11_ask 43 = .ok (.iaload, 1) := by decide +kernel
theorem dX11_ask_44 : decode cX11_ask 44 = .ok (.i2l, 1) := by decide +kernel
theorem dX11_ask_45 : decode cX11_ask 45 = .ok (.lstore_n 3, 1) := by decide +kernel
theorem dX11_ask_46 : decode cX11_ask 46 = .ok (.aload_n 0, 1) := by decide +kernel
theorem dX11_ask_47 : decode cX11_ask 47 = .ok (.getfield 10, 3) := by decide +kernel
theorem dX11_ask_50 : decode cX11_ask 50 = .ok (.getfield 106, 3) := by decide +kernel
theorem dX11_ask_53 : decode cX11_ask 53 = .ok (.iload_n 1, 1) := by decide +kernel
theorem dX11_ask_54 : decode cX11_ask 54 = .ok (.iload_n 2, 1) := by decide +kernel
theorem dX11_ask_55 : decode cX11_ask 55 = .ok (.iastore, 1) := by decide +kernel
theorem dX11_ask_56 : decode cX11_ask 56 = .ok (.lload_n 3, 1) := by decide +kernel
theorem dX11_ask_57 : decode cX11_ask 57 = .ok (.lreturn, 1) := by decide +kernel
set_option maxRecDepth 20000 in
set_option maxRecDepth 100000 in
theorem ggX11_take_X2_has : GoodIn wsX11_take wsX2_has := goodIn_r _ [11, 12, 58, 59, 60, 61, 62, 63, 64] rfl (by decide +kernel)
set_option maxRecDepth 20000 in
theorem gX11_take_X2_has : GoodIn wsX11_take (wsV RX11 99 RX2 yX2_has wsX2_has) := goodIn_app (goodIn_of _ (by decide +kernel)) ggX11_take_X2_has
set_option maxRecDepth 20000 in
set_option maxRecDepth 100000 in
theorem ggX11_take_X1_keepHen : GoodIn wsX11_take wsX1_keepHen := goodIn_r _ [17, 18, 19, 20, 21, 22, 23, 24, 25, 26, 27, 28, 29, 30, 31, 32, 33, 34, 35, 36, 37, 38, 39, 40, 41, 16, 42, 43, 44, 45, 46, 47, 48, 65, 66, 67, 68, 69, 70, 71, 72, 73, 58, 59, 60, 61, 62, 63, 64] rfl (by decide +kernel)
set_option maxRecDepth 20000 in
theorem gX11_take_X1_keepHen : GoodIn wsX11_take (wsV RX11 102 RX1 yX1_keepHen wsX1_keepHen) := goodIn_app (goodIn_of _ (by decide +kernel)) ggX11_take_X1_keepHen
theorem dX11_take_0 : decode cX11_take 0 = .ok (.aload_n 0, 1) := by decide +kernel
theorem dX11_take_1 : decode cX11_take 1 = .ok (.getfield 10, 3) := by decide +kernel
theorem dX11_take_4 : decode cX11_take 4 = .ok (.iload_n 1, 1) := by decide +kernel
theorem dX11_take_5 : decode cX11_take 5 = .ok (.invokevirtual 99, 3) := by decide +kernel
theorem dX11_take_8 : decode cX11_take 8 = .ok (.ifCond .eq 12, 3) := by decide +kernel
theorem dX11_take_11 : decode cX11_take 11 = .ok (.iload_n 2, 1) := by decide +kernel
theorem dX11_take_12 : decode cX11_take 12 = .ok (.ifCond .lt 8, 3) := by decide +kernel
theorem dX11_take_15 : decode cX11_take 15 = .ok (.iload_n 2, 1) := by decide +kernel
theorem dX11_take_16 : decode cX11_take 16 = .ok (.iconst 1, 1) := by decide +kernel
theorem dX11_take_17 : decode cX11_take 17 = .ok (.if_icmp .le 7, 3) := by decide +kernel
theorem dX11_take_20 : decode cX11_take 20 = .ok (.ldc2_w 88, 3) := by decide +kernel
theorem dX11_take_23 : decode cX11_take 23 = .ok (.lreturn, 1) := by decide +kernel
theorem dX11_take_24 : decode cX11_take 24 = .ok (.aload_n 0, 1) := by decide +kernel
theorem dX11_take_25 : decode cX11_take 25 = .ok (.getfield 10, 3) := by decide +kernel
theorem dX11_take_28 : decode cX11_take 28 = .ok (.getfield 110, 3) := by decide +kernel
theorem dX11_take_31 : decode cX11_take 31 = .ok (.iload_n 1, 1) := by decide +kernel
theorem dX11_take_32 : decode cX11_take 32 = .ok (.iaload, 1) := by decide +kernel
theorem dX11_take_33 : decode cX11_take 33 = .ok (.iconst 4, 1) := by decide +kernel
theorem dX11_take_34 : decode cX11_take 34 = .ok (.if_icmp .eq 7, 3) := by decide +kernel
theorem dX11_take_37 : decode cX11_take 37 = .ok (.ldc2_w 113, 3) := by decide +kernel
theorem dX11_take_40 : decode cX11_take 40 = .ok (.lreturn, 1) := by decide +kernel
theorem dX11_take_41 : decode cX11_take 41 = .ok (.aload_n 0, 1) := by decide +kernel
theorem dX11_take_42 : decode cX11_take 42 = .ok (.getfield 19, 3) := by decide +kernel
theorem dX11_take_45 : decode cX11_take 45 = .ok (.aload_n 0, 1) := by decide +kernel
theorem dX11_take_46 : decode cX11_take 46 = .ok (.getfield 10, 3) := by decide +kernel
theorem dX11_take_49 : decode cX11_take 49 = .ok (.iload_n 1, 1) := by decide +kernel
theorem dX11_take_50 : decode cX11_take 50 = .ok (.invokevirtual 102, 3) := by decide +kernel
theorem dX11_take_53 : decode cX11_take 53 = .ok (.aload_n 0, 1) := by decide +kernel
theorem dX11_take_54 : decode cX11_take 54 = .ok (.getfield 10, 3) := by decide +kernel
theorem dX11_take_57 : decode cX11_take 57 = .ok (.getfield 115, 3) := by decide +kernel
theorem dX11_take_60 : decode cX11_take 60 = .ok (.iload_n 1, 1) := by decide +kernel
theorem dX11_take_61 : decode cX11_take 61 = .ok (.iaload, 1) := by decide +kernel
theorem dX11_take_62 : decode cX11_take 62 = .ok (.i2l, 1) := by decide +kernel
theorem dX11_take_63 : decode cX11_take 63 = .ok (.lstore_n 3, 1) := by decide +kernel
theorem dX11_take_64 : decode cX11_take 64 = .ok (.aload_n 0, 1) := by decide +kernel
theorem dX11_take_65 : decode cX11_take 65 = .ok (.getfield 10, 3) := by decide +kernel
theorem dX11_take_68 : decode cX11_take 68 = .ok (.getfield 115, 3) := by decide +kernel
theorem dX11_take_71 : decode cX11_take 71 = .ok (.iload_n 1, 1) := by decide +kernel
theorem dX11_take_72 : decode cX11_take 72 = .ok (.iload_n 2, 1) := by decide +kernel
theorem dX11_take_73 : decode cX11_take 73 = .ok (.iastore, 1) := by decide +kernel
theorem dX11_take_74 : decode cX11_take 74 = .ok (.lload_n 3, 1) := by decide +kernel
theorem dX11_take_75 : decode cX11_take 75 = .ok (.lreturn, 1) := by decide +kernel
set_option maxRecDepth 20000 in
set_option maxRecDepth 100000 in
theorem ggX11_pen_X2_has : GoodIn wsX11_pen wsX2_has := goodIn_r _ [9, 10, 62, 63, 64, 65, 66, 67, 68] rfl (by decide +kernel)
set_option maxRecDepth 20000 in
theorem gX11_pen_X2_has : GoodIn wsX11_pen (wsV RX11 99 RX2 yX2_has wsX2_has) := goodIn_app (goodIn_of _ (by decide +kernel)) ggX11_pen_X2_has
set_option maxRecDepth 20000 in
set_option maxRecDepth 100000 in
theorem ggX11_pen_X1_keepHen : GoodIn wsX11_pen wsX1_keepHen := goodIn_r _ [15, 16, 17, 18, 19, 20, 21, 22, 23, 24, 25, 26, 27, 28, 29, 30, 31, 32, 33, 34, 35, 36, 37, 38, 39, 14, 40, 41, 42, 43, 44, 45, 46, 69, 70, 71, 72, 73, 74, 75, 76, 77, 62, 63, 64, 65, 66, 67, 68] rfl (by decide +kernel)
set_option maxRecDepth 20000 in
theorem gX11_pen_X1_keepHen : GoodIn wsX11_pen (wsV RX11 102 RX1 yX1_keepHen wsX1_keepHen) := goodIn_app (goodIn_of _ (by decide +kernel)) ggX11_pen_X1_keepHen
set_option maxRecDepth 20000 in
set_option maxRecDepth 100000 in
theorem ggX11_pen_X2_renewPen : GoodIn wsX11_pen wsX2_renewPen := goodIn_r _ [50, 51, 52, 62, 63, 64, 65, 66, 67, 68] rfl (by decide +kernel)
set_option maxRecDepth 20000 in
theorem gX11_pen_X2_renewPen : GoodIn wsX11_pen (wsV RX11 121 RX2 yX2_renewPen wsX2_renewPen) := goodIn_app (goodIn_of _ (by decide +kernel)) ggX11_pen_X2_renewPen
theorem dX11_pen_0 : decode cX11_pen 0 = .ok (.aload_n 0, 1) := by decide +kernel
theorem dX11_pen_1 : decode cX11_pen 1 = .ok (.getfield 10, 3) := by decide +kernel
theorem dX11_pen_4 : decode cX11_pen 4 = .ok (.iload_n 1, 1) := by decide +kernel
theorem dX11_pen_5 : decode cX11_pen 5 = .ok (.invokevirtual 99, 3) := by decide +kernel
theorem dX11_pen_8 : decode cX11_pen 8 = .ok (.ifCond .eq 15, 3) := by decide +kernel
theorem dX11_pen_11 : decode cX11_pen 11 = .ok (.iload_n 2, 1) := by decide +kernel
theorem dX11_pen_12 : decode cX11_pen 12 = .ok (.ifCond .lt 11, 3) := by decide +kernel
theorem dX11_pen_15 : decode cX11_pen 15 = .ok (.iload_n 2, 1) := by decide +kernel
theorem dX11_pen_16 : decode cX11_pen 16 = .ok (.getstatic 118, 3) := by decide +kernel
theorem dX11_pen_19 : decode cX11_pen 19 = .ok (.arraylength, 1) := by decide +kernel
theorem dX11_pen_20 : decode cX11_pen 20 = .ok (.if_icmp .lt 7, 3) := by decide +kernel
theorem dX11_pen_23 : decode cX11_pen 23 = .ok (.ldc2_w 88, 3) := by decide +kernel
theorem dX11_pen_26 : decode cX11_pen 26 = .ok (.lreturn, 1) := by decide +kernel
theorem dX11_pen_27 : decode cX11_pen 27 = .ok (.aload_n 0, 1) := by decide +kernel
theorem dX11_pen_28 : decode cX11_pen 28 = .ok (.getfield 19, 3) := by decide +kernel
theorem dX11_pen_31 : decode cX11_pen 31 = .ok (.aload_n 0, 1) := by decide +kernel
theorem dX11_pen_32 : decode cX11_pen 32 = .ok (.getfield 10, 3) := by decide +kernel
theorem dX11_pen_35 : decode cX11_pen 35 = .ok (.iload_n 1, 1) := by decide +kernel
theorem dX11_pen_36 : decode cX11_pen 36 = .ok (.invokevirtual 102, 3) := by decide +kernel
theorem dX11_pen_39 : decode cX11_pen 39 = .ok (.aload_n 0, 1) := by decide +kernel
theorem dX11_pen_40 : decode cX11_pen 40 = .ok (.getfield 10, 3) := by decide +kernel
theorem dX11_pen_43 : decode cX11_pen 43 = .ok (.iload_n 1, 1) := by decide +kernel
theorem dX11_pen_44 : decode cX11_pen 44 = .ok (.iload_n 2, 1) := by decide +kernel
theorem dX11_pen_45 : decode cX11_pen 45 = .ok (.invokevirtual 121, 3) := by decide +kernel
theorem dX11_pen_48 : decode cX11_pen 48 = .ok (.lconst 0, 1) := by decide +kernel
theorem dX11_pen_49 : decode cX11_pen 49 = .ok (.lreturn, 1) := by decide +kernel
set_option maxRecDepth 20000 in
set_option maxRecDepth 100000 in
theorem ggX11_peck_X2_has : GoodIn wsX11_peck wsX2_has := goodIn_r _ [11, 12, 68, 69, 70, 71, 72, 73, 74] rfl (by decide +kernel)
set_option maxRecDepth 20000 in
theorem gX11_peck_X2_has : GoodIn wsX11_peck (wsV RX11 99 RX2 yX2_has wsX2_has) := goodIn_app (goodIn_of _ (by decide +kernel)) ggX11_peck_X2_has
set_option maxRecDepth 20000 in
set_option maxRecDepth 100000 in
theorem ggX11_peck_X11_isOther : GoodIn wsX11_peck wsX11_isOther := goodIn_r _ [16] rfl (by decide +kernel)
set_option maxRecDepth 20000 in
theorem gX11_peck_X11_isOther : GoodIn wsX11_peck (va_wsS RX11 124 yX11_isOther wsX11_isOther) := goodIn_app (goodIn_of _ (by decide +kernel)) ggX11_peck_X11_isOther
set_option maxRecDepth 20000 in
set_option maxRecDepth 100000 in
theorem ggX11_peck_X2_mostWeight : GoodIn wsX11_peck wsX2_mostWeight := goodIn_r _ [20, 21, 22, 68, 69, 70, 71, 72, 73, 74] rfl (by decide +kernel)
set_option maxRecDepth 20000 in
theorem gX11_peck_X2_mostWeight : GoodIn wsX11_peck (wsV RX11 127 RX2 yX2_mostWeight wsX2_mostWeight) := goodIn_app (goodIn_of _ (by decide +kernel)) ggX11_peck_X2_mostWeight
set_option maxRecDepth 20000 in
set_option maxRecDepth 100000 in
theorem ggX11_peck_X1_keepHen : GoodIn wsX11_peck wsX1_keepHen := goodIn_r _ [27, 28, 29, 30, 31, 32, 33, 34, 35, 36, 37, 38, 39, 40, 41, 42, 43, 44, 45, 46, 47, 48, 49, 50, 51, 26, 52, 53, 54, 55, 56, 57, 58, 75, 76, 77, 78, 79, 80, 81, 82, 83, 68, 69, 70, 71, 72, 73, 74] rfl (by decide +kernel)
set_option maxRecDepth 20000 in
theorem gX11_peck_X1_keepHen : GoodIn wsX11_peck (wsV RX11 102 RX1 yX1_keepHen wsX1_keepHen) := goodIn_app (goodIn_of _ (by decide +kernel)) ggX11_peck_X1_keepHen
theorem dX11_peck_0 : decode cX11_peck 0 = .ok (.aload_n 0, 1) := by decide +kernel
theorem dX11_peck_1 : decode cX11_peck 1 = .ok (.getfield 10, 3) := by decide +kernel
theorem dX11_peck_4 : decode cX11_peck 4 = .ok (.iload_n 1, 1) := by decide +kernel
theorem dX11_peck_5 : decode cX11_peck 5 = .ok (.invokevirtual 99, 3) := by decide +kernel
theorem dX11_peck_8 : decode cX11_peck 8 = .ok (.ifCond .eq 31, 3) := by decide +kernel
theorem dX11_peck_11 : decode cX11_peck 11 = .ok (.iload_n 1, 1) := by decide +kernel
theorem dX11_peck_12 : decode cX11_peck 12 = .ok (.iload_n 2, 1) := by decide +kernel
theorem dX11_peck_13 : decode cX11_peck 13 = .ok (.invokestatic 124, 3) := by decide +kernel
theorem dX11_peck_16 : decode cX11_peck 16 = .ok (.ifCond .eq 23, 3) := by decide +kernel
theorem dX11_peck_19 : decode cX11_peck 19 = .ok (.lload_n 3, 1) := by decide +kernel
theorem dX11_peck_20 : decode cX11_peck 20 = .ok (.lconst 0, 1) := by decide +kernel
theorem dX11_peck_21 : decode cX11_peck 21 = .ok (.lcmp, 1) := by decide +kernel
theorem dX11_peck_22 : decode cX11_peck 22 = .ok (.ifCond .lt 17, 3) := by decide +kernel
theorem dX11_peck_25 : decode cX11_peck 25 = .ok (.lload_n 3, 1) := by decide +kernel
theorem dX11_peck_26 : decode cX11_peck 26 = .ok (.aload_n 0, 1) := by decide +kernel
theorem dX11_peck_27 : decode cX11_peck 27 = .ok (.getfield 10, 3) := by decide +kernel
theorem dX11_peck_30 : decode cX11_peck 30 = .ok (.iload_n 1, 1) := by decide +kernel
theorem dX11_peck_31 : decode cX11_peck 31 = .ok (.invokevirtual 127, 3) := by decide +kernel
theorem dX11_peck_34 : decode cX11_peck 34 = .ok (.i2l, 1) := by decide +kernel
theorem dX11_peck_35 : decode cX11_peck 35 = .ok (.lcmp, 1) := by decide +kernel
theorem dX11_peck_36 : decode cX11_peck 36 = .ok (.ifCond .le 7, 3) := by decide +kernel
theorem dX11_peck_39 : decode cX11_peck 39 = .ok (.ldc2_w 88, 3) := by decide +kernel
theorem dX11_peck_42 : decode cX11_peck 42 = .ok (.lreturn, 1) := by decide +kernel
theorem dX11_peck_43 : decode cX11_peck 43 = .ok (.aload_n 0, 1) := by decide +kernel
theorem dX11_peck_44 : decode cX11_peck 44 = .ok (.getfield 10, 3) := by decide +kernel
theorem dX11_peck_47 : decode cX11_peck 47 = .ok (.getfield 131, 3) := by decide +kernel
theorem dX11_peck_50 : decode cX11_peck 50 = .ok (.iload_n 1, 1) := by decide +kernel
theorem dX11_peck_51 : decode cX11_peck 51 = .ok (.iaload, 1) := by decide +kernel
theorem dX11_peck_52 : decode cX11_peck 52 = .ok (.iconst (-1), 1) := by decide +kernel
theorem dX11_peck_53 : decode cX11_peck 53 = .ok (.if_icmp .ne 7, 3) := by decide +kernel
theorem dX11_peck_56 : decode cX11_peck 56 = .ok (.ldc2_w 113, 3) := by decide +kernel
theorem dX11_peck_59 : decode cX11_peck 59 = .ok (.lreturn, 1) := by decide +kernel
theorem dX11_peck_60 : decode cX11_peck 60 = .ok (.aload_n 0, 1) := by decide +kernel
theorem dX11_peck_61 : decode cX11_peck 61 = .ok (.getfield 19, 3) := by decide +kernel
theorem dX11_peck_64 : decode cX11_peck 64 = .ok (.aload_n 0, 1) := by decide +kernel
theorem dX11_peck_65 : decode cX11_peck 65 = .ok (.getfield 10, 3) := by decide +kernel
theorem dX11_peck_68 : decode cX11_peck 68 = .ok (.iload_n 1, 1) := by decide +kernel
theorem dX11_peck_69 : decode cX11_peck 69 = .ok (.invokevirtual 102, 3) := by decide +kernel
theorem dX11_peck_72 : decode cX11_peck 72 = .ok (.aload_n 0, 1) := by decide +kernel
theorem dX11_peck_73 : decode cX11_peck 73 = .ok (.getfield 10, 3) := by decide +kernel
theorem dX11_peck_76 : decode cX11_peck 76 = .ok (.getfield 134, 3) := by decide +kernel
theorem dX11_peck_79 : decode cX11_peck 79 = .ok (.iload_n 1, 1) := by decide +kernel
theorem dX11_peck_80 : decode cX11_peck 80 = .ok (.bipush 12, 2) := by decide +kernel
theorem dX11_peck_82 : decode cX11_peck 82 = .ok (.imul, 1) := by decide +kernel
theorem dX11_peck_83 : decode cX11_peck 83 = .ok (.iload_n 2, 1) := by decide +kernel
theorem dX11_peck_84 : decode cX11_peck 84 = .ok (.iadd, 1) := by decide +kernel
theorem dX11_peck_85 : decode cX11_peck 85 = .ok (.iaload, 1) := by decide +kernel
theorem dX11_peck_86 : decode cX11_peck 86 = .ok (.i2l, 1) := by decide +kernel
theorem dX11_peck_87 : decode cX11_peck 87 = .ok (.lstore 5, 2) := by decide +kernel
theorem dX11_peck_89 : decode cX11_peck 89 = .ok (.aload_n 0, 1) := by decide +kernel
theorem dX11_peck_90 : decode cX11_peck 90 = .ok (.getfield 10, 3) := by decide +kernel
theorem dX11_peck_93 : decode cX11_peck 93 = .ok (.getfield 134, 3) := by decide +kernel
theorem dX11_peck_96 : decode cX11_peck 96 = .ok (.iload_n 1, 1) := by decide +kernel
theorem dX11_peck_97 : decode cX11_peck 97 = .ok (.bipush 12, 2) := by decide +kernel
theorem dX11_peck_99 : decode cX11_peck 99 = .ok (.imul, 1) := by decide +kernel
theorem dX11_peck_100 : decode cX11_peck 100 = .ok (.iload_n 2, 1) := by decide +kernel
theorem dX11_peck_101 : decode cX11_peck 101 = .ok (.iadd, 1) := by decide +kernel
theorem dX11_peck_102 : decode cX11_peck 102 = .ok (.lload_n 3, 1) := by decide +kernel
theorem dX11_peck_103 : decode cX11_peck 103 = .ok (.l2i, 1) := by decide +kernel
theorem dX11_peck_104 : decode cX11_peck 104 = .ok (.iastore, 1) := by decide +kernel
theorem dX11_peck_105 : decode cX11_peck 105 = .ok (.lload 5, 2) := by decide +kernel
theorem dX11_peck_107 : decode cX11_peck 107 = .ok (.lreturn, 1) := by decide +kernel
set_option maxRecDepth 20000 in
set_option maxRecDepth 100000 in
theorem ggX11_leave_X2_has : GoodIn wsX11_leave wsX2_has := goodIn_r _ [10, 11, 63, 64, 65, 66, 67, 68, 69] rfl (by decide +kernel)
set_option maxRecDepth 20000 in
theorem gX11_leave_X2_has : GoodIn wsX11_leave (wsV RX11 99 RX2 yX2_has wsX2_has) := goodIn_app (goodIn_of _ (by decide +kernel)) ggX11_leave_X2_has
set_option maxRecDepth 20000 in
set_option maxRecDepth 100000 in
theorem ggX11_leave_X1_keepHen : GoodIn wsX11_leave wsX1_keepHen := goodIn_r _ [16, 17, 18, 19, 20, 21, 22, 23, 24, 25, 26, 27, 28, 29, 30, 31, 32, 33, 34, 35, 36, 37, 38, 39, 40, 15, 41, 42, 43, 44, 45, 46, 47, 70, 71, 72, 73, 74, 75, 76, 77, 78, 63, 64, 65, 66, 67, 68, 69] rfl (by decide +kernel)
set_option maxRecDepth 20000 in
theorem gX11_leave_X1_keepHen : GoodIn wsX11_leave (wsV RX11 102 RX1 yX1_keepHen wsX1_keepHen) := goodIn_app (goodIn_of _ (by decide +kernel)) ggX11_leave_X1_keepHen
set_option maxRecDepth 20000 in
set_option maxRecDepth 100000 in
theorem ggX11_leave_X2_renewPen : GoodIn wsX11_leave wsX2_renewPen := goodIn_r _ [51, 52, 53, 63, 64, 65, 66, 67, 68, 69] rfl (by decide +kernel)
set_option maxRecDepth 20000 in
theorem gX11_leave_X2_renewPen : GoodIn wsX11_leave (wsV RX11 121 RX2 yX2_renewPen wsX2_renewPen) := goodIn_app (goodIn_of _ (by decide +kernel)) ggX11_leave_X2_renewPen
theorem dX11_leave_0 : decode cX11_leave 0 = .ok (.aload_n 0, 1) := by decide +kernel
theorem dX11_leave_1 : decode cX11_leave 1 = .ok (.getfield 10, 3) := by decide +kernel
theorem dX11_leave_4 : decode cX11_leave 4 = .ok (.iload_n 1, 1) := by decide +kernel
theorem dX11_leave_5 : decode cX11_leave 5 = .ok (.invokevirtual 99, 3) := by decide +kernel
theorem dX11_leave_8 : decode cX11_leave 8 = .ok (.ifCond .ne 7, 3) := by decide +kernel
theorem dX11_leave_11 : decode cX11_leave 11 = .ok (.ldc2_w 88, 3) := by decide +kernel
theorem dX11_leave_14 : decode cX11_leave 14 = .ok (.lreturn, 1) := by decide +kernel
theorem dX11_leave_15 : decode cX11_leave 15 = .ok (.aload_n 0, 1) := by decide +kernel
theorem dX11_leave_16 : decode cX11_leave 16 = .ok (.getfield 10, 3) := by decide +kernel
theorem dX11_leave_19 : decode cX11_leave 19 = .ok (.getfield 131, 3) := by decide +kernel
theorem dX11_leave_22 : decode cX11_leave 22 = .ok (.iload_n 1, 1) := by decide +kernel
theorem dX11_leave_23 : decode cX11_leave 23 = .ok (.iaload, 1) := by decide +kernel
theorem dX11_leave_24 : decode cX11_leave 24 = .ok (.iconst (-1), 1) := by decide +kernel
theorem dX11_leave_25 : decode cX11_leave 25 = .ok (.if_icmp .ne 7, 3) := by decide +kernel
theorem dX11_leave_28 : decode cX11_leave 28 = .ok (.ldc2_w 113, 3) := by decide +kernel
theorem dX11_leave_31 : decode cX11_leave 31 = .ok (.lreturn, 1) := by decide +kernel
theorem dX11_leave_32 : decode cX11_leave 32 = .ok (.aload_n 0, 1) := by decide +kernel
theorem dX11_leave_33 : decode cX11_leave 33 = .ok (.getfield 19, 3) := by decide +kernel
theorem dX11_leave_36 : decode cX11_leave 36 = .ok (.aload_n 0, 1) := by decide +kernel
theorem dX11_leave_37 : decode cX11_leave 37 = .ok (.getfield 10, 3) := by decide +kernel
theorem dX11_leave_40 : decode cX11_leave 40 = .ok (.iload_n 1, 1) := by decide +kernel
theorem dX11_leave_41 : decode cX11_leave 41 = .ok (.invokevirtual 102, 3) := by decide +kernel
theorem dX11_leave_44 : decode cX11_leave 44 = .ok (.aload_n 0, 1) := by decide +kernel
theorem dX11_leave_45 : decode cX11_leave 45 = .ok (.getfield 10, 3) := by decide +kernel
theorem dX11_leave_48 : decode cX11_leave 48 = .ok (.iload_n 1, 1) := by decide +kernel
theorem dX11_leave_49 : decode cX11_leave 49 = .ok (.iconst (-1), 1) := by decide +kernel
theorem dX11_leave_50 : decode cX11_leave 50 = .ok (.invokevirtual 121, 3) := by decide +kernel
theorem dX11_leave_53 : decode cX11_leave 53 = .ok (.lconst 0, 1) := by decide +kernel
theorem dX11_leave_54 : decode cX11_leave 54 = .ok (.lreturn, 1) := by decide +kernel
set_option maxRecDepth 20000 in
set_option maxRecDepth 100000 in
theorem ggX11_about_X2_has : GoodIn wsX11_about wsX2_has := goodIn_r _ [11, 12, 29, 30, 31, 32, 33, 34, 35] rfl (by decide +kernel)
set_option maxRecDepth 20000 in
theorem gX11_about_X2_has : GoodIn wsX11_about (wsV RX11 99 RX2 yX2_has wsX2_has) := goodIn_app (goodIn_of _ (by decide +kernel)) ggX11_about_X2_has
set_option maxRecDepth 20000 in
set_option maxRecDepth 100000 in
theorem ggX11_about_X2_isCounted : GoodIn wsX11_about wsX2_isCounted := goodIn_r _ [16, 17, 18, 19, 8, 9, 10, 11, 12, 29, 30, 31, 32, 33, 34, 35] rfl (by decide +kernel)
set_option maxRecDepth 20000 in
theorem gX11_about_X2_isCounted : GoodIn wsX11_about (wsV RX11 137 RX2 yX2_isCounted wsX2_isCounted) := goodIn_app (goodIn_of _ (by decide +kernel)) ggX11_about_X2_isCounted
theorem dX11_about_0 : decode cX11_about 0 = .ok (.aload_n 0, 1) := by decide +kernel
theorem dX11_about_1 : decode cX11_about 1 = .ok (.getfield 10, 3) := by decide +kernel
theorem dX11_about_4 : decode cX11_about 4 = .ok (.iload_n 1, 1) := by decide +kernel
theorem dX11_about_5 : decode cX11_about 5 = .ok (.invokevirtual 99, 3) := by decide +kernel
theorem dX11_about_8 : decode cX11_about 8 = .ok (.ifCond .ne 7, 3) := by decide +kernel
theorem dX11_about_11 : decode cX11_about 11 = .ok (.ldc2_w 88, 3) := by decide +kernel
theorem dX11_about_14 : decode cX11_about 14 = .ok (.lreturn, 1) := by decide +kernel
theorem dX11_about_15 : decode cX11_about 15 = .ok (.iload_n 2, 1) := by decide +kernel
theorem dX11_about_16 : decode cX11_about 16 = .ok (.tableswitch 101 0 3 #[32, 43, 54, 71], 32) := by decide +kernel
theorem dX11_about_48 : decode cX11_about 48 = .ok (.aload_n 0, 1) := by decide +kernel
theorem dX11_about_49 : decode cX11_about 49 = .ok (.getfield 10, 3) := by decide +kernel
theorem dX11_about_52 : decode cX11_about 52 = .ok (.getfield 110, 3) := by decide +kernel
theorem dX11_about_55 : decode cX11_about 55 = .ok (.iload_n 1, 1) := by decide +kernel
theorem dX11_about_56 : decode cX11_about 56 = .ok (.iaload, 1) := by decide +kernel
theorem dX11_about_57 : decode cX11_about 57 = .ok (.i2l, 1) := by decide +kernel
theorem dX11_about_58 : decode cX11_about 58 = .ok (.lreturn, 1) := by decide +kernel
theorem dX11_about_59 : decode cX11_about 59 = .ok (.aload_n 0, 1) := by decide +kernel
theorem dX11_about_60 : decode cX11_about 60 = .ok (.getfield 10, 3) := by decide +kernel
theorem dX11_about_63 : decode cX11_about 63 = .ok (.getfield 106, 3) := by decide +kernel
theorem dX11_about_66 : decode cX11_about 66 = .ok (.iload_n 1, 1) := by decide +kernel
theorem dX11_about_67 : decode cX11_about 67 = .ok (.iaload, 1) := by decide +kernel
theorem dX11_about_68 : decode cX11_about 68 = .ok (.i2l, 1) := by decide +kernel
theorem dX11_about_69 : decode cX11_about 69 = .ok (.lreturn, 1) := by decide +kernel
theorem dX11_about_70 : decode cX11_about 70 = .ok (.aload_n 0, 1) := by decide +kernel
theorem dX11_about_71 : decode cX11_about 71 = .ok (.getfield 10, 3) := by decide +kernel
theorem dX11_about_74 : decode cX11_about 74 = .ok (.iload_n 1, 1) := by decide +kernel
theorem dX11_about_75 : decode cX11_about 75 = .ok (.invokevirtual 137, 3) := by decide +kernel
theorem dX11_about_78 : decode cX11_about 78 = .ok (.ifCond .eq 7, 3) := by decide +kernel
theorem dX11_about_81 : decode cX11_about 81 = .ok (.lconst 1, 1) := by decide +kernel
theorem dX11_about_82 : decode cX11_about 82 = .ok (.goto 4, 3) := by decide +kernel
theorem dX11_about_85 : decode cX11_about 85 = .ok (.lconst 0, 1) := by decide +kernel
theorem dX11_about_86 : decode cX11_about 86 = .ok (.lreturn, 1) := by decide +kernel
theorem dX11_about_87 : decode cX11_about 87 = .ok (.aload_n 0, 1) := by decide +kernel
theorem dX11_about_88 : decode cX11_about 88 = .ok (.getfield 10, 3) := by decide +kernel
theorem dX11_about_91 : decode cX11_about 91 = .ok (.getfield 131, 3) := by decide +kernel
theorem dX11_about_94 : decode cX11_about 94 = .ok (.iload_n 1, 1) := by decide +kernel
theorem dX11_about_95 : decode cX11_about 95 = .ok (.iaload, 1) := by decide +kernel
theorem dX11_about_96 : decode cX11_about 96 = .ok (.iconst (-1), 1) := by decide +kernel
theorem dX11_about_97 : decode cX11_about 97 = .ok (.if_icmp .ne 9, 3) := by decide +kernel
theorem dX11_about_100 : decode cX11_about 100 = .ok (.ldc2_w 140, 3) := by decide +kernel
theorem dX11_about_103 : decode cX11_about 103 = .ok (.goto 13, 3) := by decide +kernel
theorem dX11_about_106 : decode cX11_about 106 = .ok (.aload_n 0, 1) := by decide +kernel
theorem dX11_about_107 : decode cX11_about 107 = .ok (.getfield 10, 3) := by decide +kernel
theorem dX11_about_110 : decode cX11_about 110 = .ok (.getfield 131, 3) := by decide +kernel
theorem dX11_about_113 : decode cX11_about 113 = .ok (.iload_n 1, 1) := by decide +kernel
theorem dX11_about_114 : decode cX11_about 114 = .ok (.iaload, 1) := by decide +kernel
theorem dX11_about_115 : decode cX11_about 115 = .ok (.i2l, 1) := by decide +kernel
theorem dX11_about_116 : decode cX11_about 116 = .ok (.lreturn, 1) := by decide +kernel
theorem dX11_about_117 : decode cX11_about 117 = .ok (.ldc2_w 88, 3) := by decide +kernel
theorem dX11_about_120 : decode cX11_about 120 = .ok (.lreturn, 1) := by decide +kernel
set_option maxRecDepth 20000 in
set_option maxRecDepth 100000 in
theorem ggX11_isOf_X2_has : GoodIn wsX11_isOf wsX2_has := goodIn_r _ [8, 9, 23, 24, 25, 26, 27, 28, 29] rfl (by decide +kernel)
set_option maxRecDepth 20000 in
theorem gX11_isOf_X2_has : GoodIn wsX11_isOf (wsV RX11 99 RX2 yX2_has wsX2_has) := goodIn_app (goodIn_of _ (by decide +kernel)) ggX11_isOf_X2_has
set_option maxRecDepth 20000 in
set_option maxRecDepth 100000 in
theorem ggX11_isOf_X11_isKind : GoodIn wsX11_isOf wsX11_isKind := goodIn_r _ [13] rfl (by decide +kernel)
set_option maxRecDepth 20000 in
theorem gX11_isOf_X11_isKind : GoodIn wsX11_isOf (va_wsS RX11 76 yX11_isKind wsX11_isKind) := goodIn_app (goodIn_of _ (by decide +kernel)) ggX11_isOf_X11_isKind
theorem dX11_isOf_0 : decode cX11_isOf 0 = .ok (.aload_n 0, 1) := by decide +kernel
theorem dX11_isOf_1 : decode cX11_isOf 1 = .ok (.getfield 10, 3) := by decide +kernel
theorem dX11_isOf_4 : decode cX11_isOf 4 = .ok (.iload_n 1, 1) := by decide +kernel
theorem dX11_isOf_5 : decode cX11_isOf 5 = .ok (.invokevirtual 99, 3) := by decide +kernel
theorem dX11_isOf_8 : decode cX11_isOf 8 = .ok (.ifCond .eq 10, 3) := by decide +kernel
theorem dX11_isOf_11 : decode cX11_isOf 11 = .ok (.iload_n 2, 1) := by decide +kernel
theorem dX11_isOf_12 : decode cX11_isOf 12 = .ok (.invokestatic 76, 3) := by decide +kernel
theorem dX11_isOf_15 : decode cX11_isOf 15 = .ok (.ifCond .ne 7, 3) := by decide +kernel
theorem dX11_isOf_18 : decode cX11_isOf 18 = .ok (.ldc2_w 88, 3) := by decide +kernel
theorem dX11_isOf_21 : decode cX11_isOf 21 = .ok (.lreturn, 1) := by decide +kernel
theorem dX11_isOf_22 : decode cX11_isOf 22 = .ok (.aload_n 0, 1) := by decide +kernel
theorem dX11_isOf_23 : decode cX11_isOf 23 = .ok (.getfield 10, 3) := by decide +kernel
theorem dX11_isOf_26 : decode cX11_isOf 26 = .ok (.getfield 110, 3) := by decide +kernel
theorem dX11_isOf_29 : decode cX11_isOf 29 = .ok (.iload_n 1, 1) := by decide +kernel
theorem dX11_isOf_30 : decode cX11_isOf 30 = .ok (.iaload, 1) := by decide +kernel
theorem dX11_isOf_31 : decode cX11_isOf 31 = .ok (.istore_n 3, 1) := by decide +kernel
theorem dX11_isOf_32 : decode cX11_isOf 32 = .ok (.iload_n 2, 1) := by decide +kernel
theorem dX11_isOf_33 : decode cX11_isOf 33 = .ok (.ifCond .eq 18, 3) := by decide +kernel
theorem dX11_isOf_36 : decode cX11_isOf 36 = .ok (.iload_n 2, 1) := by decide +kernel
theorem dX11_isOf_37 : decode cX11_isOf 37 = .ok (.iload_n 3, 1) := by decide +kernel
theorem dX11_isOf_38 : decode cX11_isOf 38 = .ok (.if_icmp .eq 13, 3) := by decide +kernel
theorem dX11_isOf_41 : decode cX11_isOf 41 = .ok (.iload_n 2, 1) := by decide +kernel
theorem dX11_isOf_42 : decode cX11_isOf 42 = .ok (.iconst 1, 1) := by decide +kernel
theorem dX11_isOf_43 : decode cX11_isOf 43 = .ok (.if_icmp .ne 12, 3) := by decide +kernel
theorem dX11_isOf_46 : decode cX11_isOf 46 = .ok (.iload_n 3, 1) := by decide +kernel
theorem dX11_isOf_47 : decode cX11_isOf 47 = .ok (.iconst 3, 1) := by decide +kernel
theorem dX11_isOf_48 : decode cX11_isOf 48 = .ok (.if_icmp .ne 7, 3) := by decide +kernel
theorem dX11_isOf_51 : decode cX11_isOf 51 = .ok (.lconst 1, 1) := by decide +kernel
theorem dX11_isOf_52 : decode cX11_isOf 52 = .ok (.goto 4, 3) := by decide +kernel
theorem dX11_isOf_55 : decode cX11_isOf 55 = .ok (.lconst 0, 1) := by decide +kernel
theorem dX11_isOf_56 : decode cX11_isOf 56 = .ok (.lreturn, 1) := by decide +kernel
set_option maxRecDepth 20000 in
set_option maxRecDepth 100000 in
theorem ggX11_pecks_X2_has : GoodIn wsX11_pecks wsX2_has := goodIn_r _ [8, 9, 23, 24, 25, 26, 27, 28, 29] rfl (by decide +kernel)
set_option maxRecDepth 20000 in
theorem gX11_pecks_X2_has : GoodIn wsX11_pecks (wsV RX11 99 RX2 yX2_has wsX2_has) := goodIn_app (goodIn_of _ (by decide +kernel)) ggX11_pecks_X2_has
set_option maxRecDepth 20000 in
set_option maxRecDepth 100000 in
theorem ggX11_pecks_X11_isOther : GoodIn wsX11_pecks wsX11_isOther := goodIn_r _ [13] rfl (by decide +kernel)
set_option maxRecDepth 20000 in
theorem gX11_pecks_X11_isOther : GoodIn wsX11_pecks (va_wsS RX11 124 yX11_isOther wsX11_isOther) := goodIn_app (goodIn_of _ (by decide +kernel)) ggX11_pecks_X11_isOther
theorem dX11_pecks_0 : decode cX11_pecks 0 = .ok (.aload_n 0, 1) := by decide +kernel
theorem dX11_pecks_1 : decode cX11_pecks 1 = .ok (.getfield 10, 3) := by decide +kernel
theorem dX11_pecks_4 : decode cX11_pecks 4 = .ok (.iload_n 1, 1) := by decide +kernel
theorem dX11_pecks_5 : decode cX11_pecks 5 = .ok (.invokevirtual 99, 3) := by decide +kernel
theorem dX11_pecks_8 : decode cX11_pecks 8 = .ok (.ifCond .eq 11, 3) := by decide +kernel
theorem dX11_pecks_11 : decode cX11_pecks 11 = .ok (.iload_n 1, 1) := by decide +kernel
theorem dX11_pecks_12 : decode cX11_pecks 12 = .ok (.iload_n 2, 1) := by decide +kernel
theorem dX11_pecks_13 : decode cX11_pecks 13 = .ok (.invokestatic 124, 3) := by decide +kernel
theorem dX11_pecks_16 : decode cX11_pecks 16 = .ok (.ifCond .ne 7, 3) := by decide +kernel
theorem dX11_pecks_19 : decode cX11_pecks 19 = .ok (.ldc2_w 88, 3) := by decide +kernel
theorem dX11_pecks_22 : decode cX11_pecks 22 = .ok (.lreturn, 1) := by decide +kernel
theorem dX11_pecks_23 : decode cX11_pecks 23 = .ok (.aload_n 0, 1) := by decide +kernel
theorem dX11_pecks_24 : decode cX11_pecks 24 = .ok (.getfield 10, 3) := by decide +kernel
theorem dX11_pecks_27 : decode cX11_pecks 27 = .ok (.getfield 134, 3) := by decide +kernel
theorem dX11_pecks_30 : decode cX11_pecks 30 = .ok (.iload_n 1, 1) := by decide +kernel
theorem dX11_pecks_31 : decode cX11_pecks 31 = .ok (.bipush 12, 2) := by decide +kernel
theorem dX11_pecks_33 : decode cX11_pecks 33 = .ok (.imul, 1) := by decide +kernel
theorem dX11_pecks_34 : decode cX11_pecks 34 = .ok (.iload_n 2, 1) := by decide +kernel
theorem dX11_pecks_35 : decode cX11_pecks 35 = .ok (.iadd, 1) := by decide +kernel
theorem dX11_pecks_36 : decode cX11_pecks 36 = .ok (.iaload, 1) := by decide +kernel
theorem dX11_pecks_37 : decode cX11_pecks 37 = .ok (.i2l, 1) := by decide +kernel
theorem dX11_pecks_38 : decode cX11_pecks 38 = .ok (.lreturn, 1) := by decide +kernel
set_option maxRecDepth 20000 in
set_option maxRecDepth 100000 in
theorem ggX11_undo_X1_takeBack : GoodIn wsX11_undo wsX1_takeBack := goodIn_r _ [9, 10, 11, 12, 13, 14, 15, 16, 17, 18, 19, 20, 21, 22, 23, 24, 25, 26, 27, 28, 29, 30, 31, 32, 33, 46, 47, 48, 49, 50, 51, 52, 43, 44, 45, 53, 54, 55, 56, 57, 58] rfl (by decide +kernel)
set_option maxRecDepth 20000 in
theorem gX11_undo_X1_takeBack : GoodIn wsX11_undo (wsV RX11 145 RX1 yX1_takeBack wsX1_takeBack) := goodIn_app (goodIn_of _ (by decide +kernel)) ggX11_undo_X1_takeBack
theorem dX11_undo_0 : decode cX11_undo 0 = .ok (.aload_n 0, 1) := by decide +kernel
theorem dX11_undo_1 : decode cX11_undo 1 = .ok (.getfield 19, 3) := by decide +kernel
theorem dX11_undo_4 : decode cX11_undo 4 = .ok (.getfield 142, 3) := by decide +kernel
theorem dX11_undo_7 : decode cX11_undo 7 = .ok (.ifCond .ne 7, 3) := by decide +kernel
theorem dX11_undo_10 : decode cX11_undo 10 = .ok (.ldc2_w 113, 3) := by decide +kernel
theorem dX11_undo_13 : decode cX11_undo 13 = .ok (.lreturn, 1) := by decide +kernel
theorem dX11_undo_14 : decode cX11_undo 14 = .ok (.aload_n 0, 1) := by decide +kernel
theorem dX11_undo_15 : decode cX11_undo 15 = .ok (.getfield 19, 3) := by decide +kernel
theorem dX11_undo_18 : decode cX11_undo 18 = .ok (.aload_n 0, 1) := by decide +kernel
theorem dX11_undo_19 : decode cX11_undo 19 = .ok (.getfield 10, 3) := by decide +kernel
theorem dX11_undo_22 : decode cX11_undo 22 = .ok (.invokevirtual 145, 3) := by decide +kernel
theorem dX11_undo_25 : decode cX11_undo 25 = .ok (.aload_n 0, 1) := by decide +kernel
theorem dX11_undo_26 : decode cX11_undo 26 = .ok (.getfield 19, 3) := by decide +kernel
theorem dX11_undo_29 : decode cX11_undo 29 = .ok (.getfield 142, 3) := by decide +kernel
theorem dX11_undo_32 : decode cX11_undo 32 = .ok (.i2l, 1) := by decide +kernel
theorem dX11_undo_33 : decode cX11_undo 33 = .ok (.lreturn, 1) := by decide +kernel
set_option maxRecDepth 20000 in
set_option maxRecDepth 100000 in
theorem ggX11_least_X9_solve : GoodIn wsX11_least wsX9_solve := goodIn_r _ [7, 8, 9, 10, 11, 12, 13, 14, 15, 16, 17, 18, 19, 20, 21, 22, 23, 24, 25, 26, 27, 28, 29, 30, 31, 32, 33, 34, 35, 36, 37, 38, 39, 40, 41, 42, 43, 44, 45, 46, 47, 48, 49, 50, 51, 52, 53, 54, 55, 56, 57, 58, 59, 60, 61, 62, 63, 64, 65, 66, 67, 68, 69, 70, 71, 72, 73, 74, 75, 76, 77, 78, 79, 80, 81, 82, 83, 84, 85, 86, 87, 88, 89, 90, 91, 92, 93, 6, 94, 95, 96, 97, 98, 99, 100, 101, 102, 103, 104, 105, 106, 107, 108, 109, 110, 111, 129, 130, 131, 132, 133, 134, 135, 136, 137, 138, 139, 140, 141, 142, 143, 144, 145, 146, 147, 148, 149, 150, 151, 152, 153, 154, 155, 156, 157, 158, 159, 160, 161, 162, 163, 164] rfl (by decide +kernel)
set_option maxRecDepth 20000 in
theorem gX11_least_X9_solve : GoodIn wsX11_least (wsV RX11 148 RX9 yX9_solve wsX9_solve) := goodIn_app (goodIn_of _ (by decide +kernel)) ggX11_least_X9_solve
set_option maxRecDepth 20000 in
set_option maxRecDepth 100000 in
theorem ggX11_least_X9_hasLawful : GoodIn wsX11_least wsX9_hasLawful := goodIn_r _ [115, 12, 107, 129, 130, 131, 132, 133, 134, 135, 136, 137, 138, 139] rfl (by decide +kernel)
set_option maxRecDepth 20000 in
theorem gX11_least_X9_hasLawful : GoodIn wsX11_least (wsV RX11 151 RX9 yX9_hasLawful wsX9_hasLawful) := goodIn_app (goodIn_of _ (by decide +kernel)) ggX11_least_X9_hasLawful
set_option maxRecDepth 20000 in
set_option maxRecDepth 100000 in
theorem ggX11_least_X9_leastWeight : GoodIn wsX11_least wsX9_leastWeight := goodIn_r _ [119, 12, 129, 130, 131, 132, 133, 134, 135, 136, 137, 138, 139] rfl (by decide +kernel)
set_option maxRecDepth 20000 in
theorem gX11_least_X9_leastWeight : GoodIn wsX11_least (wsV RX11 155 RX9 yX9_leastWeight wsX9_leastWeight) := goodIn_app (goodIn_of _ (by decide +kernel)) ggX11_least_X9_leastWeight
theorem dX11_least_0 : decode cX11_least 0 = .ok (.aload_n 0, 1) := by decide +kernel
theorem dX11_least_1 : decode cX11_least 1 = .ok (.getfield 37, 3) := by decide +kernel
theorem dX11_least_4 : decode cX11_least 4 = .ok (.invokevirtual 148, 3) := by decide +kernel
theorem dX11_least_7 : decode cX11_least 7 = .ok (.aload_n 0, 1) := by decide +kernel
theorem dX11_least_8 : decode cX11_least 8 = .ok (.getfield 37, 3) := by decide +kernel
theorem dX11_least_11 : decode cX11_least 11 = .ok (.invokevirtual 151, 3) := by decide +kernel
theorem dX11_least_14 : decode cX11_least 14 = .ok (.ifCond .eq 13, 3) := by decide +kernel
theorem dX11_least_17 : decode cX11_least 17 = .ok (.aload_n 0, 1) := by decide +kernel
theorem dX11_least_18 : decode cX11_least 18 = .ok (.getfield 37, 3) := by decide +kernel
theorem dX11_least_21 : decode cX11_least 21 = .ok (.invokevirtual 155, 3) := by decide +kernel
theorem dX11_least_24 : decode cX11_least 24 = .ok (.goto 6, 3) := by decide +kernel
theorem dX11_least_27 : decode cX11_least 27 = .ok (.ldc2_w 140, 3) := by decide +kernel
theorem dX11_least_30 : decode cX11_least 30 = .ok (.lreturn, 1) := by decide +kernel
set_option maxRecDepth 20000 in
set_option maxRecDepth 100000 in
theorem ggX11_many_X9_solve : GoodIn wsX11_many wsX9_solve := goodIn_r _ [6, 7, 8, 9, 10, 11, 12, 13, 14, 15, 16, 17, 18, 19, 20, 21, 22, 23, 24, 25, 26, 27, 28, 29, 30, 31, 32, 33, 34, 35, 36, 37, 38, 39, 40, 41, 42, 43, 44, 45, 46, 47, 48, 49, 50, 51, 52, 53, 54, 55, 56, 57, 58, 59, 60, 61, 62, 63, 64, 65, 66, 67, 68, 69, 70, 71, 72, 73, 74, 75, 76, 77, 78, 79, 80, 81, 82, 83, 84, 85, 86, 87, 88, 89, 90, 91, 92, 5, 93, 94, 95, 96, 97, 98, 99, 100, 101, 102, 103, 104, 105, 106, 107, 108, 109, 110, 124, 125, 126, 127, 128, 129, 130, 131, 132, 133, 134, 135, 136, 137, 138, 139, 140, 141, 142, 143, 144, 145, 146, 147, 148, 149, 150, 151, 152, 153, 154, 155, 156, 157, 158, 159] rfl (by decide +kernel)
set_option maxRecDepth 20000 in
theorem gX11_many_X9_solve : GoodIn wsX11_many (wsV RX11 148 RX9 yX9_solve wsX9_solve) := goodIn_app (goodIn_of _ (by decide +kernel)) ggX11_many_X9_solve
set_option maxRecDepth 20000 in
set_option maxRecDepth 100000 in
theorem ggX11_many_X9_howMany : GoodIn wsX11_many wsX9_howMany := goodIn_r _ [114, 13, 124, 125, 126, 127, 128, 129, 130, 131, 132, 133, 134] rfl (by decide +kernel)
set_option maxRecDepth 20000 in
theorem gX11_many_X9_howMany : GoodIn wsX11_many (wsV RX11 159 RX9 yX9_howMany wsX9_howMany) := goodIn_app (goodIn_of _ (by decide +kernel)) ggX11_many_X9_howMany
theorem dX11_many_0 : decode cX11_many 0 = .ok (.aload_n 0, 1) := by decide +kernel
theorem dX11_many_1 : decode cX11_many 1 = .ok (.getfield 37, 3) := by decide +kernel
theorem dX11_many_4 : decode cX11_many 4 = .ok (.invokevirtual 148, 3) := by decide +kernel
theorem dX11_many_7 : decode cX11_many 7 = .ok (.aload_n 0, 1) := by decide +kernel
theorem dX11_many_8 : decode cX11_many 8 = .ok (.getfield 37, 3) := by decide +kernel
theorem dX11_many_11 : decode cX11_many 11 = .ok (.invokevirtual 159, 3) := by decide +kernel
theorem dX11_many_14 : decode cX11_many 14 = .ok (.lreturn, 1) := by decide +kernel
set_option maxRecDepth 20000 in
set_option maxRecDepth 100000 in
theorem ggX11_best_X9_solve : GoodIn wsX11_best wsX9_solve := goodIn_r _ [10, 11, 12, 13, 14, 15, 16, 17, 18, 19, 20, 21, 22, 23, 24, 25, 26, 27, 28, 29, 30, 31, 32, 33, 34, 35, 36, 37, 38, 39, 40, 41, 42, 43, 44, 45, 46, 47, 48, 49, 50, 51, 52, 53, 54, 55, 56, 57, 58, 59, 60, 61, 62, 63, 64, 65, 66, 67, 68, 69, 70, 71, 72, 73, 74, 75, 76, 77, 78, 79, 80, 81, 82, 83, 84, 85, 86, 87, 88, 89, 90, 91, 92, 93, 94, 95, 96, 9, 97, 98, 99, 100, 101, 102, 103, 104, 105, 106, 107, 108, 109, 110, 111, 112, 113, 114, 151, 152, 153, 154, 155, 156, 157, 158, 159, 160, 161, 162, 163, 164, 165, 166, 167, 168, 169, 170, 171, 172, 173, 174, 175, 176, 177, 178, 179, 180, 181, 182, 183, 184, 185, 186] rfl (by decide +kernel)
set_option maxRecDepth 20000 in
theorem gX11_best_X9_solve : GoodIn wsX11_best (wsV RX11 148 RX9 yX9_solve wsX9_solve) := goodIn_app (goodIn_of _ (by decide +kernel)) ggX11_best_X9_solve
set_option maxRecDepth 20000 in
set_option maxRecDepth 100000 in
theorem ggX11_best_X9_howMany : GoodIn wsX11_best wsX9_howMany := goodIn_r _ [118, 17, 151, 152, 153, 154, 155, 156, 157, 158, 159, 160, 161] rfl (by decide +kernel)
set_option maxRecDepth 20000 in
theorem gX11_best_X9_howMany : GoodIn wsX11_best (wsV RX11 159 RX9 yX9_howMany wsX9_howMany) := goodIn_app (goodIn_of _ (by decide +kernel)) ggX11_best_X9_howMany
set_option maxRecDepth 20000 in
set_option maxRecDepth 100000 in
theorem ggX11_best_X9_bringInHand : GoodIn wsX11_best wsX9_bringInHand := goodIn_r _ [122, 123, 13, 124, 17, 125, 126, 127, 128, 9, 129, 15, 11, 94, 95, 96, 97, 90, 91, 92, 38, 93, 43, 98, 99, 100, 21, 101, 30, 31, 102, 103, 104, 105, 27, 28, 130, 131, 132, 111, 112, 113, 114, 33, 34, 133, 134, 135, 136, 137, 138, 139, 149, 150, 151, 152, 153, 154, 155, 156, 157, 158, 159, 160, 161, 162, 163, 164, 165, 166, 167, 168, 169, 170, 171, 172, 173, 174, 175, 176, 177, 178, 179] rfl (by decide +kernel)
set_option maxRecDepth 20000 in
theorem gX11_best_X9_bringInHand : GoodIn wsX11_best (wsV RX11 162 RX9 yX9_bringInHand wsX9_bringInHand) := goodIn_app (goodIn_of _ (by decide +kernel)) ggX11_best_X9_bringInHand
theorem dX11_best_0 : decode cX11_best 0 = .ok (.lload_n 1, 1) := by decide +kernel
theorem dX11_best_1 : decode cX11_best 1 = .ok (.lconst 0, 1) := by decide +kernel
theorem dX11_best_2 : decode cX11_best 2 = .ok (.lcmp, 1) := by decide +kernel
theorem dX11_best_3 : decode cX11_best 3 = .ok (.ifCond .ge 7, 3) := by decide +kernel
theorem dX11_best_6 : decode cX11_best 6 = .ok (.ldc2_w 88, 3) := by decide +kernel
theorem dX11_best_9 : decode cX11_best 9 = .ok (.lreturn, 1) := by decide +kernel
theorem dX11_best_10 : decode cX11_best 10 = .ok (.aload_n 0, 1) := by decide +kernel
theorem dX11_best_11 : decode cX11_best 11 = .ok (.getfield 37, 3) := by decide +kernel
theorem dX11_best_14 : decode cX11_best 14 = .ok (.invokevirtual 148, 3) := by decide +kernel
theorem dX11_best_17 : decode cX11_best 17 = .ok (.lload_n 1, 1) := by decide +kernel
theorem dX11_best_18 : decode cX11_best 18 = .ok (.aload_n 0, 1) := by decide +kernel
theorem dX11_best_19 : decode cX11_best 19 = .ok (.getfield 37, 3) := by decide +kernel
theorem dX11_best_22 : decode cX11_best 22 = .ok (.invokevirtual 159, 3) := by decide +kernel
theorem dX11_best_25 : decode cX11_best 25 = .ok (.lcmp, 1) := by decide +kernel
theorem dX11_best_26 : decode cX11_best 26 = .ok (.ifCond .lt 7, 3) := by decide +kernel
theorem dX11_best_29 : decode cX11_best 29 = .ok (.ldc2_w 140, 3) := by decide +kernel
theorem dX11_best_32 : decode cX11_best 32 = .ok (.lreturn, 1) := by decide +kernel
theorem dX11_best_33 : decode cX11_best 33 = .ok (.aload_n 0, 1) := by decide +kernel
theorem dX11_best_34 : decode cX11_best 34 = .ok (.getfield 37, 3) := by decide +kernel
theorem dX11_best_37 : decode cX11_best 37 = .ok (.lload_n 1, 1) := by decide +kernel
theorem dX11_best_38 : decode cX11_best 38 = .ok (.aload_n 0, 1) := by decide +kernel
theorem dX11_best_39 : decode cX11_best 39 = .ok (.getfield 44, 3) := by decide +kernel
theorem dX11_best_42 : decode cX11_best 42 = .ok (.invokevirtual 162, 3) := by decide +kernel
theorem dX11_best_45 : decode cX11_best 45 = .ok (.aload_n 0, 1) := by decide +kernel
theorem dX11_best_46 : decode cX11_best 46 = .ok (.getfield 44, 3) := by decide +kernel
theorem dX11_best_49 : decode cX11_best 49 = .ok (.getfield 166, 3) := by decide +kernel
theorem dX11_best_52 : decode cX11_best 52 = .ok (.i2l, 1) := by decide +kernel
theorem dX11_best_53 : decode cX11_best 53 = .ok (.lreturn, 1) := by decide +kernel
set_option maxRecDepth 20000 in
set_option maxRecDepth 100000 in
theorem ggX11_number_X7_readFrom : GoodIn wsX11_number wsX7_readFrom := goodIn_r _ [10, 11, 12, 13, 14, 15, 16, 17, 18, 19, 20, 21, 22, 23, 24, 25, 26, 27, 28, 29, 30, 31, 32, 33, 34, 35, 36, 37, 38, 39, 40, 41, 42, 43, 44, 45, 46, 47, 48, 49, 50, 51, 52, 53, 54, 55, 56, 57, 58, 59, 60, 61, 62, 154, 155, 156, 157, 158, 159, 160, 161, 162, 163, 164, 165, 166, 167, 168, 169, 170, 171, 172, 173, 174, 175, 176] rfl (by decide +kernel)
set_option maxRecDepth 20000 in
theorem gX11_number_X7_readFrom : GoodIn wsX11_number (wsV RX11 167 RX7 yX7_readFrom wsX7_readFrom) := goodIn_app (goodIn_of _ (by decide +kernel)) ggX11_number_X7_readFrom
set_option maxRecDepth 20000 in
set_option maxRecDepth 100000 in
theorem ggX11_number_X9_solve : GoodIn wsX11_number wsX9_solve := goodIn_r _ [67, 68, 69, 70, 71, 72, 73, 74, 75, 76, 77, 78, 79, 80, 81, 82, 83, 84, 85, 86, 87, 88, 89, 90, 91, 92, 19, 20, 21, 22, 23, 24, 25, 26, 27, 28, 29, 30, 31, 32, 33, 34, 35, 36, 37, 38, 39, 40, 41, 42, 43, 44, 45, 46, 47, 48, 49, 50, 51, 52, 53, 54, 55, 56, 57, 58, 59, 60, 61, 62, 93, 94, 95, 96, 97, 98, 99, 100, 101, 102, 103, 104, 105, 106, 107, 108, 109, 66, 110, 111, 112, 113, 114, 115, 116, 117, 118, 119, 120, 121, 122, 123, 124, 125, 126, 127, 177, 178, 179, 180, 181, 182, 183, 184, 185, 186, 187, 160, 161, 162, 163, 164, 165, 166, 167, 168, 169, 188, 189, 190, 191, 192, 193, 194, 195, 170, 171, 172, 173, 174, 175, 176] rfl (by decide +kernel)
set_option maxRecDepth 20000 in
theorem gX11_number_X9_solve : GoodIn wsX11_number (wsV RX11 148 RX9 yX9_solve wsX9_solve) := goodIn_app (goodIn_of _ (by decide +kernel)) ggX11_number_X9_solve
set_option maxRecDepth 20000 in
set_option maxRecDepth 100000 in
theorem ggX11_number_X9_numberOf : GoodIn wsX11_number wsX9_numberOf := goodIn_r _ [131, 132, 70, 133, 74, 134, 135, 136, 66, 137, 72, 123, 138, 139, 140, 141, 68, 107, 108, 109, 110, 103, 104, 105, 21, 106, 26, 111, 112, 113, 78, 114, 87, 88, 115, 116, 117, 118, 84, 85, 142, 143, 144, 124, 125, 126, 127, 90, 91, 177, 178, 179, 180, 181, 182, 183, 184, 185, 186, 187, 160, 161, 162, 163, 164, 165, 166, 167, 168, 169, 188, 189, 190, 191, 192, 193, 194, 195] rfl (by decide +kernel)
set_option maxRecDepth 20000 in
theorem gX11_number_X9_numberOf : GoodIn wsX11_number (wsV RX11 174 RX9 yX9_numberOf wsX9_numberOf) := goodIn_app (goodIn_of _ (by decide +kernel)) ggX11_number_X9_numberOf
theorem dX11_number_0 : decode cX11_number 0 = .ok (.aload_n 0, 1) := by decide +kernel
theorem dX11_number_1 : decode cX11_number 1 = .ok (.getfield 51, 3) := by decide +kernel
theorem dX11_number_4 : decode cX11_number 4 = .ok (.aload_n 0, 1) := by decide +kernel
theorem dX11_number_5 : decode cX11_number 5 = .ok (.getfield 44, 3) := by decide +kernel
theorem dX11_number_8 : decode cX11_number 8 = .ok (.invokevirtual 167, 3) := by decide +kernel
theorem dX11_number_11 : decode cX11_number 11 = .ok (.ifCond .ne 7, 3) := by decide +kernel
theorem dX11_number_14 : decode cX11_number 14 = .ok (.ldc2_w 113, 3) := by decide +kernel
theorem dX11_number_17 : decode cX11_number 17 = .ok (.lreturn, 1) := by decide +kernel
theorem dX11_number_18 : decode cX11_number 18 = .ok (.aload_n 0, 1) := by decide +kernel
theorem dX11_number_19 : decode cX11_number 19 = .ok (.getfield 37, 3) := by decide +kernel
theorem dX11_number_22 : decode cX11_number 22 = .ok (.invokevirtual 148, 3) := by decide +kernel
theorem dX11_number_25 : decode cX11_number 25 = .ok (.aload_n 0, 1) := by decide +kernel
theorem dX11_number_26 : decode cX11_number 26 = .ok (.getfield 37, 3) := by decide +kernel
theorem dX11_number_29 : decode cX11_number 29 = .ok (.aload_n 0, 1) := by decide +kernel
theorem dX11_number_30 : decode cX11_number 30 = .ok (.getfield 51, 3) := by decide +kernel
theorem dX11_number_33 : decode cX11_number 33 = .ok (.getfield 171, 3) := by decide +kernel
theorem dX11_number_36 : decode cX11_number 36 = .ok (.invokevirtual 174, 3) := by decide +kernel
theorem dX11_number_39 : decode cX11_number 39 = .ok (.lreturn, 1) := by decide +kernel
set_option maxRecDepth 20000 in
set_option maxRecDepth 100000 in
theorem ggX11_sure_X2_isCounted : GoodIn wsX11_sure wsX2_isCounted := goodIn_r _ [12, 13, 14, 15, 16, 17, 11, 18, 19, 168, 169, 170, 171, 172, 173, 174] rfl (by decide +kernel)
set_option maxRecDepth 20000 in
theorem gX11_sure_X2_isCounted : GoodIn wsX11_sure (wsV RX11 137 RX2 yX2_isCounted wsX2_isCounted) := goodIn_app (goodIn_of _ (by decide +kernel)) ggX11_sure_X2_isCounted
set_option maxRecDepth 20000 in
set_option maxRecDepth 100000 in
theorem ggX11_sure_X9_solve : GoodIn wsX11_sure wsX9_solve := goodIn_r _ [24, 25, 26, 27, 28, 29, 30, 31, 32, 33, 34, 35, 36, 37, 38, 39, 40, 41, 42, 43, 44, 45, 46, 47, 48, 49, 50, 51, 52, 53, 54, 55, 56, 57, 58, 59, 60, 61, 62, 63, 64, 9, 10, 11, 12, 13, 14, 15, 16, 17, 18, 19, 65, 66, 67, 68, 69, 70, 71, 72, 73, 74, 75, 76, 77, 78, 79, 80, 81, 82, 83, 84, 85, 86, 87, 88, 89, 90, 91, 92, 93, 94, 95, 96, 97, 98, 99, 23, 100, 101, 102, 103, 104, 105, 106, 107, 108, 109, 110, 111, 112, 113, 114, 115, 116, 117, 175, 176, 177, 178, 179, 180, 181, 182, 183, 184, 185, 158, 159, 160, 161, 162, 163, 164, 165, 166, 167, 186, 187, 188, 189, 190, 191, 192, 193, 168, 169, 170, 171, 172, 173, 174] rfl (by decide +kernel)
set_option maxRecDepth 20000 in
theorem gX11_sure_X9_solve : GoodIn wsX11_sure (wsV RX11 148 RX9 yX9_solve wsX9_solve) := goodIn_app (goodIn_of _ (by decide +kernel)) ggX11_sure_X9_solve
set_option maxRecDepth 20000 in
set_option maxRecDepth 100000 in
theorem ggX11_sure_X9_hasLawful : GoodIn wsX11_sure wsX9_hasLawful := goodIn_r _ [121, 29, 113, 175, 176, 177, 178, 179, 180, 181, 182, 183, 184, 185] rfl (by decide +kernel)
set_option maxRecDepth 20000 in
theorem gX11_sure_X9_hasLawful : GoodIn wsX11_sure (wsV RX11 151 RX9 yX9_hasLawful wsX9_hasLawful) := goodIn_app (goodIn_of _ (by decide +kernel)) ggX11_sure_X9_hasLawful
set_option maxRecDepth 20000 in
set_option maxRecDepth 100000 in
theorem ggX11_sure_X9_agree : GoodIn wsX11_sure wsX9_agree := goodIn_r _ [125, 126, 27, 28, 127, 128, 129, 130, 93, 94, 95, 52, 96, 57, 131, 132, 133, 134, 135, 136, 137, 138, 139, 140, 23, 141, 29, 25, 97, 98, 99, 100, 101, 102, 103, 35, 104, 44, 45, 105, 106, 107, 108, 41, 42, 142, 143, 144, 114, 115, 116, 117, 47, 48, 175, 176, 177, 178, 179, 180, 181, 182, 183, 184, 185, 158, 159, 160, 161, 162, 163, 164, 165, 166, 167, 186, 187, 188, 189, 190, 191, 192, 193] rfl (by decide +kernel)
set_option maxRecDepth 20000 in
theorem gX11_sure_X9_agree : GoodIn wsX11_sure (wsV RX11 178 RX9 yX9_agree wsX9_agree) := goodIn_app (goodIn_of _ (by decide +kernel)) ggX11_sure_X9_agree
set_option maxRecDepth 20000 in
set_option maxRecDepth 100000 in
theorem ggX11_sure_X9_mayStandAbove : GoodIn wsX11_sure wsX9_mayStandAbove := goodIn_r _ [148, 129, 142, 143, 144, 175, 176, 177, 178, 179, 180, 181, 182, 183, 184, 185] rfl (by decide +kernel)
set_option maxRecDepth 20000 in
theorem gX11_sure_X9_mayStandAbove : GoodIn wsX11_sure (wsV RX11 184 RX9 yX9_mayStandAbove wsX9_mayStandAbove) := goodIn_app (goodIn_of _ (by decide +kernel)) ggX11_sure_X9_mayStandAbove
theorem dX11_sure_0 : decode cX11_sure 0 = .ok (.iload_n 1, 1) := by decide +kernel
theorem dX11_sure_1 : decode cX11_sure 1 = .ok (.iload_n 2, 1) := by decide +kernel
theorem dX11_sure_2 : decode cX11_sure 2 = .ok (.if_icmp .eq 25, 3) := by decide +kernel
theorem dX11_sure_5 : decode cX11_sure 5 = .ok (.aload_n 0, 1) := by decide +kernel
theorem dX11_sure_6 : decode cX11_sure 6 = .ok (.getfield 10, 3) := by decide +kernel
theorem dX11_sure_9 : decode cX11_sure 9 = .ok (.iload_n 1, 1) := by decide +kernel
theorem dX11_sure_10 : decode cX11_sure 10 = .ok (.invokevirtual 137, 3) := by decide +kernel
theorem dX11_sure_13 : decode cX11_sure 13 = .ok (.ifCond .eq 14, 3) := by decide +kernel
theorem dX11_sure_16 : decode cX11_sure 16 = .ok (.aload_n 0, 1) := by decide +kernel
theorem dX11_sure_17 : decode cX11_sure 17 = .ok (.getfield 10, 3) := by decide +kernel
theorem dX11_sure_20 : decode cX11_sure 20 = .ok (.iload_n 2, 1) := by decide +kernel
theorem dX11_sure_21 : decode cX11_sure 21 = .ok (.invokevirtual 137, 3) := by decide +kernel
theorem dX11_sure_24 : decode cX11_sure 24 = .ok (.ifCond .ne 7, 3) := by decide +kernel
theorem dX11_sure_27 : decode cX11_sure 27 = .ok (.ldc2_w 88, 3) := by decide +kernel
theorem dX11_sure_30 : decode cX11_sure 30 = .ok (.lreturn, 1) := by decide +kernel
theorem dX11_sure_31 : decode cX11_sure 31 = .ok (.aload_n 0, 1) := by decide +kernel
theorem dX11_sure_32 : decode cX11_sure 32 = .ok (.getfield 37, 3) := by decide +kernel
theorem dX11_sure_35 : decode cX11_sure 35 = .ok (.invokevirtual 148, 3) := by decide +kernel
theorem dX11_sure_38 : decode cX11_sure 38 = .ok (.aload_n 0, 1) := by decide +kernel
theorem dX11_sure_39 : decode cX11_sure 39 = .ok (.getfield 37, 3) := by decide +kernel
theorem dX11_sure_42 : decode cX11_sure 42 = .ok (.invokevirtual 151, 3) := by decide +kernel
theorem dX11_sure_45 : decode cX11_sure 45 = .ok (.ifCond .ne 7, 3) := by decide +kernel
theorem dX11_sure_48 : decode cX11_sure 48 = .ok (.ldc2_w 140, 3) := by decide +kernel
theorem dX11_sure_51 : decode cX11_sure 51 = .ok (.lreturn, 1) := by decide +kernel
theorem dX11_sure_52 : decode cX11_sure 52 = .ok (.aload_n 0, 1) := by decide +kernel
theorem dX11_sure_53 : decode cX11_sure 53 = .ok (.getfield 37, 3) := by decide +kernel
theorem dX11_sure_56 : decode cX11_sure 56 = .ok (.invokevirtual 178, 3) := by decide +kernel
theorem dX11_sure_59 : decode cX11_sure 59 = .ok (.aload_n 0, 1) := by decide +kernel
theorem dX11_sure_60 : decode cX11_sure 60 = .ok (.getfield 28, 3) := by decide +kernel
theorem dX11_sure_63 : decode cX11_sure 63 = .ok (.getfield 181, 3) := by decide +kernel
theorem dX11_sure_66 : decode cX11_sure 66 = .ok (.iload_n 1, 1) := by decide +kernel
theorem dX11_sure_67 : decode cX11_sure 67 = .ok (.iaload, 1) := by decide +kernel
theorem dX11_sure_68 : decode cX11_sure 68 = .ok (.istore_n 3, 1) := by decide +kernel
theorem dX11_sure_69 : decode cX11_sure 69 = .ok (.aload_n 0, 1) := by decide +kernel
theorem dX11_sure_70 : decode cX11_sure 70 = .ok (.getfield 28, 3) := by decide +kernel
theorem dX11_sure_73 : decode cX11_sure 73 = .ok (.getfield 181, 3) := by decide +kernel
theorem dX11_sure_76 : decode cX11_sure 76 = .ok (.iload_n 2, 1) := by decide +kernel
theorem dX11_sure_77 : decode cX11_sure 77 = .ok (.iaload, 1) := by decide +kernel
theorem dX11_sure_78 : decode cX11_sure 78 = .ok (.istore 4, 2) := by decide +kernel
theorem dX11_sure_80 : decode cX11_sure 80 = .ok (.aload_n 0, 1) := by decide +kernel
theorem dX11_sure_81 : decode cX11_sure 81 = .ok (.getfield 37, 3) := by decide +kernel
theorem dX11_sure_84 : decode cX11_sure 84 = .ok (.iload 4, 2) := by decide +kernel
theorem dX11_sure_86 : decode cX11_sure 86 = .ok (.iload_n 3, 1) := by decide +kernel
theorem dX11_sure_87 : decode cX11_sure 87 = .ok (.invokevirtual 184, 3) := by decide +kernel
theorem dX11_sure_90 : decode cX11_sure 90 = .ok (.ifCond .ne 5, 3) := by decide +kernel
theorem dX11_sure_93 : decode cX11_sure 93 = .ok (.lconst 1, 1) := by decide +kernel
theorem dX11_sure_94 : decode cX11_sure 94 = .ok (.lreturn, 1) := by decide +kernel
theorem dX11_sure_95 : decode cX11_sure 95 = .ok (.aload_n 0, 1) := by decide +kernel
theorem dX11_sure_96 : decode cX11_sure 96 = .ok (.getfield 37, 3) := by decide +kernel
theorem dX11_sure_99 : decode cX11_sure 99 = .ok (.iload_n 3, 1) := by decide +kernel
theorem dX11_sure_100 : decode cX11_sure 100 = .ok (.iload 4, 2) := by decide +kernel
theorem dX11_sure_102 : decode cX11_sure 102 = .ok (.invokevirtual 184, 3) := by decide +kernel
theorem dX11_sure_105 : decode cX11_sure 105 = .ok (.ifCond .eq 7, 3) := by decide +kernel
theorem dX11_sure_108 : decode cX11_sure 108 = .ok (.lconst 0, 1) := by decide +kernel
theorem dX11_sure_109 : decode cX11_sure 109 = .ok (.goto 6, 3) := by decide +kernel
theorem dX11_sure_112 : decode cX11_sure 112 = .ok (.ldc2_w 187, 3) := by decide +kernel
theorem dX11_sure_115 : decode cX11_sure 115 = .ok (.lreturn, 1) := by decide +kernel
set_option maxRecDepth 20000 in
set_option maxRecDepth 100000 in
theorem ggX11_why_X6_reason : GoodIn wsX11_why wsX6_reason := goodIn_r _ [6, 7, 8, 9, 10, 11, 12, 13, 14, 15, 16, 17, 18, 19, 20, 21, 22, 23, 24, 25, 26, 27, 28, 29, 30, 31, 32, 33, 34, 35, 36, 37, 38, 39, 40, 41, 42, 43, 44, 45, 46, 47, 48, 49, 50, 51, 52, 53, 54, 55, 56, 57, 58, 59, 60, 61, 62, 63, 64, 65, 66, 67, 5, 68, 69, 70, 71, 72, 73, 74, 75, 76, 77, 78, 79, 80, 81, 82, 83, 84, 85, 86, 87, 88, 89, 99, 100, 101, 102, 103, 104, 105, 106, 107, 108, 109, 110, 111, 112, 113, 114, 115, 116, 117, 118] rfl (by decide +kernel)
set_option maxRecDepth 20000 in
theorem gX11_why_X6_reason : GoodIn wsX11_why (wsV RX11 189 RX6 yX6_reason wsX6_reason) := goodIn_app (goodIn_of _ (by decide +kernel)) ggX11_why_X6_reason
theorem dX11_why_0 : decode cX11_why 0 = .ok (.aload_n 0, 1) := by decide +kernel
theorem dX11_why_1 : decode cX11_why 1 = .ok (.getfield 72, 3) := by decide +kernel
theorem dX11_why_4 : decode cX11_why 4 = .ok (.invokevirtual 189, 3) := by decide +kernel
theorem dX11_why_7 : decode cX11_why 7 = .ok (.lreturn, 1) := by decide +kernel
theorem dX11_begin_0 : decode cX11_begin 0 = .ok (.aload_n 0, 1) := by decide +kernel
theorem dX11_begin_1 : decode cX11_begin 1 = .ok (.getfield 44, 3) := by decide +kernel
theorem dX11_begin_4 : decode cX11_begin 4 = .ok (.getfield 166, 3) := by decide +kernel
theorem dX11_begin_7 : decode cX11_begin 7 = .ok (.istore_n 1, 1) := by decide +kernel
theorem dX11_begin_8 : decode cX11_begin 8 = .ok (.aload_n 0, 1) := by decide +kernel
theorem dX11_begin_9 : decode cX11_begin 9 = .ok (.getfield 44, 3) := by decide +kernel
theorem dX11_begin_12 : decode cX11_begin 12 = .ok (.iconst 0, 1) := by decide +kernel
theorem dX11_begin_13 : decode cX11_begin 13 = .ok (.putfield 166, 3) := by decide +kernel
theorem dX11_begin_16 : decode cX11_begin 16 = .ok (.iload_n 1, 1) := by decide +kernel
theorem dX11_begin_17 : decode cX11_begin 17 = .ok (.i2l, 1) := by decide +kernel
theorem dX11_begin_18 : decode cX11_begin 18 = .ok (.lreturn, 1) := by decide +kernel
set_option maxRecDepth 20000 in
set_option maxRecDepth 100000 in
theorem ggX11_stand_X2_has : GoodIn wsX11_stand wsX2_has := goodIn_r _ [10, 11, 34, 35, 36, 37, 38, 39, 40] rfl (by decide +kernel)
set_option maxRecDepth 20000 in
theorem gX11_stand_X2_has : GoodIn wsX11_stand (wsV RX11 99 RX2 yX2_has wsX2_has) := goodIn_app (goodIn_of _ (by decide +kernel)) ggX11_stand_X2_has
set_option maxRecDepth 20000 in
set_option maxRecDepth 100000 in
theorem ggX11_stand_X5_holds : GoodIn wsX11_stand wsX5_holds := goodIn_r _ [16, 17, 18, 32, 33] rfl (by decide +kernel)
set_option maxRecDepth 20000 in
theorem gX11_stand_X5_holds : GoodIn wsX11_stand (wsV RX11 192 RX5 yX5_holds wsX5_holds) := goodIn_app (goodIn_of _ (by decide +kernel)) ggX11_stand_X5_holds
set_option maxRecDepth 20000 in
set_option maxRecDepth 100000 in
theorem ggX11_stand_X5_append : GoodIn wsX11_stand wsX5_append := goodIn_r _ [22, 17, 18, 32, 33] rfl (by decide +kernel)
set_option maxRecDepth 20000 in
theorem gX11_stand_X5_append : GoodIn wsX11_stand (wsV RX11 195 RX5 yX5_append wsX5_append) := goodIn_app (goodIn_of _ (by decide +kernel)) ggX11_stand_X5_append
theorem dX11_stand_0 : decode cX11_stand 0 = .ok (.aload_n 0, 1) := by decide +kernel
theorem dX11_stand_1 : decode cX11_stand 1 = .ok (.getfield 10, 3) := by decide +kernel
theorem dX11_stand_4 : decode cX11_stand 4 = .ok (.iload_n 1, 1) := by decide +kernel
theorem dX11_stand_5 : decode cX11_stand 5 = .ok (.invokevirtual 99, 3) := by decide +kernel
theorem dX11_stand_8 : decode cX11_stand 8 = .ok (.ifCond .eq 14, 3) := by decide +kernel
theorem dX11_stand_11 : decode cX11_stand 11 = .ok (.aload_n 0, 1) := by decide +kernel
theorem dX11_stand_12 : decode cX11_stand 12 = .ok (.getfield 44, 3) := by decide +kernel
theorem dX11_stand_15 : decode cX11_stand 15 = .ok (.iload_n 1, 1) := by decide +kernel
theorem dX11_stand_16 : decode cX11_stand 16 = .ok (.invokevirtual 192, 3) := by decide +kernel
theorem dX11_stand_19 : decode cX11_stand 19 = .ok (.ifCond .eq 7, 3) := by decide +kernel
theorem dX11_stand_22 : decode cX11_stand 22 = .ok (.ldc2_w 88, 3) := by decide +kernel
theorem dX11_stand_25 : decode cX11_stand 25 = .ok (.lreturn, 1) := by decide +kernel
theorem dX11_stand_26 : decode cX11_stand 26 = .ok (.aload_n 0, 1) := by decide +kernel
theorem dX11_stand_27 : decode cX11_stand 27 = .ok (.getfield 44, 3) := by decide +kernel
theorem dX11_stand_30 : decode cX11_stand 30 = .ok (.getfield 166, 3) := by decide +kernel
theorem dX11_stand_33 : decode cX11_stand 33 = .ok (.bipush 12, 2) := by decide +kernel
theorem dX11_stand_35 : decode cX11_stand 35 = .ok (.if_icmp .lt 7, 3) := by decide +kernel
theorem dX11_stand_38 : decode cX11_stand 38 = .ok (.ldc2_w 90, 3) := by decide +kernel
theorem dX11_stand_41 : decode cX11_stand 41 = .ok (.lreturn, 1) := by decide +kernel
theorem dX11_stand_42 : decode cX11_stand 42 = .ok (.aload_n 0, 1) := by decide +kernel
theorem dX11_stand_43 : decode cX11_stand 43 = .ok (.getfield 44, 3) := by decide +kernel
theorem dX11_stand_46 : decode cX11_stand 46 = .ok (.iload_n 1, 1) := by decide +kernel
theorem dX11_stand_47 : decode cX11_stand 47 = .ok (.invokevirtual 195, 3) := by decide +kernel
theorem dX11_stand_50 : decode cX11_stand 50 = .ok (.aload_n 0, 1) := by decide +kernel
theorem dX11_stand_51 : decode cX11_stand 51 = .ok (.getfield 44, 3) := by decide +kernel
theorem dX11_stand_54 : decode cX11_stand 54 = .ok (.getfield 166, 3) := by decide +kernel
theorem dX11_stand_57 : decode cX11_stand 57 = .ok (.i2l, 1) := by decide +kernel
theorem dX11_stand_58 : decode cX11_stand 58 = .ok (.lreturn, 1) := by decide +kernel
set_option maxRecDepth 20000 in
set_option maxRecDepth 100000 in
theorem ggX11_order_X5_isPlace : GoodIn wsX11_order wsX5_isPlace := goodIn_r _ [8, 9, 19, 20] rfl (by decide +kernel)
set_option maxRecDepth 20000 in
theorem gX11_order_X5_isPlace : GoodIn wsX11_order (wsV RX11 199 RX5 yX5_isPlace wsX5_isPlace) := goodIn_app (goodIn_of _ (by decide +kernel)) ggX11_order_X5_isPlace
theorem dX11_order_0 : decode cX11_order 0 = .ok (.aload_n 0, 1) := by decide +kernel
theorem dX11_order_1 : decode cX11_order 1 = .ok (.getfield 44, 3) := by decide +kernel
theorem dX11_order_4 : decode cX11_order 4 = .ok (.iload_n 1, 1) := by decide +kernel
theorem dX11_order_5 : decode cX11_order 5 = .ok (.invokevirtual 199, 3) := by decide +kernel
theorem dX11_order_8 : decode cX11_order 8 = .ok (.ifCond .eq 16, 3) := by decide +kernel
theorem dX11_order_11 : decode cX11_order 11 = .ok (.aload_n 0, 1) := by decide +kernel
theorem dX11_order_12 : decode cX11_order 12 = .ok (.getfield 44, 3) := by decide +kernel
theorem dX11_order_15 : decode cX11_order 15 = .ok (.getfield 202, 3) := by decide +kernel
theorem dX11_order_18 : decode cX11_order 18 = .ok (.iload_n 1, 1) := by decide +kernel
theorem dX11_order_19 : decode cX11_order 19 = .ok (.iaload, 1) := by decide +kernel
theorem dX11_order_20 : decode cX11_order 20 = .ok (.i2l, 1) := by decide +kernel
theorem dX11_order_21 : decode cX11_order 21 = .ok (.goto 6, 3) := by decide +kernel
theorem dX11_order_24 : decode cX11_order 24 = .ok (.ldc2_w 88, 3) := by decide +kernel
theorem dX11_order_27 : decode cX11_order 27 = .ok (.lreturn, 1) := by decide +kernel
set_option maxRecDepth 20000 in
set_option maxRecDepth 100000 in
theorem ggX11_move_X5_isPlace : GoodIn wsX11_move wsX5_isPlace := goodIn_r _ [8, 9, 23, 24] rfl (by decide +kernel)
set_option maxRecDepth 20000 in
theorem gX11_move_X5_isPlace : GoodIn wsX11_move (wsV RX11 199 RX5 yX5_isPlace wsX5_isPlace) := goodIn_app (goodIn_of _ (by decide +kernel)) ggX11_move_X5_isPlace
set_option maxRecDepth 20000 in
set_option maxRecDepth 100000 in
theorem ggX11_move_X11_shift : GoodIn wsX11_move wsX11_shift := goodIn_r _ [13] rfl (by decide +kernel)
set_option maxRecDepth 20000 in
theorem gX11_move_X11_shift : GoodIn wsX11_move (va_wsS RX11 205 yX11_shift wsX11_shift) := goodIn_app (goodIn_of _ (by decide +kernel)) ggX11_move_X11_shift
theorem dX11_move_0 : decode cX11_move 0 = .ok (.aload_n 0, 1) := by decide +kernel
theorem dX11_move_1 : decode cX11_move 1 = .ok (.getfield 44, 3) := by decide +kernel
theorem dX11_move_4 : decode cX11_move 4 = .ok (.iload_n 1, 1) := by decide +kernel
theorem dX11_move_5 : decode cX11_move 5 = .ok (.invokevirtual 199, 3) := by decide +kernel
theorem dX11_move_8 : decode cX11_move 8 = .ok (.ifCond .eq 14, 3) := by decide +kernel
theorem dX11_move_11 : decode cX11_move 11 = .ok (.aload_n 0, 1) := by decide +kernel
theorem dX11_move_12 : decode cX11_move 12 = .ok (.getfield 44, 3) := by decide +kernel
theorem dX11_move_15 : decode cX11_move 15 = .ok (.iload_n 2, 1) := by decide +kernel
theorem dX11_move_16 : decode cX11_move 16 = .ok (.invokevirtual 199, 3) := by decide +kernel
theorem dX11_move_19 : decode cX11_move 19 = .ok (.ifCond .ne 7, 3) := by decide +kernel
theorem dX11_move_22 : decode cX11_move 22 = .ok (.ldc2_w 88, 3) := by decide +kernel
theorem dX11_move_25 : decode cX11_move 25 = .ok (.lreturn, 1) := by decide +kernel
theorem dX11_move_26 : decode cX11_move 26 = .ok (.aload_n 0, 1) := by decide +kernel
theorem dX11_move_27 : decode cX11_move 27 = .ok (.getfield 44, 3) := by decide +kernel
theorem dX11_move_30 : decode cX11_move 30 = .ok (.getfield 202, 3) := by decide +kernel
theorem dX11_move_33 : decode cX11_move 33 = .ok (.iload_n 1, 1) := by decide +kernel
theorem dX11_move_34 : decode cX11_move 34 = .ok (.iload_n 2, 1) := by decide +kernel
theorem dX11_move_35 : decode cX11_move 35 = .ok (.invokestatic 205, 3) := by decide +kernel
theorem dX11_move_38 : decode cX11_move 38 = .ok (.lconst 0, 1) := by decide +kernel
theorem dX11_move_39 : decode cX11_move 39 = .ok (.lreturn, 1) := by decide +kernel
set_option maxRecDepth 20000 in
set_option maxRecDepth 100000 in
theorem ggX11_weight_X7_readFrom : GoodIn wsX11_weight wsX7_readFrom := goodIn_r _ [8, 9, 10, 11, 12, 13, 14, 15, 16, 17, 18, 19, 20, 21, 22, 23, 24, 25, 26, 27, 28, 29, 30, 31, 32, 33, 34, 35, 36, 37, 38, 39, 40, 41, 42, 43, 44, 45, 46, 47, 48, 49, 50, 51, 52, 53, 54, 55, 56, 57, 58, 59, 60, 78, 79, 80, 81, 82, 83, 84, 85, 86, 87, 88, 89, 90, 91, 92, 93, 94, 95, 96, 97, 98, 99, 100] rfl (by decide +kernel)
set_option maxRecDepth 20000 in
theorem gX11_weight_X7_readFrom : GoodIn wsX11_weight (wsV RX11 167 RX7 yX7_readFrom wsX7_readFrom) := goodIn_app (goodIn_of _ (by decide +kernel)) ggX11_weight_X7_readFrom
set_option maxRecDepth 20000 in
set_option maxRecDepth 100000 in
theorem ggX11_weight_X7_upsetWeight : GoodIn wsX11_weight wsX7_upsetWeight := goodIn_r _ [64, 9, 11, 14, 65, 66, 67, 19, 68, 47, 78, 79, 80, 81, 84, 85, 86, 87, 88, 89, 90, 91, 92, 93] rfl (by decide +kernel)
set_option maxRecDepth 20000 in
theorem gX11_weight_X7_upsetWeight : GoodIn wsX11_weight (wsV RX11 209 RX7 yX7_upsetWeight wsX7_upsetWeight) := goodIn_app (goodIn_of _ (by decide +kernel)) ggX11_weight_X7_upsetWeight
theorem dX11_weight_0 : decode cX11_weight 0 = .ok (.aload_n 0, 1) := by decide +kernel
theorem dX11_weight_1 : decode cX11_weight 1 = .ok (.getfield 51, 3) := by decide +kernel
theorem dX11_weight_4 : decode cX11_weight 4 = .ok (.aload_n 0, 1) := by decide +kernel
theorem dX11_weight_5 : decode cX11_weight 5 = .ok (.getfield 44, 3) := by decide +kernel
theorem dX11_weight_8 : decode cX11_weight 8 = .ok (.invokevirtual 167, 3) := by decide +kernel
theorem dX11_weight_11 : decode cX11_weight 11 = .ok (.ifCond .eq 13, 3) := by decide +kernel
theorem dX11_weight_14 : decode cX11_weight 14 = .ok (.aload_n 0, 1) := by decide +kernel
theorem dX11_weight_15 : decode cX11_weight 15 = .ok (.getfield 51, 3) := by decide +kernel
theorem dX11_weight_18 : decode cX11_weight 18 = .ok (.invokevirtual 209, 3) := by decide +kernel
theorem dX11_weight_21 : decode cX11_weight 21 = .ok (.goto 6, 3) := by decide +kernel
theorem dX11_weight_24 : decode cX11_weight 24 = .ok (.ldc2_w 113, 3) := by decide +kernel
theorem dX11_weight_27 : decode cX11_weight 27 = .ok (.lreturn, 1) := by decide +kernel
set_option maxRecDepth 20000 in
set_option maxRecDepth 100000 in
theorem ggX11_fault_X7_readFrom : GoodIn wsX11_fault wsX7_readFrom := goodIn_r _ [8, 9, 10, 11, 12, 13, 14, 15, 16, 17, 18, 19, 20, 21, 22, 23, 24, 25, 26, 27, 28, 29, 30, 31, 32, 33, 34, 35, 36, 37, 38, 39, 40, 41, 42, 43, 44, 45, 46, 47, 48, 49, 50, 51, 52, 53, 54, 55, 56, 57, 58, 59, 60, 82, 83, 84, 85, 86, 87, 88, 89, 90, 91, 92, 93, 94, 95, 96, 97, 98, 99, 100, 101, 102, 103, 104] rfl (by decide +kernel)
set_option maxRecDepth 20000 in
theorem gX11_fault_X7_readFrom : GoodIn wsX11_fault (wsV RX11 167 RX7 yX7_readFrom wsX7_readFrom) := goodIn_app (goodIn_of _ (by decide +kernel)) ggX11_fault_X7_readFrom
set_option maxRecDepth 20000 in
set_option maxRecDepth 100000 in
theorem ggX11_fault_X7_leastFault : GoodIn wsX11_fault wsX7_leastFault := goodIn_r _ [64, 9, 11, 65, 66, 67, 68, 69, 7, 70, 71, 15, 72, 82, 83, 84, 85, 88, 89, 90, 91, 92, 93, 94, 95, 96, 97] rfl (by decide +kernel)
set_option maxRecDepth 20000 in
theorem gX11_fault_X7_leastFault : GoodIn wsX11_fault (wsV RX11 212 RX7 yX7_leastFault wsX7_leastFault) := goodIn_app (goodIn_of _ (by decide +kernel)) ggX11_fault_X7_leastFault
theorem dX11_fault_0 : decode cX11_fault 0 = .ok (.aload_n 0, 1) := by decide +kernel
theorem dX11_fault_1 : decode cX11_fault 1 = .ok (.getfield 51, 3) := by decide +kernel
theorem dX11_fault_4 : decode cX11_fault 4 = .ok (.aload_n 0, 1) := by decide +kernel
theorem dX11_fault_5 : decode cX11_fault 5 = .ok (.getfield 44, 3) := by decide +kernel
theorem dX11_fault_8 : decode cX11_fault 8 = .ok (.invokevirtual 167, 3) := by decide +kernel
theorem dX11_fault_11 : decode cX11_fault 11 = .ok (.ifCond .eq 13, 3) := by decide +kernel
theorem dX11_fault_14 : decode cX11_fault 14 = .ok (.aload_n 0, 1) := by decide +kernel
theorem dX11_fault_15 : decode cX11_fault 15 = .ok (.getfield 51, 3) := by decide +kernel
theorem dX11_fault_18 : decode cX11_fault 18 = .ok (.invokevirtual 212, 3) := by decide +kernel
theorem dX11_fault_21 : decode cX11_fault 21 = .ok (.goto 6, 3) := by decide +kernel
theorem dX11_fault_24 : decode cX11_fault 24 = .ok (.ldc2_w 113, 3) := by decide +kernel
theorem dX11_fault_27 : decode cX11_fault 27 = .ok (.lreturn, 1) := by decide +kernel
set_option maxRecDepth 20000 in
set_option maxRecDepth 100000 in
theorem ggX11_better_X7_readFrom : GoodIn wsX11_better wsX7_readFrom := goodIn_r _ [9, 10, 11, 12, 13, 14, 15, 16, 17, 18, 19, 20, 21, 22, 23, 24, 25, 26, 27, 28, 29, 30, 31, 32, 33, 34, 35, 36, 37, 38, 39, 40, 41, 42, 43, 44, 45, 46, 47, 48, 49, 50, 51, 52, 53, 54, 55, 56, 57, 58, 59, 60, 61, 125, 126, 127, 128, 129, 130, 131, 132, 133, 134, 135, 136, 137, 138, 139, 140, 141, 142, 143, 144, 145, 146, 147] rfl (by decide +kernel)
set_option maxRecDepth 20000 in
theorem gX11_better_X7_readFrom : GoodIn wsX11_better (wsV RX11 167 RX7 yX7_readFrom wsX7_readFrom) := goodIn_app (goodIn_of _ (by decide +kernel)) ggX11_better_X7_readFrom
set_option maxRecDepth 20000 in
set_option maxRecDepth 100000 in
theorem ggX11_better_X7_improve : GoodIn wsX11_better wsX7_improve := goodIn_r _ [65, 10, 12, 16, 66, 67, 68, 69, 8, 70, 15, 71, 72, 73, 20, 74, 48, 75, 76, 77, 78, 79, 80, 81, 82, 83, 84, 85, 86, 87, 88, 89, 90, 91, 92, 93, 94, 95, 96, 97, 98, 99, 100, 101, 102, 103, 104, 125, 126, 127, 128, 131, 132, 133, 134, 135, 136, 137, 138, 139, 140] rfl (by decide +kernel)
set_option maxRecDepth 20000 in
theorem gX11_better_X7_improve : GoodIn wsX11_better (wsV RX11 215 RX7 yX7_improve wsX7_improve) := goodIn_app (goodIn_of _ (by decide +kernel)) ggX11_better_X7_improve
set_option maxRecDepth 20000 in
set_option maxRecDepth 100000 in
theorem ggX11_better_X7_writeTo : GoodIn wsX11_better wsX7_writeTo := goodIn_r _ [108, 11, 10, 12, 98, 15, 109, 110, 111, 112, 113, 114, 115, 129, 130, 125, 126, 127, 128, 131, 132, 133, 134, 135, 136, 137, 138, 139, 140] rfl (by decide +kernel)
set_option maxRecDepth 20000 in
theorem gX11_better_X7_writeTo : GoodIn wsX11_better (wsV RX11 218 RX7 yX7_writeTo wsX7_writeTo) := goodIn_app (goodIn_of _ (by decide +kernel)) ggX11_better_X7_writeTo
theorem dX11_better_0 : decode cX11_better 0 = .ok (.iload_n 1, 1) := by decide +kernel
theorem dX11_better_1 : decode cX11_better 1 = .ok (.iconst 1, 1) := by decide +kernel
theorem dX11_better_2 : decode cX11_better 2 = .ok (.if_icmp .lt 9, 3) := by decide +kernel
theorem dX11_better_5 : decode cX11_better 5 = .ok (.iload_n 1, 1) := by decide +kernel
theorem dX11_better_6 : decode cX11_better 6 = .ok (.bipush 40, 2) := by decide +kernel
theorem dX11_better_8 : decode cX11_better 8 = .ok (.if_icmp .le 7, 3) := by decide +kernel
theorem dX11_better_11 : decode cX11_better 11 = .ok (.ldc2_w 88, 3) := by decide +kernel
theorem dX11_better_14 : decode cX11_better 14 = .ok (.lreturn, 1) := by decide +kernel
theorem dX11_better_15 : decode cX11_better 15 = .ok (.aload_n 0, 1) := by decide +kernel
theorem dX11_better_16 : decode cX11_better 16 = .ok (.getfield 51, 3) := by decide +kernel
theorem dX11_better_19 : decode cX11_better 19 = .ok (.aload_n 0, 1) := by decide +kernel
theorem dX11_better_20 : decode cX11_better 20 = .ok (.getfield 44, 3) := by decide +kernel
theorem dX11_better_23 : decode cX11_better 23 = .ok (.invokevirtual 167, 3) := by decide +kernel
theorem dX11_better_26 : decode cX11_better 26 = .ok (.ifCond .ne 7, 3) := by decide +kernel
theorem dX11_better_29 : decode cX11_better 29 = .ok (.ldc2_w 113, 3) := by decide +kernel
theorem dX11_better_32 : decode cX11_better 32 = .ok (.lreturn, 1) := by decide +kernel
theorem dX11_better_33 : decode cX11_better 33 = .ok (.iconst 0, 1) := by decide +kernel
theorem dX11_better_34 : decode cX11_better 34 = .ok (.istore_n 2, 1) := by decide +kernel
theorem dX11_better_35 : decode cX11_better 35 = .ok (.iload_n 2, 1) := by decide +kernel
theorem dX11_better_36 : decode cX11_better 36 = .ok (.iload_n 1, 1) := by decide +kernel
theorem dX11_better_37 : decode cX11_better 37 = .ok (.if_icmp .ge 19, 3) := by decide +kernel
theorem dX11_better_40 : decode cX11_better 40 = .ok (.aload_n 0, 1) := by decide +kernel
theorem dX11_better_41 : decode cX11_better 41 = .ok (.getfield 51, 3) := by decide +kernel
theorem dX11_better_44 : decode cX11_better 44 = .ok (.invokevirtual 215, 3) := by decide +kernel
theorem dX11_better_47 : decode cX11_better 47 = .ok (.ifCond .eq 9, 3) := by decide +kernel
theorem dX11_better_50 : decode cX11_better 50 = .ok (.iinc 2 1, 3) := by decide +kernel
theorem dX11_better_53 : decode cX11_better 53 = .ok (.goto (-18), 3) := by decide +kernel
theorem dX11_better_56 : decode cX11_better 56 = .ok (.aload_n 0, 1) := by decide +kernel
theorem dX11_better_57 : decode cX11_better 57 = .ok (.getfield 51, 3) := by decide +kernel
theorem dX11_better_60 : decode cX11_better 60 = .ok (.aload_n 0, 1) := by decide +kernel
theorem dX11_better_61 : decode cX11_better 61 = .ok (.getfield 44, 3) := by decide +kernel
theorem dX11_better_64 : decode cX11_better 64 = .ok (.invokevirtual 218, 3) := by decide +kernel
theorem dX11_better_67 : decode cX11_better 67 = .ok (.iload_n 2, 1) := by decide +kernel
theorem dX11_better_68 : decode cX11_better 68 = .ok (.i2l, 1) := by decide +kernel
theorem dX11_better_69 : decode cX11_better 69 = .ok (.lreturn, 1) := by decide +kernel
set_option maxRecDepth 20000 in
set_option maxRecDepth 100000 in
theorem ggX11_turn_X5_reverse : GoodIn wsX11_turn wsX5_reverse := goodIn_r _ [6, 7, 8, 18, 19] rfl (by decide +kernel)
set_option maxRecDepth 20000 in
theorem gX11_turn_X5_reverse : GoodIn wsX11_turn (wsV RX11 222 RX5 yX5_reverse wsX5_reverse) := goodIn_app (goodIn_of _ (by decide +kernel)) ggX11_turn_X5_reverse
theorem dX11_turn_0 : decode cX11_turn 0 = .ok (.aload_n 0, 1) := by decide +kernel
theorem dX11_turn_1 : decode cX11_turn 1 = .ok (.getfield 44, 3) := by decide +kernel
theorem dX11_turn_4 : decode cX11_turn 4 = .ok (.invokevirtual 222, 3) := by decide +kernel
theorem dX11_turn_7 : decode cX11_turn 7 = .ok (.lconst 0, 1) := by decide +kernel
theorem dX11_turn_8 : decode cX11_turn 8 = .ok (.lreturn, 1) := by decide +kernel
set_option maxRecDepth 20000 in
set_option maxRecDepth 100000 in
theorem ggX11_groups_X3_settle : GoodIn wsX11_groups wsX3_settle := goodIn_r _ [7, 8, 9, 10, 11, 12, 13, 14, 15, 16, 17, 18, 19, 20, 21, 22, 23, 24, 25, 26, 27, 28, 29, 30, 31, 32, 33, 34, 35, 36, 37, 38, 39, 40, 41, 42, 43, 44, 45, 46, 47, 48, 49, 50, 51, 52, 53, 54, 55, 56, 57, 58, 59, 60, 61, 6, 62, 63, 64, 65, 66, 67, 68, 69, 70, 71, 72, 73, 74, 75, 76, 77, 78, 79, 80, 81, 82, 92, 93, 94, 95, 96, 97, 98, 99, 100, 101, 102, 103, 104, 105, 106, 107, 108, 109, 110, 111, 112, 113] rfl (by decide +kernel)
set_option maxRecDepth 20000 in
theorem gX11_groups_X3_settle : GoodIn wsX11_groups (wsV RX11 225 RX3 yX3_settle wsX3_settle) := goodIn_app (goodIn_of _ (by decide +kernel)) ggX11_groups_X3_settle
theorem dX11_groups_0 : decode cX11_groups 0 = .ok (.aload_n 0, 1) := by decide +kernel
theorem dX11_groups_1 : decode cX11_groups 1 = .ok (.getfield 58, 3) := by decide +kernel
theorem dX11_groups_4 : decode cX11_groups 4 = .ok (.invokevirtual 225, 3) := by decide +kernel
theorem dX11_groups_7 : decode cX11_groups 7 = .ok (.aload_n 0, 1) := by decide +kernel
theorem dX11_groups_8 : decode cX11_groups 8 = .ok (.getfield 58, 3) := by decide +kernel
theorem dX11_groups_11 : decode cX11_groups 11 = .ok (.getfield 228, 3) := by decide +kernel
theorem dX11_groups_14 : decode cX11_groups 14 = .ok (.i2l, 1) := by decide +kernel
theorem dX11_groups_15 : decode cX11_groups 15 = .ok (.lreturn, 1) := by decide +kernel
set_option maxRecDepth 20000 in
set_option maxRecDepth 100000 in
theorem ggX11_groupOf_X2_has : GoodIn wsX11_groupOf wsX2_has := goodIn_r _ [12, 13, 114, 115, 116, 117, 118, 119, 120] rfl (by decide +kernel)
set_option maxRecDepth 20000 in
theorem gX11_groupOf_X2_has : GoodIn wsX11_groupOf (wsV RX11 99 RX2 yX2_has wsX2_has) := goodIn_app (goodIn_of _ (by decide +kernel)) ggX11_groupOf_X2_has
set_option maxRecDepth 20000 in
set_option maxRecDepth 100000 in
theorem ggX11_groupOf_X2_isCounted : GoodIn wsX11_groupOf wsX2_isCounted := goodIn_r _ [17, 18, 19, 20, 9, 10, 11, 12, 13, 114, 115, 116, 117, 118, 119, 120] rfl (by decide +kernel)
set_option maxRecDepth 20000 in
theorem gX11_groupOf_X2_isCounted : GoodIn wsX11_groupOf (wsV RX11 137 RX2 yX2_isCounted wsX2_isCounted) := goodIn_app (goodIn_of _ (by decide +kernel)) ggX11_groupOf_X2_isCounted
set_option maxRecDepth 20000 in
set_option maxRecDepth 100000 in
theorem ggX11_groupOf_X3_settle : GoodIn wsX11_groupOf wsX3_settle := goodIn_r _ [25, 26, 27, 28, 29, 30, 31, 32, 33, 34, 35, 36, 37, 38, 39, 40, 41, 42, 43, 44, 45, 46, 47, 15, 16, 11, 17, 18, 19, 20, 9, 10, 12, 13, 48, 49, 50, 51, 52, 53, 54, 55, 56, 57, 58, 59, 60, 61, 62, 63, 64, 65, 66, 67, 68, 24, 69, 70, 71, 72, 73, 74, 75, 76, 77, 78, 79, 80, 81, 82, 83, 84, 85, 86, 87, 88, 89, 99, 100, 101, 102, 103, 104, 105, 106, 107, 108, 109, 110, 111, 112, 113, 114, 115, 116, 117, 118, 119, 120] rfl (by decide +kernel)
set_option maxRecDepth 20000 in
theorem gX11_groupOf_X3_settle : GoodIn wsX11_groupOf (wsV RX11 225 RX3 yX3_settle wsX3_settle) := goodIn_app (goodIn_of _ (by decide +kernel)) ggX11_groupOf_X3_settle
theorem dX11_groupOf_0 : decode cX11_groupOf 0 = .ok (.aload_n 0, 1) := by decide +kernel
theorem dX11_groupOf_1 : decode cX11_groupOf 1 = .ok (.getfield 10, 3) := by decide +kernel
theorem dX11_groupOf_4 : decode cX11_groupOf 4 = .ok (.iload_n 1, 1) := by decide +kernel
theorem dX11_groupOf_5 : decode cX11_groupOf 5 = .ok (.invokevirtual 99, 3) := by decide +kernel
theorem dX11_groupOf_8 : decode cX11_groupOf 8 = .ok (.ifCond .ne 7, 3) := by decide +kernel
theorem dX11_groupOf_11 : decode cX11_groupOf 11 = .ok (.ldc2_w 88, 3) := by decide +kernel
theorem dX11_groupOf_14 : decode cX11_groupOf 14 = .ok (.lreturn, 1) := by decide +kernel
theorem dX11_groupOf_15 : decode cX11_groupOf 15 = .ok (.aload_n 0, 1) := by decide +kernel
theorem dX11_groupOf_16 : decode cX11_groupOf 16 = .ok (.getfield 10, 3) := by decide +kernel
theorem dX11_groupOf_19 : decode cX11_groupOf 19 = .ok (.iload_n 1, 1) := by decide +kernel
theorem dX11_groupOf_20 : decode cX11_groupOf 20 = .ok (.invokevirtual 137, 3) := by decide +kernel
theorem dX11_groupOf_23 : decode cX11_groupOf 23 = .ok (.ifCond .ne 7, 3) := by decide +kernel
theorem dX11_groupOf_26 : decode cX11_groupOf 26 = .ok (.ldc2_w 140, 3) := by decide +kernel
theorem dX11_groupOf_29 : decode cX11_groupOf 29 = .ok (.lreturn, 1) := by decide +kernel
theorem dX11_groupOf_30 : decode cX11_groupOf 30 = .ok (.aload_n 0, 1) := by decide +kernel
theorem dX11_groupOf_31 : decode cX11_groupOf 31 = .ok (.getfield 58, 3) := by decide +kernel
theorem dX11_groupOf_34 : decode cX11_groupOf 34 = .ok (.invokevirtual 225, 3) := by decide +kernel
theorem dX11_groupOf_37 : decode cX11_groupOf 37 = .ok (.aload_n 0, 1) := by decide +kernel
theorem dX11_groupOf_38 : decode cX11_groupOf 38 = .ok (.getfield 58, 3) := by decide +kernel
theorem dX11_groupOf_41 : decode cX11_groupOf 41 = .ok (.getfield 229, 3) := by decide +kernel
theorem dX11_groupOf_44 : decode cX11_groupOf 44 = .ok (.aload_n 0, 1) := by decide +kernel
theorem dX11_groupOf_45 : decode cX11_groupOf 45 = .ok (.getfield 28, 3) := by decide +kernel
theorem dX11_groupOf_48 : decode cX11_groupOf 48 = .ok (.getfield 181, 3) := by decide +kernel
theorem dX11_groupOf_51 : decode cX11_groupOf 51 = .ok (.iload_n 1, 1) := by decide +kernel
theorem dX11_groupOf_52 : decode cX11_groupOf 52 = .ok (.iaload, 1) := by decide +kernel
theorem dX11_groupOf_53 : decode cX11_groupOf 53 = .ok (.iaload, 1) := by decide +kernel
theorem dX11_groupOf_54 : decode cX11_groupOf 54 = .ok (.i2l, 1) := by decide +kernel
theorem dX11_groupOf_55 : decode cX11_groupOf 55 = .ok (.lreturn, 1) := by decide +kernel
set_option maxRecDepth 20000 in
set_option maxRecDepth 100000 in
theorem ggX11_loose_X9_looseWeight : GoodIn wsX11_loose wsX9_looseWeight := goodIn_r _ [6, 7, 8, 9, 10, 11, 12, 13, 14, 15, 16, 17, 18, 19, 20, 21, 22, 23, 24, 25, 26, 27, 28, 29, 30, 31, 32, 33, 34, 35, 36, 37, 38, 39, 40, 41, 42, 43, 44, 45, 46, 47, 48, 49, 50, 51, 52, 53, 54, 55, 56, 57, 58, 59, 60, 61, 62, 63, 64, 65, 66, 67, 68, 69, 70, 71, 72, 73, 74, 75, 76, 77, 78, 79, 80, 81, 82, 83, 84, 85, 86, 5, 87, 88, 89, 90, 91, 92, 93, 94, 95, 96, 97, 98, 108, 109, 110, 111, 112, 113, 114, 115, 116, 117, 118, 119, 120, 121, 122, 123, 124, 125, 126, 127, 128, 129, 130, 131, 132, 133, 134, 135, 136, 137, 138, 139, 140, 141, 142, 143] rfl (by decide +kernel)
set_option maxRecDepth 20000 in
theorem gX11_loose_X9_looseWeight : GoodIn wsX11_loose (wsV RX11 232 RX9 yX9_looseWeight wsX9_looseWeight) := goodIn_app (goodIn_of _ (by decide +kernel)) ggX11_loose_X9_looseWeight
theorem dX11_loose_0 : decode cX11_loose 0 = .ok (.aload_n 0, 1) := by decide +kernel
theorem dX11_loose_1 : decode cX11_loose 1 = .ok (.getfield 37, 3) := by decide +kernel
theorem dX11_loose_4 : decode cX11_loose 4 = .ok (.invokevirtual 232, 3) := by decide +kernel
theorem dX11_loose_7 : decode cX11_loose 7 = .ok (.lreturn, 1) := by decide +kernel
set_option maxRecDepth 20000 in
set_option maxRecDepth 100000 in
theorem ggX11_pack_X10_packAll : GoodIn wsX11_pack wsX10_packAll := goodIn_r _ [6, 7, 8, 9, 10, 11, 12, 13, 14, 15, 16, 17, 18, 19, 20, 21, 22, 23, 24, 25, 26, 27, 28, 29, 30, 31, 32, 33, 34, 35, 36, 37, 38, 39, 40, 41, 42, 43, 44, 45, 46, 47, 48, 49, 50, 51, 52, 53, 54, 55, 56, 5, 57, 58, 59, 60, 61, 62, 63, 64, 65, 66, 67, 68, 69, 70, 71, 72, 73, 74, 75, 76, 77, 78, 79, 80, 81, 82, 83, 84, 85, 86, 87, 88, 89, 90, 91, 92, 93, 94, 95, 96, 97, 98, 99, 100, 101, 102, 103, 104, 105, 106, 107, 108, 109, 110, 111, 112, 113, 114, 115, 116, 117, 118, 119, 120, 121, 122, 123, 124, 125, 135, 136, 137, 138, 139, 140, 141, 142, 143, 144, 145, 146, 147, 148, 149, 150, 151, 152, 153, 154, 155, 156, 157, 158, 159, 160, 161] rfl (by decide +kernel)
set_option maxRecDepth 20000 in
theorem gX11_pack_X10_packAll : GoodIn wsX11_pack (wsV RX11 235 RX10 yX10_packAll wsX10_packAll) := goodIn_app (goodIn_of _ (by decide +kernel)) ggX11_pack_X10_packAll
theorem dX11_pack_0 : decode cX11_pack 0 = .ok (.aload_n 0, 1) := by decide +kernel
theorem dX11_pack_1 : decode cX11_pack 1 = .ok (.getfield 65, 3) := by decide +kernel
theorem dX11_pack_4 : decode cX11_pack 4 = .ok (.invokevirtual 235, 3) := by decide +kernel
theorem dX11_pack_7 : decode cX11_pack 7 = .ok (.lreturn, 1) := by decide +kernel
set_option maxRecDepth 20000 in
set_option maxRecDepth 100000 in
theorem ggX11_ring_X10_tell : GoodIn wsX11_ring wsX10_tell := goodIn_r _ [9, 10, 11, 12, 13, 23, 24, 25, 26, 27, 28, 29, 30, 31, 32] rfl (by decide +kernel)
set_option maxRecDepth 20000 in
theorem gX11_ring_X10_tell : GoodIn wsX11_ring (wsV RX11 239 RX10 yX10_tell wsX10_tell) := goodIn_app (goodIn_of _ (by decide +kernel)) ggX11_ring_X10_tell
theorem dX11_ring_0 : decode cX11_ring 0 = .ok (.iload_n 1, 1) := by decide +kernel
theorem dX11_ring_1 : decode cX11_ring 1 = .ok (.ifCond .lt 7, 3) := by decide +kernel
theorem dX11_ring_4 : decode cX11_ring 4 = .ok (.iload_n 2, 1) := by decide +kernel
theorem dX11_ring_5 : decode cX11_ring 5 = .ok (.ifCond .ge 7, 3) := by decide +kernel
theorem dX11_ring_8 : decode cX11_ring 8 = .ok (.ldc2_w 88, 3) := by decide +kernel
theorem dX11_ring_11 : decode cX11_ring 11 = .ok (.lreturn, 1) := by decide +kernel
theorem dX11_ring_12 : decode cX11_ring 12 = .ok (.iload_n 1, 1) := by decide +kernel
theorem dX11_ring_13 : decode cX11_ring 13 = .ok (.aload_n 0, 1) := by decide +kernel
theorem dX11_ring_14 : decode cX11_ring 14 = .ok (.getfield 65, 3) := by decide +kernel
theorem dX11_ring_17 : decode cX11_ring 17 = .ok (.getfield 238, 3) := by decide +kernel
theorem dX11_ring_20 : decode cX11_ring 20 = .ok (.if_icmp .ge 15, 3) := by decide +kernel
theorem dX11_ring_23 : decode cX11_ring 23 = .ok (.aload_n 0, 1) := by decide +kernel
theorem dX11_ring_24 : decode cX11_ring 24 = .ok (.getfield 65, 3) := by decide +kernel
theorem dX11_ring_27 : decode cX11_ring 27 = .ok (.iload_n 1, 1) := by decide +kernel
theorem dX11_ring_28 : decode cX11_ring 28 = .ok (.iload_n 2, 1) := by decide +kernel
theorem dX11_ring_29 : decode cX11_ring 29 = .ok (.invokevirtual 239, 3) := by decide +kernel
theorem dX11_ring_32 : decode cX11_ring 32 = .ok (.goto 6, 3) := by decide +kernel
theorem dX11_ring_35 : decode cX11_ring 35 = .ok (.ldc2_w 140, 3) := by decide +kernel
theorem dX11_ring_38 : decode cX11_ring 38 = .ok (.lreturn, 1) := by decide +kernel
set_option maxRecDepth 20000 in
set_option maxRecDepth 100000 in
theorem ggX11_count_X8_gather : GoodIn wsX11_count wsX8_gather := goodIn_r _ [16, 17, 18, 19, 20, 21, 22, 23, 24, 25, 26, 27, 28, 29, 30, 31, 32, 33, 34, 35, 36, 37, 38, 39, 40, 41, 15, 42, 43, 44, 45, 46, 47, 48, 49, 50, 51, 52, 53, 54, 55, 56, 86, 87, 88, 89, 90, 91, 92, 93, 94, 95, 79, 80, 81, 82, 83, 84, 85] rfl (by decide +kernel)
set_option maxRecDepth 20000 in
theorem gX11_count_X8_gather : GoodIn wsX11_count (wsV RX11 243 RX8 yX8_gather wsX8_gather) := goodIn_app (goodIn_of _ (by decide +kernel)) ggX11_count_X8_gather
set_option maxRecDepth 20000 in
set_option maxRecDepth 100000 in
theorem ggX11_count_X8_allPecks : GoodIn wsX11_count wsX8_allPecks := goodIn_r _ [60, 20, 61, 62, 63, 15, 64, 43, 86, 87, 88, 89, 90, 91, 92, 93, 94, 95] rfl (by decide +kernel)
set_option maxRecDepth 20000 in
theorem gX11_count_X8_allPecks : GoodIn wsX11_count (wsV RX11 247 RX8 yX8_allPecks wsX8_allPecks) := goodIn_app (goodIn_of _ (by decide +kernel)) ggX11_count_X8_allPecks
set_option maxRecDepth 20000 in
set_option maxRecDepth 100000 in
theorem ggX11_count_X2_penCount : GoodIn wsX11_count wsX2_penCount := goodIn_r _ [68, 38, 69, 79, 80, 81, 82, 83, 84, 85] rfl (by decide +kernel)
set_option maxRecDepth 20000 in
theorem gX11_count_X2_penCount : GoodIn wsX11_count (wsV RX11 250 RX2 yX2_penCount wsX2_penCount) := goodIn_app (goodIn_of _ (by decide +kernel)) ggX11_count_X2_penCount
theorem dX11_count_0 : decode cX11_count 0 = .ok (.iload_n 1, 1) := by decide +kernel
theorem dX11_count_1 : decode cX11_count 1 = .ok (.tableswitch 119 0 6 #[43, 52, 68, 77, 86, 95, 110], 43) := by decide +kernel
theorem dX11_count_44 : decode cX11_count 44 = .ok (.aload_n 0, 1) := by decide +kernel
theorem dX11_count_45 : decode cX11_count 45 = .ok (.getfield 10, 3) := by decide +kernel
theorem dX11_count_48 : decode cX11_count 48 = .ok (.getfield 80, 3) := by decide +kernel
theorem dX11_count_51 : decode cX11_count 51 = .ok (.i2l, 1) := by decide +kernel
theorem dX11_count_52 : decode cX11_count 52 = .ok (.lreturn, 1) := by decide +kernel
theorem dX11_count_53 : decode cX11_count 53 = .ok (.aload_n 0, 1) := by decide +kernel
theorem dX11_count_54 : decode cX11_count 54 = .ok (.getfield 28, 3) := by decide +kernel
theorem dX11_count_57 : decode cX11_count 57 = .ok (.invokevirtual 243, 3) := by decide +kernel
theorem dX11_count_60 : decode cX11_count 60 = .ok (.aload_n 0, 1) := by decide +kernel
theorem dX11_count_61 : decode cX11_count 61 = .ok (.getfield 28, 3) := by decide +kernel
theorem dX11_count_64 : decode cX11_count 64 = .ok (.getfield 246, 3) := by decide +kernel
theorem dX11_count_67 : decode cX11_count 67 = .ok (.i2l, 1) := by decide +kernel
theorem dX11_count_68 : decode cX11_count 68 = .ok (.lreturn, 1) := by decide +kernel
theorem dX11_count_69 : decode cX11_count 69 = .ok (.aload_n 0, 1) := by decide +kernel
theorem dX11_count_70 : decode cX11_count 70 = .ok (.getfield 44, 3) := by decide +kernel
theorem dX11_count_73 : decode cX11_count 73 = .ok (.getfield 166, 3) := by decide +kernel
theorem dX11_count_76 : decode cX11_count 76 = .ok (.i2l, 1) := by decide +kernel
theorem dX11_count_77 : decode cX11_count 77 = .ok (.lreturn, 1) := by decide +kernel
theorem dX11_count_78 : decode cX11_count 78 = .ok (.aload_n 0, 1) := by decide +kernel
theorem dX11_count_79 : decode cX11_count 79 = .ok (.getfield 19, 3) := by decide +kernel
theorem dX11_count_82 : decode cX11_count 82 = .ok (.getfield 142, 3) := by decide +kernel
theorem dX11_count_85 : decode cX11_count 85 = .ok (.i2l, 1) := by decide +kernel
theorem dX11_count_86 : decode cX11_count 86 = .ok (.lreturn, 1) := by decide +kernel
theorem dX11_count_87 : decode cX11_count 87 = .ok (.aload_n 0, 1) := by decide +kernel
theorem dX11_count_88 : decode cX11_count 88 = .ok (.getfield 65, 3) := by decide +kernel
theorem dX11_count_91 : decode cX11_count 91 = .ok (.getfield 238, 3) := by decide +kernel
theorem dX11_count_94 : decode cX11_count 94 = .ok (.i2l, 1) := by decide +kernel
theorem dX11_count_95 : decode cX11_count 95 = .ok (.lreturn, 1) := by decide +kernel
theorem dX11_count_96 : decode cX11_count 96 = .ok (.aload_n 0, 1) := by decide +kernel
theorem dX11_count_97 : decode cX11_count 97 = .ok (.getfield 28, 3) := by decide +kernel
theorem dX11_count_100 : decode cX11_count 100 = .ok (.invokevirtual 243, 3) := by decide +kernel
theorem dX11_count_103 : decode cX11_count 103 = .ok (.aload_n 0, 1) := by decide +kernel
theorem dX11_count_104 : decode cX11_count 104 = .ok (.getfield 28, 3) := by decide +kernel
theorem dX11_count_107 : decode cX11_count 107 = .ok (.invokevirtual 247, 3) := by decide +kernel
theorem dX11_count_110 : decode cX11_count 110 = .ok (.lreturn, 1) := by decide +kernel
theorem dX11_count_111 : decode cX11_count 111 = .ok (.aload_n 0, 1) := by decide +kernel
theorem dX11_count_112 : decode cX11_count 112 = .ok (.getfield 10, 3) := by decide +kernel
theorem dX11_count_115 : decode cX11_count 115 = .ok (.invokevirtual 250, 3) := by decide +kernel
theorem dX11_count_118 : decode cX11_count 118 = .ok (.i2l, 1) := by decide +kernel
theorem dX11_count_119 : decode cX11_count 119 = .ok (.lreturn, 1) := by decide +kernel
theorem dX11_count_120 : decode cX11_count 120 = .ok (.ldc2_w 88, 3) := by decide +kernel
theorem dX11_count_123 : decode cX11_count 123 = .ok (.lreturn, 1) := by decide +kernel
theorem dX11_isKind_0 : decode cX11_isKind 0 = .ok (.iload_n 0, 1) := by decide +kernel
theorem dX11_isKind_1 : decode cX11_isKind 1 = .ok (.ifCond .lt 12, 3) := by decide +kernel
theorem dX11_isKind_4 : decode cX11_isKind 4 = .ok (.iload_n 0, 1) := by decide +kernel
theorem dX11_isKind_5 : decode cX11_isKind 5 = .ok (.iconst 4, 1) := by decide +kernel
theorem dX11_isKind_6 : decode cX11_isKind 6 = .ok (.if_icmp .gt 7, 3) := by decide +kernel
theorem dX11_isKind_9 : decode cX11_isKind 9 = .ok (.iconst 1, 1) := by decide +kernel
theorem dX11_isKind_10 : decode cX11_isKind 10 = .ok (.goto 4, 3) := by decide +kernel
theorem dX11_isKind_13 : decode cX11_isKind 13 = .ok (.iconst 0, 1) := by decide +kernel
theorem dX11_isKind_14 : decode cX11_isKind 14 = .ok (.ireturn, 1) := by decide +kernel
theorem dX11_isOther_0 : decode cX11_isOther 0 = .ok (.iload_n 1, 1) := by decide +kernel
theorem dX11_isOther_1 : decode cX11_isOther 1 = .ok (.ifCond .lt 18, 3) := by decide +kernel
theorem dX11_isOther_4 : decode cX11_isOther 4 = .ok (.iload_n 1, 1) := by decide +kernel
theorem dX11_isOther_5 : decode cX11_isOther 5 = .ok (.bipush 12, 2) := by decide +kernel
theorem dX11_isOther_7 : decode cX11_isOther 7 = .ok (.if_icmp .ge 12, 3) := by decide +kernel
theorem dX11_isOther_10 : decode cX11_isOther 10 = .ok (.iload_n 1, 1) := by decide +kernel
theorem dX11_isOther_11 : decode cX11_isOther 11 = .ok (.iload_n 0, 1) := by decide +kernel
theorem dX11_isOther_12 : decode cX11_isOther 12 = .ok (.if_icmp .eq 7, 3) := by decide +kernel
theorem dX11_isOther_15 : decode cX11_isOther 15 = .ok (.iconst 1, 1) := by decide +kernel
theorem dX11_isOther_16 : decode cX11_isOther 16 = .ok (.goto 4, 3) := by decide +kernel
theorem dX11_isOther_19 : decode cX11_isOther 19 = .ok (.iconst 0, 1) := by decide +kernel
theorem dX11_isOther_20 : decode cX11_isOther 20 = .ok (.ireturn, 1) := by decide +kernel
set_option maxRecDepth 20000 in
set_option maxRecDepth 100000 in
theorem ggX11_mayAskFor_X11_isOther : GoodIn wsX11_mayAskFor wsX11_isOther := goodIn_r _ [5] rfl (by decide +kernel)
set_option maxRecDepth 20000 in
theorem gX11_mayAskFor_X11_isOther : GoodIn wsX11_mayAskFor (va_wsS RX11 124 yX11_isOther wsX11_isOther) := goodIn_app (goodIn_of _ (by decide +kernel)) ggX11_mayAskFor_X11_isOther
theorem dX11_mayAskFor_0 : decode cX11_mayAskFor 0 = .ok (.iload_n 1, 1) := by decide +kernel
theorem dX11_mayAskFor_1 : decode cX11_mayAskFor 1 = .ok (.ldc 254, 2) := by decide +kernel
theorem dX11_mayAskFor_3 : decode cX11_mayAskFor 3 = .ok (.if_icmp .eq 11, 3) := by decide +kernel
theorem dX11_mayAskFor_6 : decode cX11_mayAskFor 6 = .ok (.iload_n 0, 1) := by decide +kernel
theorem dX11_mayAskFor_7 : decode cX11_mayAskFor 7 = .ok (.iload_n 1, 1) := by decide +kernel
theorem dX11_mayAskFor_8 : decode cX11_mayAskFor 8 = .ok (.invokestatic 124, 3) := by decide +kernel
theorem dX11_mayAskFor_11 : decode cX11_mayAskFor 11 = .ok (.ifCond .eq 7, 3) := by decide +kernel
theorem dX11_mayAskFor_14 : decode cX11_mayAskFor 14 = .ok (.iconst 1, 1) := by decide +kernel
theorem dX11_mayAskFor_15 : decode cX11_mayAskFor 15 = .ok (.goto 4, 3) := by decide +kernel
theorem dX11_mayAskFor_18 : decode cX11_mayAskFor 18 = .ok (.iconst 0, 1) := by decide +kernel
theorem dX11_mayAskFor_19 : decode cX11_mayAskFor 19 = .ok (.ireturn, 1) := by decide +kernel
theorem dX11_isIn_0 : decode cX11_isIn 0 = .ok (.iload_n 0, 1) := by decide +kernel
theorem dX11_isIn_1 : decode cX11_isIn 1 = .ok (.iload_n 1, 1) := by decide +kernel
theorem dX11_isIn_2 : decode cX11_isIn 2 = .ok (.ishr, 1) := by decide +kernel
theorem dX11_isIn_3 : decode cX11_isIn 3 = .ok (.iconst 1, 1) := by decide +kernel
theorem dX11_isIn_4 : decode cX11_isIn 4 = .ok (.iand, 1) := by decide +kernel
theorem dX11_isIn_5 : decode cX11_isIn 5 = .ok (.iconst 1, 1) := by decide +kernel
theorem dX11_isIn_6 : decode cX11_isIn 6 = .ok (.if_icmp .ne 7, 3) := by decide +kernel
theorem dX11_isIn_9 : decode cX11_isIn 9 = .ok (.iconst 1, 1) := by decide +kernel
theorem dX11_isIn_10 : decode cX11_isIn 10 = .ok (.goto 4, 3) := by decide +kernel
theorem dX11_isIn_13 : decode cX11_isIn 13 = .ok (.iconst 0, 1) := by decide +kernel
theorem dX11_isIn_14 : decode cX11_isIn 14 = .ok (.ireturn, 1) := by decide +kernel
theorem dX11_shift_0 : decode cX11_shift 0 = .ok (.aload_n 0, 1) := by decide +kernel
theorem dX11_shift_1 : decode cX11_shift 1 = .ok (.iload_n 1, 1) := by decide +kernel
theorem dX11_shift_2 : decode cX11_shift 2 = .ok (.iaload, 1) := by decide +kernel
theorem dX11_shift_3 : decode cX11_shift 3 = .ok (.istore_n 3, 1) := by decide +kernel
theorem dX11_shift_4 : decode cX11_shift 4 = .ok (.iload_n 1, 1) := by decide +kernel
theorem dX11_shift_5 : decode cX11_shift 5 = .ok (.istore 4, 2) := by decide +kernel
theorem dX11_shift_7 : decode cX11_shift 7 = .ok (.iload 4, 2) := by decide +kernel
theorem dX11_shift_9 : decode cX11_shift 9 = .ok (.iload_n 2, 1) := by decide +kernel
theorem dX11_shift_10 : decode cX11_shift 10 = .ok (.if_icmp .ge 19, 3) := by decide +kernel
theorem dX11_shift_13 : decode cX11_shift 13 = .ok (.aload_n 0, 1) := by decide +kernel
theorem dX11_shift_14 : decode cX11_shift 14 = .ok (.iload 4, 2) := by decide +kernel
theorem dX11_shift_16 : decode cX11_shift 16 = .ok (.aload_n 0, 1) := by decide +kernel
theorem dX11_shift_17 : decode cX11_shift 17 = .ok (.iload 4, 2) := by decide +kernel
theorem dX11_shift_19 : decode cX11_shift 19 = .ok (.iconst 1, 1) := by decide +kernel
