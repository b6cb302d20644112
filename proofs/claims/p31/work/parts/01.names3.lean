theorem dX7_isKept_73 : decode cX7_isKept 73 = .ok (.goto 4, 3) := by decide +kernel
theorem dX7_isKept_76 : decode cX7_isKept 76 = .ok (.iconst 0, 1) := by decide +kernel
theorem dX7_isKept_77 : decode cX7_isKept 77 = .ok (.ireturn, 1) := by decide +kernel
theorem dX7_isKept_78 : decode cX7_isKept 78 = .ok (.iload_n 3, 1) := by decide +kernel
theorem dX7_isKept_79 : decode cX7_isKept 79 = .ok (.ifCond .ge 7, 3) := by decide +kernel
theorem dX7_isKept_82 : decode cX7_isKept 82 = .ok (.iconst 1, 1) := by decide +kernel
theorem dX7_isKept_83 : decode cX7_isKept 83 = .ok (.goto 4, 3) := by decide +kernel
theorem dX7_isKept_86 : decode cX7_isKept 86 = .ok (.iconst 0, 1) := by decide +kernel
theorem dX7_isKept_87 : decode cX7_isKept 87 = .ok (.ireturn, 1) := by decide +kernel
theorem dX7_isKept_88 : decode cX7_isKept 88 = .ok (.iload_n 3, 1) := by decide +kernel
theorem dX7_isKept_89 : decode cX7_isKept 89 = .ok (.iconst 1, 1) := by decide +kernel
theorem dX7_isKept_90 : decode cX7_isKept 90 = .ok (.if_icmp .ne 7, 3) := by decide +kernel
theorem dX7_isKept_93 : decode cX7_isKept 93 = .ok (.iconst 1, 1) := by decide +kernel
theorem dX7_isKept_94 : decode cX7_isKept 94 = .ok (.goto 4, 3) := by decide +kernel
theorem dX7_isKept_97 : decode cX7_isKept 97 = .ok (.iconst 0, 1) := by decide +kernel
theorem dX7_isKept_98 : decode cX7_isKept 98 = .ok (.ireturn, 1) := by decide +kernel
theorem dX7_isKept_99 : decode cX7_isKept 99 = .ok (.iconst 1, 1) := by decide +kernel
theorem dX7_isKept_100 : decode cX7_isKept 100 = .ok (.ireturn, 1) := by decide +kernel
set_option maxRecDepth 20000 in
set_option maxRecDepth 100000 in
theorem ggX7_improve_X7_weighMoves : GoodIn wsX7_improve wsX7_weighMoves := goodIn_r _ [9, 10, 4, 1, 2, 11, 12, 13, 14, 15, 16, 47, 48, 49, 50, 51, 52, 53, 54, 55, 56, 57, 58, 59, 60] rfl (by decide +kernel)
set_option maxRecDepth 20000 in
theorem gX7_improve_X7_weighMoves : GoodIn wsX7_improve (wsV RX7 64 RX7 yX7_weighMoves wsX7_weighMoves) := goodIn_app (goodIn_of _ (by decide +kernel)) ggX7_improve_X7_weighMoves
set_option maxRecDepth 20000 in
set_option maxRecDepth 100000 in
theorem ggX7_improve_X7_isLawfulAfter : GoodIn wsX7_improve wsX7_isLawfulAfter := goodIn_r _ [20, 21, 22, 23, 24, 8, 25, 10, 26, 27, 28, 29, 30, 31, 32, 3, 33, 34, 35, 36, 37, 38, 39, 1, 2, 40, 41, 42, 43, 44, 45, 46, 47, 48, 49, 50, 51, 52, 53, 54, 55, 56, 57, 58, 59, 60] rfl (by decide +kernel)
set_option maxRecDepth 20000 in
theorem gX7_improve_X7_isLawfulAfter : GoodIn wsX7_improve (wsV RX7 67 RX7 yX7_isLawfulAfter wsX7_isLawfulAfter) := goodIn_app (goodIn_of _ (by decide +kernel)) ggX7_improve_X7_isLawfulAfter
set_option maxRecDepth 20000 in
set_option maxRecDepth 100000 in
theorem ggX7_improve_X7_moveSlot : GoodIn wsX7_improve wsX7_moveSlot := goodIn_r _ [25, 10, 26, 27, 28, 29, 30, 31, 32, 3, 33, 34, 35, 47, 48, 49, 50] rfl (by decide +kernel)
set_option maxRecDepth 20000 in
theorem gX7_improve_X7_moveSlot : GoodIn wsX7_improve (wsV RX7 71 RX7 yX7_moveSlot wsX7_moveSlot) := goodIn_app (goodIn_of _ (by decide +kernel)) ggX7_improve_X7_moveSlot
theorem dX7_improve_0 : decode cX7_improve 0 = .ok (.iconst 0, 1) := by decide +kernel
theorem dX7_improve_1 : decode cX7_improve 1 = .ok (.istore_n 1, 1) := by decide +kernel
theorem dX7_improve_2 : decode cX7_improve 2 = .ok (.iconst (-1), 1) := by decide +kernel
theorem dX7_improve_3 : decode cX7_improve 3 = .ok (.istore_n 2, 1) := by decide +kernel
theorem dX7_improve_4 : decode cX7_improve 4 = .ok (.iconst (-1), 1) := by decide +kernel
theorem dX7_improve_5 : decode cX7_improve 5 = .ok (.istore_n 3, 1) := by decide +kernel
theorem dX7_improve_6 : decode cX7_improve 6 = .ok (.iconst 0, 1) := by decide +kernel
theorem dX7_improve_7 : decode cX7_improve 7 = .ok (.istore 4, 2) := by decide +kernel
theorem dX7_improve_9 : decode cX7_improve 9 = .ok (.iload 4, 2) := by decide +kernel
theorem dX7_improve_11 : decode cX7_improve 11 = .ok (.aload_n 0, 1) := by decide +kernel
theorem dX7_improve_12 : decode cX7_improve 12 = .ok (.getfield 21, 3) := by decide +kernel
theorem dX7_improve_15 : decode cX7_improve 15 = .ok (.getfield 36, 3) := by decide +kernel
theorem dX7_improve_18 : decode cX7_improve 18 = .ok (.if_icmp .ge 81, 3) := by decide +kernel
theorem dX7_improve_21 : decode cX7_improve 21 = .ok (.aload_n 0, 1) := by decide +kernel
theorem dX7_improve_22 : decode cX7_improve 22 = .ok (.getfield 15, 3) := by decide +kernel
theorem dX7_improve_25 : decode cX7_improve 25 = .ok (.iload 4, 2) := by decide +kernel
theorem dX7_improve_27 : decode cX7_improve 27 = .ok (.iaload, 1) := by decide +kernel
theorem dX7_improve_28 : decode cX7_improve 28 = .ok (.istore 5, 2) := by decide +kernel
theorem dX7_improve_30 : decode cX7_improve 30 = .ok (.aload_n 0, 1) := by decide +kernel
theorem dX7_improve_31 : decode cX7_improve 31 = .ok (.iload 5, 2) := by decide +kernel
theorem dX7_improve_33 : decode cX7_improve 33 = .ok (.invokevirtual 64, 3) := by decide +kernel
theorem dX7_improve_36 : decode cX7_improve 36 = .ok (.iconst 0, 1) := by decide +kernel
theorem dX7_improve_37 : decode cX7_improve 37 = .ok (.istore 6, 2) := by decide +kernel
theorem dX7_improve_39 : decode cX7_improve 39 = .ok (.iload 6, 2) := by decide +kernel
theorem dX7_improve_41 : decode cX7_improve 41 = .ok (.aload_n 0, 1) := by decide +kernel
theorem dX7_improve_42 : decode cX7_improve 42 = .ok (.getfield 21, 3) := by decide +kernel
theorem dX7_improve_45 : decode cX7_improve 45 = .ok (.getfield 36, 3) := by decide +kernel
theorem dX7_improve_48 : decode cX7_improve 48 = .ok (.if_icmp .ge 45, 3) := by decide +kernel
theorem dX7_improve_51 : decode cX7_improve 51 = .ok (.aload_n 0, 1) := by decide +kernel
theorem dX7_improve_52 : decode cX7_improve 52 = .ok (.getfield 18, 3) := by decide +kernel
theorem dX7_improve_55 : decode cX7_improve 55 = .ok (.iload 6, 2) := by decide +kernel
theorem dX7_improve_57 : decode cX7_improve 57 = .ok (.iaload, 1) := by decide +kernel
theorem dX7_improve_58 : decode cX7_improve 58 = .ok (.iload_n 1, 1) := by decide +kernel
theorem dX7_improve_59 : decode cX7_improve 59 = .ok (.if_icmp .ge 28, 3) := by decide +kernel
theorem dX7_improve_62 : decode cX7_improve 62 = .ok (.aload_n 0, 1) := by decide +kernel
theorem dX7_improve_63 : decode cX7_improve 63 = .ok (.iload 5, 2) := by decide +kernel
theorem dX7_improve_65 : decode cX7_improve 65 = .ok (.iload 6, 2) := by decide +kernel
theorem dX7_improve_67 : decode cX7_improve 67 = .ok (.invokevirtual 67, 3) := by decide +kernel
theorem dX7_improve_70 : decode cX7_improve 70 = .ok (.ifCond .eq 17, 3) := by decide +kernel
theorem dX7_improve_73 : decode cX7_improve 73 = .ok (.aload_n 0, 1) := by decide +kernel
theorem dX7_improve_74 : decode cX7_improve 74 = .ok (.getfield 18, 3) := by decide +kernel
theorem dX7_improve_77 : decode cX7_improve 77 = .ok (.iload 6, 2) := by decide +kernel
theorem dX7_improve_79 : decode cX7_improve 79 = .ok (.iaload, 1) := by decide +kernel
theorem dX7_improve_80 : decode cX7_improve 80 = .ok (.istore_n 1, 1) := by decide +kernel
theorem dX7_improve_81 : decode cX7_improve 81 = .ok (.iload 5, 2) := by decide +kernel
theorem dX7_improve_83 : decode cX7_improve 83 = .ok (.istore_n 2, 1) := by decide +kernel
theorem dX7_improve_84 : decode cX7_improve 84 = .ok (.iload 6, 2) := by decide +kernel
theorem dX7_improve_86 : decode cX7_improve 86 = .ok (.istore_n 3, 1) := by decide +kernel
theorem dX7_improve_87 : decode cX7_improve 87 = .ok (.iinc 6 1, 3) := by decide +kernel
theorem dX7_improve_90 : decode cX7_improve 90 = .ok (.goto (-51), 3) := by decide +kernel
theorem dX7_improve_93 : decode cX7_improve 93 = .ok (.iinc 4 1, 3) := by decide +kernel
theorem dX7_improve_96 : decode cX7_improve 96 = .ok (.goto (-87), 3) := by decide +kernel
theorem dX7_improve_99 : decode cX7_improve 99 = .ok (.iload_n 2, 1) := by decide +kernel
theorem dX7_improve_100 : decode cX7_improve 100 = .ok (.iconst (-1), 1) := by decide +kernel
theorem dX7_improve_101 : decode cX7_improve 101 = .ok (.if_icmp .ne 5, 3) := by decide +kernel
theorem dX7_improve_104 : decode cX7_improve 104 = .ok (.iconst 0, 1) := by decide +kernel
theorem dX7_improve_105 : decode cX7_improve 105 = .ok (.ireturn, 1) := by decide +kernel
theorem dX7_improve_106 : decode cX7_improve 106 = .ok (.aload_n 0, 1) := by decide +kernel
theorem dX7_improve_107 : decode cX7_improve 107 = .ok (.iload_n 2, 1) := by decide +kernel
theorem dX7_improve_108 : decode cX7_improve 108 = .ok (.iload_n 3, 1) := by decide +kernel
theorem dX7_improve_109 : decode cX7_improve 109 = .ok (.invokevirtual 71, 3) := by decide +kernel
theorem dX7_improve_112 : decode cX7_improve 112 = .ok (.iconst 1, 1) := by decide +kernel
theorem dX7_improve_113 : decode cX7_improve 113 = .ok (.ireturn, 1) := by decide +kernel
set_option maxRecDepth 20000 in
set_option maxRecDepth 100000 in
theorem ggX7_weighMoves_X8_peckOf : GoodIn wsX7_weighMoves wsX8_peckOf := goodIn_r _ [9, 10, 15, 16, 17, 18, 19, 20, 21, 22, 23, 24] rfl (by decide +kernel)
set_option maxRecDepth 20000 in
theorem gX7_weighMoves_X8_peckOf : GoodIn wsX7_weighMoves (wsV RX7 48 RX8 yX8_peckOf wsX8_peckOf) := goodIn_app (goodIn_of _ (by decide +kernel)) ggX7_weighMoves_X8_peckOf
theorem dX7_weighMoves_0 : decode cX7_weighMoves 0 = .ok (.aload_n 0, 1) := by decide +kernel
theorem dX7_weighMoves_1 : decode cX7_weighMoves 1 = .ok (.getfield 9, 3) := by decide +kernel
theorem dX7_weighMoves_4 : decode cX7_weighMoves 4 = .ok (.iload_n 1, 1) := by decide +kernel
theorem dX7_weighMoves_5 : decode cX7_weighMoves 5 = .ok (.iaload, 1) := by decide +kernel
theorem dX7_weighMoves_6 : decode cX7_weighMoves 6 = .ok (.istore_n 2, 1) := by decide +kernel
theorem dX7_weighMoves_7 : decode cX7_weighMoves 7 = .ok (.aload_n 0, 1) := by decide +kernel
theorem dX7_weighMoves_8 : decode cX7_weighMoves 8 = .ok (.getfield 18, 3) := by decide +kernel
theorem dX7_weighMoves_11 : decode cX7_weighMoves 11 = .ok (.iload_n 1, 1) := by decide +kernel
theorem dX7_weighMoves_12 : decode cX7_weighMoves 12 = .ok (.iconst 0, 1) := by decide +kernel
theorem dX7_weighMoves_13 : decode cX7_weighMoves 13 = .ok (.iastore, 1) := by decide +kernel
theorem dX7_weighMoves_14 : decode cX7_weighMoves 14 = .ok (.iload_n 1, 1) := by decide +kernel
theorem dX7_weighMoves_15 : decode cX7_weighMoves 15 = .ok (.iconst 1, 1) := by decide +kernel
theorem dX7_weighMoves_16 : decode cX7_weighMoves 16 = .ok (.iadd, 1) := by decide +kernel
theorem dX7_weighMoves_17 : decode cX7_weighMoves 17 = .ok (.istore_n 3, 1) := by decide +kernel
theorem dX7_weighMoves_18 : decode cX7_weighMoves 18 = .ok (.iload_n 3, 1) := by decide +kernel
theorem dX7_weighMoves_19 : decode cX7_weighMoves 19 = .ok (.aload_n 0, 1) := by decide +kernel
theorem dX7_weighMoves_20 : decode cX7_weighMoves 20 = .ok (.getfield 21, 3) := by decide +kernel
theorem dX7_weighMoves_23 : decode cX7_weighMoves 23 = .ok (.getfield 36, 3) := by decide +kernel
theorem dX7_weighMoves_26 : decode cX7_weighMoves 26 = .ok (.if_icmp .ge 53, 3) := by decide +kernel
theorem dX7_weighMoves_29 : decode cX7_weighMoves 29 = .ok (.aload_n 0, 1) := by decide +kernel
theorem dX7_weighMoves_30 : decode cX7_weighMoves 30 = .ok (.getfield 18, 3) := by decide +kernel
theorem dX7_weighMoves_33 : decode cX7_weighMoves 33 = .ok (.iload_n 3, 1) := by decide +kernel
theorem dX7_weighMoves_34 : decode cX7_weighMoves 34 = .ok (.aload_n 0, 1) := by decide +kernel
theorem dX7_weighMoves_35 : decode cX7_weighMoves 35 = .ok (.getfield 18, 3) := by decide +kernel
theorem dX7_weighMoves_38 : decode cX7_weighMoves 38 = .ok (.iload_n 3, 1) := by decide +kernel
theorem dX7_weighMoves_39 : decode cX7_weighMoves 39 = .ok (.iconst 1, 1) := by decide +kernel
theorem dX7_weighMoves_40 : decode cX7_weighMoves 40 = .ok (.isub, 1) := by decide +kernel
theorem dX7_weighMoves_41 : decode cX7_weighMoves 41 = .ok (.iaload, 1) := by decide +kernel
theorem dX7_weighMoves_42 : decode cX7_weighMoves 42 = .ok (.aload_n 0, 1) := by decide +kernel
theorem dX7_weighMoves_43 : decode cX7_weighMoves 43 = .ok (.getfield 21, 3) := by decide +kernel
theorem dX7_weighMoves_46 : decode cX7_weighMoves 46 = .ok (.iload_n 2, 1) := by decide +kernel
theorem dX7_weighMoves_47 : decode cX7_weighMoves 47 = .ok (.aload_n 0, 1) := by decide +kernel
theorem dX7_weighMoves_48 : decode cX7_weighMoves 48 = .ok (.getfield 9, 3) := by decide +kernel
theorem dX7_weighMoves_51 : decode cX7_weighMoves 51 = .ok (.iload_n 3, 1) := by decide +kernel
theorem dX7_weighMoves_52 : decode cX7_weighMoves 52 = .ok (.iaload, 1) := by decide +kernel
theorem dX7_weighMoves_53 : decode cX7_weighMoves 53 = .ok (.invokevirtual 48, 3) := by decide +kernel
theorem dX7_weighMoves_56 : decode cX7_weighMoves 56 = .ok (.iadd, 1) := by decide +kernel
theorem dX7_weighMoves_57 : decode cX7_weighMoves 57 = .ok (.aload_n 0, 1) := by decide +kernel
theorem dX7_weighMoves_58 : decode cX7_weighMoves 58 = .ok (.getfield 21, 3) := by decide +kernel
theorem dX7_weighMoves_61 : decode cX7_weighMoves 61 = .ok (.aload_n 0, 1) := by decide +kernel
theorem dX7_weighMoves_62 : decode cX7_weighMoves 62 = .ok (.getfield 9, 3) := by decide +kernel
theorem dX7_weighMoves_65 : decode cX7_weighMoves 65 = .ok (.iload_n 3, 1) := by decide +kernel
theorem dX7_weighMoves_66 : decode cX7_weighMoves 66 = .ok (.iaload, 1) := by decide +kernel
theorem dX7_weighMoves_67 : decode cX7_weighMoves 67 = .ok (.iload_n 2, 1) := by decide +kernel
theorem dX7_weighMoves_68 : decode cX7_weighMoves 68 = .ok (.invokevirtual 48, 3) := by decide +kernel
theorem dX7_weighMoves_71 : decode cX7_weighMoves 71 = .ok (.isub, 1) := by decide +kernel
theorem dX7_weighMoves_72 : decode cX7_weighMoves 72 = .ok (.iastore, 1) := by decide +kernel
theorem dX7_weighMoves_73 : decode cX7_weighMoves 73 = .ok (.iinc 3 1, 3) := by decide +kernel
theorem dX7_weighMoves_76 : decode cX7_weighMoves 76 = .ok (.goto (-58), 3) := by decide +kernel
theorem dX7_weighMoves_79 : decode cX7_weighMoves 79 = .ok (.iload_n 1, 1) := by decide +kernel
theorem dX7_weighMoves_80 : decode cX7_weighMoves 80 = .ok (.iconst 1, 1) := by decide +kernel
theorem dX7_weighMoves_81 : decode cX7_weighMoves 81 = .ok (.isub, 1) := by decide +kernel
theorem dX7_weighMoves_82 : decode cX7_weighMoves 82 = .ok (.istore_n 3, 1) := by decide +kernel
theorem dX7_weighMoves_83 : decode cX7_weighMoves 83 = .ok (.iload_n 3, 1) := by decide +kernel
theorem dX7_weighMoves_84 : decode cX7_weighMoves 84 = .ok (.ifCond .lt 53, 3) := by decide +kernel
theorem dX7_weighMoves_87 : decode cX7_weighMoves 87 = .ok (.aload_n 0, 1) := by decide +kernel
theorem dX7_weighMoves_88 : decode cX7_weighMoves 88 = .ok (.getfield 18, 3) := by decide +kernel
theorem dX7_weighMoves_91 : decode cX7_weighMoves 91 = .ok (.iload_n 3, 1) := by decide +kernel
theorem dX7_weighMoves_92 : decode cX7_weighMoves 92 = .ok (.aload_n 0, 1) := by decide +kernel
theorem dX7_weighMoves_93 : decode cX7_weighMoves 93 = .ok (.getfield 18, 3) := by decide +kernel
theorem dX7_weighMoves_96 : decode cX7_weighMoves 96 = .ok (.iload_n 3, 1) := by decide +kernel
theorem dX7_weighMoves_97 : decode cX7_weighMoves 97 = .ok (.iconst 1, 1) := by decide +kernel
theorem dX7_weighMoves_98 : decode cX7_weighMoves 98 = .ok (.iadd, 1) := by decide +kernel
theorem dX7_weighMoves_99 : decode cX7_weighMoves 99 = .ok (.iaload, 1) := by decide +kernel
theorem dX7_weighMoves_100 : decode cX7_weighMoves 100 = .ok (.aload_n 0, 1) := by decide +kernel
theorem dX7_weighMoves_101 : decode cX7_weighMoves 101 = .ok (.getfield 21, 3) := by decide +kernel
theorem dX7_weighMoves_104 : decode cX7_weighMoves 104 = .ok (.aload_n 0, 1) := by decide +kernel
theorem dX7_weighMoves_105 : decode cX7_weighMoves 105 = .ok (.getfield 9, 3) := by decide +kernel
theorem dX7_weighMoves_108 : decode cX7_weighMoves 108 = .ok (.iload_n 3, 1) := by decide +kernel
theorem dX7_weighMoves_109 : decode cX7_weighMoves 109 = .ok (.iaload, 1) := by decide +kernel
theorem dX7_weighMoves_110 : decode cX7_weighMoves 110 = .ok (.iload_n 2, 1) := by decide +kernel
theorem dX7_weighMoves_111 : decode cX7_weighMoves 111 = .ok (.invokevirtual 48, 3) := by decide +kernel
theorem dX7_weighMoves_114 : decode cX7_weighMoves 114 = .ok (.iadd, 1) := by decide +kernel
theorem dX7_weighMoves_115 : decode cX7_weighMoves 115 = .ok (.aload_n 0, 1) := by decide +kernel
theorem dX7_weighMoves_116 : decode cX7_weighMoves 116 = .ok (.getfield 21, 3) := by decide +kernel
theorem dX7_weighMoves_119 : decode cX7_weighMoves 119 = .ok (.iload_n 2, 1) := by decide +kernel
theorem dX7_weighMoves_120 : decode cX7_weighMoves 120 = .ok (.aload_n 0, 1) := by decide +kernel
theorem dX7_weighMoves_121 : decode cX7_weighMoves 121 = .ok (.getfield 9, 3) := by decide +kernel
theorem dX7_weighMoves_124 : decode cX7_weighMoves 124 = .ok (.iload_n 3, 1) := by decide +kernel
theorem dX7_weighMoves_125 : decode cX7_weighMoves 125 = .ok (.iaload, 1) := by decide +kernel
theorem dX7_weighMoves_126 : decode cX7_weighMoves 126 = .ok (.invokevirtual 48, 3) := by decide +kernel
theorem dX7_weighMoves_129 : decode cX7_weighMoves 129 = .ok (.isub, 1) := by decide +kernel
theorem dX7_weighMoves_130 : decode cX7_weighMoves 130 = .ok (.iastore, 1) := by decide +kernel
theorem dX7_weighMoves_131 : decode cX7_weighMoves 131 = .ok (.iinc 3 (-1), 3) := by decide +kernel
theorem dX7_weighMoves_134 : decode cX7_weighMoves 134 = .ok (.goto (-51), 3) := by decide +kernel
theorem dX7_weighMoves_137 : decode cX7_weighMoves 137 = .ok (.return_, 1) := by decide +kernel
set_option maxRecDepth 20000 in
set_option maxRecDepth 100000 in
theorem ggX7_isLawfulAfter_X7_moveSlot : GoodIn wsX7_isLawfulAfter wsX7_moveSlot := goodIn_r _ [6, 7, 8, 9, 10, 11, 12, 13, 14, 15, 16, 17, 18, 32, 33, 34, 35] rfl (by decide +kernel)
set_option maxRecDepth 20000 in
theorem gX7_isLawfulAfter_X7_moveSlot : GoodIn wsX7_isLawfulAfter (wsV RX7 71 RX7 yX7_moveSlot wsX7_moveSlot) := goodIn_app (goodIn_of _ (by decide +kernel)) ggX7_isLawfulAfter_X7_moveSlot
set_option maxRecDepth 20000 in
set_option maxRecDepth 100000 in
theorem ggX7_isLawfulAfter_X7_leastFault : GoodIn wsX7_isLawfulAfter wsX7_leastFault := goodIn_r _ [22, 23, 24, 25, 1, 26, 27, 28, 5, 29, 30, 15, 31, 32, 33, 34, 35, 36, 37, 38, 39, 40, 41, 42, 43, 44, 45] rfl (by decide +kernel)
set_option maxRecDepth 20000 in
theorem gX7_isLawfulAfter_X7_leastFault : GoodIn wsX7_isLawfulAfter (wsV RX7 75 RX7 yX7_leastFault wsX7_leastFault) := goodIn_app (goodIn_of _ (by decide +kernel)) ggX7_isLawfulAfter_X7_leastFault
theorem dX7_isLawfulAfter_0 : decode cX7_isLawfulAfter 0 = .ok (.aload_n 0, 1) := by decide +kernel
theorem dX7_isLawfulAfter_1 : decode cX7_isLawfulAfter 1 = .ok (.iload_n 1, 1) := by decide +kernel
theorem dX7_isLawfulAfter_2 : decode cX7_isLawfulAfter 2 = .ok (.iload_n 2, 1) := by decide +kernel
theorem dX7_isLawfulAfter_3 : decode cX7_isLawfulAfter 3 = .ok (.invokevirtual 71, 3) := by decide +kernel
theorem dX7_isLawfulAfter_6 : decode cX7_isLawfulAfter 6 = .ok (.aload_n 0, 1) := by decide +kernel
theorem dX7_isLawfulAfter_7 : decode cX7_isLawfulAfter 7 = .ok (.invokevirtual 75, 3) := by decide +kernel
theorem dX7_isLawfulAfter_10 : decode cX7_isLawfulAfter 10 = .ok (.ldc2_w 56, 3) := by decide +kernel
theorem dX7_isLawfulAfter_13 : decode cX7_isLawfulAfter 13 = .ok (.lcmp, 1) := by decide +kernel
theorem dX7_isLawfulAfter_14 : decode cX7_isLawfulAfter 14 = .ok (.ifCond .ne 7, 3) := by decide +kernel
theorem dX7_isLawfulAfter_17 : decode cX7_isLawfulAfter 17 = .ok (.iconst 1, 1) := by decide +kernel
theorem dX7_isLawfulAfter_18 : decode cX7_isLawfulAfter 18 = .ok (.goto 4, 3) := by decide +kernel
theorem dX7_isLawfulAfter_21 : decode cX7_isLawfulAfter 21 = .ok (.iconst 0, 1) := by decide +kernel
theorem dX7_isLawfulAfter_22 : decode cX7_isLawfulAfter 22 = .ok (.istore_n 3, 1) := by decide +kernel
theorem dX7_isLawfulAfter_23 : decode cX7_isLawfulAfter 23 = .ok (.aload_n 0, 1) := by decide +kernel
theorem dX7_isLawfulAfter_24 : decode cX7_isLawfulAfter 24 = .ok (.iload_n 2, 1) := by decide +kernel
theorem dX7_isLawfulAfter_25 : decode cX7_isLawfulAfter 25 = .ok (.iload_n 1, 1) := by decide +kernel
theorem dX7_isLawfulAfter_26 : decode cX7_isLawfulAfter 26 = .ok (.invokevirtual 71, 3) := by decide +kernel
theorem dX7_isLawfulAfter_29 : decode cX7_isLawfulAfter 29 = .ok (.iload_n 3, 1) := by decide +kernel
theorem dX7_isLawfulAfter_30 : decode cX7_isLawfulAfter 30 = .ok (.ireturn, 1) := by decide +kernel
set_option maxRecDepth 20000 in
set_option maxRecDepth 100000 in
theorem ggX7_moveSlot_X11_shift : GoodIn wsX7_moveSlot wsX11_shift := goodIn_r _ [12] rfl (by decide +kernel)
set_option maxRecDepth 20000 in
theorem gX7_moveSlot_X11_shift_n79 : GoodIn wsX7_moveSlot (wsX11_shift) := ggX7_moveSlot_X11_shift
theorem dX7_moveSlot_0 : decode cX7_moveSlot 0 = .ok (.aload_n 0, 1) := by decide +kernel
theorem dX7_moveSlot_1 : decode cX7_moveSlot 1 = .ok (.getfield 9, 3) := by decide +kernel
theorem dX7_moveSlot_4 : decode cX7_moveSlot 4 = .ok (.iload_n 1, 1) := by decide +kernel
theorem dX7_moveSlot_5 : decode cX7_moveSlot 5 = .ok (.iload_n 2, 1) := by decide +kernel
theorem dX7_moveSlot_6 : decode cX7_moveSlot 6 = .ok (.invokestatic 79, 3) := by decide +kernel
theorem dX7_moveSlot_9 : decode cX7_moveSlot 9 = .ok (.iload_n 1, 1) := by decide +kernel
theorem dX7_moveSlot_10 : decode cX7_moveSlot 10 = .ok (.iload_n 2, 1) := by decide +kernel
theorem dX7_moveSlot_11 : decode cX7_moveSlot 11 = .ok (.invokestatic 83, 3) := by decide +kernel
theorem dX7_moveSlot_14 : decode cX7_moveSlot 14 = .ok (.istore_n 3, 1) := by decide +kernel
theorem dX7_moveSlot_15 : decode cX7_moveSlot 15 = .ok (.iload_n 3, 1) := by decide +kernel
theorem dX7_moveSlot_16 : decode cX7_moveSlot 16 = .ok (.iload_n 1, 1) := by decide +kernel
theorem dX7_moveSlot_17 : decode cX7_moveSlot 17 = .ok (.iload_n 2, 1) := by decide +kernel
theorem dX7_moveSlot_18 : decode cX7_moveSlot 18 = .ok (.invokestatic 88, 3) := by decide +kernel
theorem dX7_moveSlot_21 : decode cX7_moveSlot 21 = .ok (.if_icmp .gt 21, 3) := by decide +kernel
theorem dX7_moveSlot_24 : decode cX7_moveSlot 24 = .ok (.aload_n 0, 1) := by decide +kernel
theorem dX7_moveSlot_25 : decode cX7_moveSlot 25 = .ok (.getfield 15, 3) := by decide +kernel
theorem dX7_moveSlot_28 : decode cX7_moveSlot 28 = .ok (.aload_n 0, 1) := by decide +kernel
theorem dX7_moveSlot_29 : decode cX7_moveSlot 29 = .ok (.getfield 9, 3) := by decide +kernel
theorem dX7_moveSlot_32 : decode cX7_moveSlot 32 = .ok (.iload_n 3, 1) := by decide +kernel
theorem dX7_moveSlot_33 : decode cX7_moveSlot 33 = .ok (.iaload, 1) := by decide +kernel
theorem dX7_moveSlot_34 : decode cX7_moveSlot 34 = .ok (.iload_n 3, 1) := by decide +kernel
theorem dX7_moveSlot_35 : decode cX7_moveSlot 35 = .ok (.iastore, 1) := by decide +kernel
theorem dX7_moveSlot_36 : decode cX7_moveSlot 36 = .ok (.iinc 3 1, 3) := by decide +kernel
theorem dX7_moveSlot_39 : decode cX7_moveSlot 39 = .ok (.goto (-24), 3) := by decide +kernel
theorem dX7_moveSlot_42 : decode cX7_moveSlot 42 = .ok (.return_, 1) := by decide +kernel
theorem dX8_init_0 : decode cX8_init 0 = .ok (.aload_n 0, 1) := by decide +kernel
theorem dX8_init_1 : decode cX8_init 1 = .ok (.invokespecial 3, 3) := by decide +kernel
theorem dX8_init_4 : decode cX8_init 4 = .ok (.aload_n 0, 1) := by decide +kernel
theorem dX8_init_5 : decode cX8_init 5 = .ok (.iconst (-1), 1) := by decide +kernel
theorem dX8_init_6 : decode cX8_init 6 = .ok (.putfield 9, 3) := by decide +kernel
theorem dX8_init_9 : decode cX8_init 9 = .ok (.aload_n 0, 1) := by decide +kernel
theorem dX8_init_10 : decode cX8_init 10 = .ok (.bipush 12, 2) := by decide +kernel
theorem dX8_init_12 : decode cX8_init 12 = .ok (.newarray .int, 2) := by decide +kernel
theorem dX8_init_14 : decode cX8_init 14 = .ok (.putfield 15, 3) := by decide +kernel
theorem dX8_init_17 : decode cX8_init 17 = .ok (.aload_n 0, 1) := by decide +kernel
theorem dX8_init_18 : decode cX8_init 18 = .ok (.bipush 12, 2) := by decide +kernel
theorem dX8_init_20 : decode cX8_init 20 = .ok (.newarray .int, 2) := by decide +kernel
theorem dX8_init_22 : decode cX8_init 22 = .ok (.putfield 19, 3) := by decide +kernel
theorem dX8_init_25 : decode cX8_init 25 = .ok (.aload_n 0, 1) := by decide +kernel
theorem dX8_init_26 : decode cX8_init 26 = .ok (.bipush 12, 2) := by decide +kernel
theorem dX8_init_28 : decode cX8_init 28 = .ok (.newarray .int, 2) := by decide +kernel
theorem dX8_init_30 : decode cX8_init 30 = .ok (.putfield 22, 3) := by decide +kernel
theorem dX8_init_33 : decode cX8_init 33 = .ok (.aload_n 0, 1) := by decide +kernel
theorem dX8_init_34 : decode cX8_init 34 = .ok (.bipush 12, 2) := by decide +kernel
theorem dX8_init_36 : decode cX8_init 36 = .ok (.newarray .int, 2) := by decide +kernel
theorem dX8_init_38 : decode cX8_init 38 = .ok (.putfield 25, 3) := by decide +kernel
theorem dX8_init_41 : decode cX8_init 41 = .ok (.aload_n 0, 1) := by decide +kernel
theorem dX8_init_42 : decode cX8_init 42 = .ok (.bipush 12, 2) := by decide +kernel
theorem dX8_init_44 : decode cX8_init 44 = .ok (.newarray .int, 2) := by decide +kernel
theorem dX8_init_46 : decode cX8_init 46 = .ok (.putfield 28, 3) := by decide +kernel
theorem dX8_init_49 : decode cX8_init 49 = .ok (.aload_n 0, 1) := by decide +kernel
theorem dX8_init_50 : decode cX8_init 50 = .ok (.bipush 12, 2) := by decide +kernel
theorem dX8_init_52 : decode cX8_init 52 = .ok (.newarray .int, 2) := by decide +kernel
theorem dX8_init_54 : decode cX8_init 54 = .ok (.putfield 31, 3) := by decide +kernel
theorem dX8_init_57 : decode cX8_init 57 = .ok (.aload_n 0, 1) := by decide +kernel
theorem dX8_init_58 : decode cX8_init 58 = .ok (.sipush 144, 3) := by decide +kernel
theorem dX8_init_61 : decode cX8_init 61 = .ok (.newarray .int, 2) := by decide +kernel
theorem dX8_init_63 : decode cX8_init 63 = .ok (.putfield 34, 3) := by decide +kernel
theorem dX8_init_66 : decode cX8_init 66 = .ok (.aload_n 0, 1) := by decide +kernel
theorem dX8_init_67 : decode cX8_init 67 = .ok (.aload_n 1, 1) := by decide +kernel
theorem dX8_init_68 : decode cX8_init 68 = .ok (.putfield 37, 3) := by decide +kernel
theorem dX8_init_71 : decode cX8_init 71 = .ok (.return_, 1) := by decide +kernel
set_option maxRecDepth 20000 in
set_option maxRecDepth 100000 in
theorem ggX8_gather_X2_isCounted : GoodIn wsX8_gather wsX2_isCounted := goodIn_r _ [15, 16, 17, 18, 19, 20, 14, 21, 22, 52, 53, 54, 55, 56, 57, 58] rfl (by decide +kernel)
set_option maxRecDepth 20000 in
theorem gX8_gather_X2_isCounted : GoodIn wsX8_gather (wsV RX8 47 RX2 yX2_isCounted wsX2_isCounted) := goodIn_app (goodIn_of _ (by decide +kernel)) ggX8_gather_X2_isCounted
set_option maxRecDepth 20000 in
set_option maxRecDepth 100000 in
theorem ggX8_gather_X8_gatherPecks : GoodIn wsX8_gather wsX8_gatherPecks := goodIn_r _ [27, 4, 28, 2, 29, 6, 42, 43, 44, 45, 46, 47, 48, 49, 50, 51, 52, 53, 54, 55, 56, 57, 58] rfl (by decide +kernel)
set_option maxRecDepth 20000 in
theorem gX8_gather_X8_gatherPecks : GoodIn wsX8_gather (wsV RX8 52 RX8 yX8_gatherPecks wsX8_gatherPecks) := goodIn_app (goodIn_of _ (by decide +kernel)) ggX8_gather_X8_gatherPecks
set_option maxRecDepth 20000 in
set_option maxRecDepth 100000 in
theorem ggX8_gather_X8_gatherAsking : GoodIn wsX8_gather wsX8_gatherAsking := goodIn_r _ [33, 6, 34, 2, 5, 35, 7, 9, 10, 36, 37, 38, 14, 39, 16, 40, 41, 42, 43, 44, 45, 46, 47, 48, 49, 50, 51, 52, 53, 54, 55, 56, 57, 58] rfl (by decide +kernel)
set_option maxRecDepth 20000 in
theorem gX8_gather_X8_gatherAsking : GoodIn wsX8_gather (wsV RX8 56 RX8 yX8_gatherAsking wsX8_gatherAsking) := goodIn_app (goodIn_of _ (by decide +kernel)) ggX8_gather_X8_gatherAsking
theorem dX8_gather_0 : decode cX8_gather 0 = .ok (.aload_n 0, 1) := by decide +kernel
theorem dX8_gather_1 : decode cX8_gather 1 = .ok (.getfield 9, 3) := by decide +kernel
theorem dX8_gather_4 : decode cX8_gather 4 = .ok (.aload_n 0, 1) := by decide +kernel
theorem dX8_gather_5 : decode cX8_gather 5 = .ok (.getfield 37, 3) := by decide +kernel
theorem dX8_gather_8 : decode cX8_gather 8 = .ok (.getfield 41, 3) := by decide +kernel
theorem dX8_gather_11 : decode cX8_gather 11 = .ok (.if_icmp .ne 4, 3) := by decide +kernel
theorem dX8_gather_14 : decode cX8_gather 14 = .ok (.return_, 1) := by decide +kernel
theorem dX8_gather_15 : decode cX8_gather 15 = .ok (.aload_n 0, 1) := by decide +kernel
theorem dX8_gather_16 : decode cX8_gather 16 = .ok (.aload_n 0, 1) := by decide +kernel
theorem dX8_gather_17 : decode cX8_gather 17 = .ok (.getfield 37, 3) := by decide +kernel
theorem dX8_gather_20 : decode cX8_gather 20 = .ok (.getfield 41, 3) := by decide +kernel
theorem dX8_gather_23 : decode cX8_gather 23 = .ok (.putfield 9, 3) := by decide +kernel
theorem dX8_gather_26 : decode cX8_gather 26 = .ok (.aload_n 0, 1) := by decide +kernel
theorem dX8_gather_27 : decode cX8_gather 27 = .ok (.iconst 0, 1) := by decide +kernel
theorem dX8_gather_28 : decode cX8_gather 28 = .ok (.putfield 44, 3) := by decide +kernel
theorem dX8_gather_31 : decode cX8_gather 31 = .ok (.iconst 0, 1) := by decide +kernel
theorem dX8_gather_32 : decode cX8_gather 32 = .ok (.istore_n 1, 1) := by decide +kernel
theorem dX8_gather_33 : decode cX8_gather 33 = .ok (.iload_n 1, 1) := by decide +kernel
theorem dX8_gather_34 : decode cX8_gather 34 = .ok (.bipush 12, 2) := by decide +kernel
theorem dX8_gather_36 : decode cX8_gather 36 = .ok (.if_icmp .ge 95, 3) := by decide +kernel
theorem dX8_gather_39 : decode cX8_gather 39 = .ok (.aload_n 0, 1) := by decide +kernel
theorem dX8_gather_40 : decode cX8_gather 40 = .ok (.getfield 19, 3) := by decide +kernel
theorem dX8_gather_43 : decode cX8_gather 43 = .ok (.iload_n 1, 1) := by decide +kernel
theorem dX8_gather_44 : decode cX8_gather 44 = .ok (.iconst (-1), 1) := by decide +kernel
theorem dX8_gather_45 : decode cX8_gather 45 = .ok (.iastore, 1) := by decide +kernel
theorem dX8_gather_46 : decode cX8_gather 46 = .ok (.aload_n 0, 1) := by decide +kernel
theorem dX8_gather_47 : decode cX8_gather 47 = .ok (.getfield 37, 3) := by decide +kernel
theorem dX8_gather_50 : decode cX8_gather 50 = .ok (.iload_n 1, 1) := by decide +kernel
theorem dX8_gather_51 : decode cX8_gather 51 = .ok (.invokevirtual 47, 3) := by decide +kernel
theorem dX8_gather_54 : decode cX8_gather 54 = .ok (.ifCond .eq 71, 3) := by decide +kernel
theorem dX8_gather_57 : decode cX8_gather 57 = .ok (.aload_n 0, 1) := by decide +kernel
theorem dX8_gather_58 : decode cX8_gather 58 = .ok (.getfield 19, 3) := by decide +kernel
theorem dX8_gather_61 : decode cX8_gather 61 = .ok (.iload_n 1, 1) := by decide +kernel
theorem dX8_gather_62 : decode cX8_gather 62 = .ok (.aload_n 0, 1) := by decide +kernel
theorem dX8_gather_63 : decode cX8_gather 63 = .ok (.getfield 44, 3) := by decide +kernel
theorem dX8_gather_66 : decode cX8_gather 66 = .ok (.iastore, 1) := by decide +kernel
theorem dX8_gather_67 : decode cX8_gather 67 = .ok (.aload_n 0, 1) := by decide +kernel
theorem dX8_gather_68 : decode cX8_gather 68 = .ok (.getfield 15, 3) := by decide +kernel
theorem dX8_gather_71 : decode cX8_gather 71 = .ok (.aload_n 0, 1) := by decide +kernel
theorem dX8_gather_72 : decode cX8_gather 72 = .ok (.getfield 44, 3) := by decide +kernel
theorem dX8_gather_75 : decode cX8_gather 75 = .ok (.iload_n 1, 1) := by decide +kernel
theorem dX8_gather_76 : decode cX8_gather 76 = .ok (.iastore, 1) := by decide +kernel
theorem dX8_gather_77 : decode cX8_gather 77 = .ok (.aload_n 0, 1) := by decide +kernel
theorem dX8_gather_78 : decode cX8_gather 78 = .ok (.getfield 22, 3) := by decide +kernel
theorem dX8_gather_81 : decode cX8_gather 81 = .ok (.aload_n 0, 1) := by decide +kernel
theorem dX8_gather_82 : decode cX8_gather 82 = .ok (.getfield 44, 3) := by decide +kernel
theorem dX8_gather_85 : decode cX8_gather 85 = .ok (.aload_n 0, 1) := by decide +kernel
theorem dX8_gather_86 : decode cX8_gather 86 = .ok (.getfield 37, 3) := by decide +kernel
theorem dX8_gather_89 : decode cX8_gather 89 = .ok (.getfield 51, 3) := by decide +kernel
theorem dX8_gather_92 : decode cX8_gather 92 = .ok (.iload_n 1, 1) := by decide +kernel
theorem dX8_gather_93 : decode cX8_gather 93 = .ok (.iaload, 1) := by decide +kernel
theorem dX8_gather_94 : decode cX8_gather 94 = .ok (.iastore, 1) := by decide +kernel
theorem dX8_gather_95 : decode cX8_gather 95 = .ok (.aload_n 0, 1) := by decide +kernel
theorem dX8_gather_96 : decode cX8_gather 96 = .ok (.getfield 28, 3) := by decide +kernel
theorem dX8_gather_99 : decode cX8_gather 99 = .ok (.aload_n 0, 1) := by decide +kernel
theorem dX8_gather_100 : decode cX8_gather 100 = .ok (.getfield 44, 3) := by decide +kernel
theorem dX8_gather_103 : decode cX8_gather 103 = .ok (.iconst 0, 1) := by decide +kernel
theorem dX8_gather_104 : decode cX8_gather 104 = .ok (.iastore, 1) := by decide +kernel
theorem dX8_gather_105 : decode cX8_gather 105 = .ok (.aload_n 0, 1) := by decide +kernel
theorem dX8_gather_106 : decode cX8_gather 106 = .ok (.getfield 31, 3) := by decide +kernel
theorem dX8_gather_109 : decode cX8_gather 109 = .ok (.aload_n 0, 1) := by decide +kernel
theorem dX8_gather_110 : decode cX8_gather 110 = .ok (.getfield 44, 3) := by decide +kernel
theorem dX8_gather_113 : decode cX8_gather 113 = .ok (.iconst 0, 1) := by decide +kernel
theorem dX8_gather_114 : decode cX8_gather 114 = .ok (.iastore, 1) := by decide +kernel
theorem dX8_gather_115 : decode cX8_gather 115 = .ok (.aload_n 0, 1) := by decide +kernel
theorem dX8_gather_116 : decode cX8_gather 116 = .ok (.dup, 1) := by decide +kernel
theorem dX8_gather_117 : decode cX8_gather 117 = .ok (.getfield 44, 3) := by decide +kernel
theorem dX8_gather_120 : decode cX8_gather 120 = .ok (.iconst 1, 1) := by decide +kernel
theorem dX8_gather_121 : decode cX8_gather 121 = .ok (.iadd, 1) := by decide +kernel
theorem dX8_gather_122 : decode cX8_gather 122 = .ok (.putfield 44, 3) := by decide +kernel
theorem dX8_gather_125 : decode cX8_gather 125 = .ok (.iinc 1 1, 3) := by decide +kernel
theorem dX8_gather_128 : decode cX8_gather 128 = .ok (.goto (-95), 3) := by decide +kernel
theorem dX8_gather_131 : decode cX8_gather 131 = .ok (.iconst 0, 1) := by decide +kernel
theorem dX8_gather_132 : decode cX8_gather 132 = .ok (.istore_n 1, 1) := by decide +kernel
theorem dX8_gather_133 : decode cX8_gather 133 = .ok (.iload_n 1, 1) := by decide +kernel
theorem dX8_gather_134 : decode cX8_gather 134 = .ok (.aload_n 0, 1) := by decide +kernel
theorem dX8_gather_135 : decode cX8_gather 135 = .ok (.getfield 44, 3) := by decide +kernel
theorem dX8_gather_138 : decode cX8_gather 138 = .ok (.if_icmp .ge 19, 3) := by decide +kernel
theorem dX8_gather_141 : decode cX8_gather 141 = .ok (.aload_n 0, 1) := by decide +kernel
theorem dX8_gather_142 : decode cX8_gather 142 = .ok (.iload_n 1, 1) := by decide +kernel
theorem dX8_gather_143 : decode cX8_gather 143 = .ok (.invokevirtual 52, 3) := by decide +kernel
theorem dX8_gather_146 : decode cX8_gather 146 = .ok (.aload_n 0, 1) := by decide +kernel
theorem dX8_gather_147 : decode cX8_gather 147 = .ok (.iload_n 1, 1) := by decide +kernel
theorem dX8_gather_148 : decode cX8_gather 148 = .ok (.invokevirtual 56, 3) := by decide +kernel
theorem dX8_gather_151 : decode cX8_gather 151 = .ok (.iinc 1 1, 3) := by decide +kernel
theorem dX8_gather_154 : decode cX8_gather 154 = .ok (.goto (-21), 3) := by decide +kernel
theorem dX8_gather_157 : decode cX8_gather 157 = .ok (.return_, 1) := by decide +kernel
theorem dX8_gatherPecks_0 : decode cX8_gatherPecks 0 = .ok (.iconst 0, 1) := by decide +kernel
theorem dX8_gatherPecks_1 : decode cX8_gatherPecks 1 = .ok (.istore_n 2, 1) := by decide +kernel
theorem dX8_gatherPecks_2 : decode cX8_gatherPecks 2 = .ok (.iload_n 2, 1) := by decide +kernel
theorem dX8_gatherPecks_3 : decode cX8_gatherPecks 3 = .ok (.aload_n 0, 1) := by decide +kernel
theorem dX8_gatherPecks_4 : decode cX8_gatherPecks 4 = .ok (.getfield 44, 3) := by decide +kernel
theorem dX8_gatherPecks_7 : decode cX8_gatherPecks 7 = .ok (.if_icmp .ge 44, 3) := by decide +kernel
theorem dX8_gatherPecks_10 : decode cX8_gatherPecks 10 = .ok (.aload_n 0, 1) := by decide +kernel
theorem dX8_gatherPecks_11 : decode cX8_gatherPecks 11 = .ok (.getfield 34, 3) := by decide +kernel
theorem dX8_gatherPecks_14 : decode cX8_gatherPecks 14 = .ok (.iload_n 1, 1) := by decide +kernel
theorem dX8_gatherPecks_15 : decode cX8_gatherPecks 15 = .ok (.bipush 12, 2) := by decide +kernel
theorem dX8_gatherPecks_17 : decode cX8_gatherPecks 17 = .ok (.imul, 1) := by decide +kernel
theorem dX8_gatherPecks_18 : decode cX8_gatherPecks 18 = .ok (.iload_n 2, 1) := by decide +kernel
theorem dX8_gatherPecks_19 : decode cX8_gatherPecks 19 = .ok (.iadd, 1) := by decide +kernel
theorem dX8_gatherPecks_20 : decode cX8_gatherPecks 20 = .ok (.aload_n 0, 1) := by decide +kernel
theorem dX8_gatherPecks_21 : decode cX8_gatherPecks 21 = .ok (.getfield 37, 3) := by decide +kernel
theorem dX8_gatherPecks_24 : decode cX8_gatherPecks 24 = .ok (.getfield 59, 3) := by decide +kernel
theorem dX8_gatherPecks_27 : decode cX8_gatherPecks 27 = .ok (.aload_n 0, 1) := by decide +kernel
theorem dX8_gatherPecks_28 : decode cX8_gatherPecks 28 = .ok (.getfield 15, 3) := by decide +kernel
theorem dX8_gatherPecks_31 : decode cX8_gatherPecks 31 = .ok (.iload_n 1, 1) := by decide +kernel
theorem dX8_gatherPecks_32 : decode cX8_gatherPecks 32 = .ok (.iaload, 1) := by decide +kernel
theorem dX8_gatherPecks_33 : decode cX8_gatherPecks 33 = .ok (.bipush 12, 2) := by decide +kernel
theorem dX8_gatherPecks_35 : decode cX8_gatherPecks 35 = .ok (.imul, 1) := by decide +kernel
theorem dX8_gatherPecks_36 : decode cX8_gatherPecks 36 = .ok (.aload_n 0, 1) := by decide +kernel
theorem dX8_gatherPecks_37 : decode cX8_gatherPecks 37 = .ok (.getfield 15, 3) := by decide +kernel
theorem dX8_gatherPecks_40 : decode cX8_gatherPecks 40 = .ok (.iload_n 2, 1) := by decide +kernel
theorem dX8_gatherPecks_41 : decode cX8_gatherPecks 41 = .ok (.iaload, 1) := by decide +kernel
theorem dX8_gatherPecks_42 : decode cX8_gatherPecks 42 = .ok (.iadd, 1) := by decide +kernel
theorem dX8_gatherPecks_43 : decode cX8_gatherPecks 43 = .ok (.iaload, 1) := by decide +kernel
theorem dX8_gatherPecks_44 : decode cX8_gatherPecks 44 = .ok (.iastore, 1) := by decide +kernel
theorem dX8_gatherPecks_45 : decode cX8_gatherPecks 45 = .ok (.iinc 2 1, 3) := by decide +kernel
theorem dX8_gatherPecks_48 : decode cX8_gatherPecks 48 = .ok (.goto (-46), 3) := by decide +kernel
theorem dX8_gatherPecks_51 : decode cX8_gatherPecks 51 = .ok (.return_, 1) := by decide +kernel
set_option maxRecDepth 20000 in
set_option maxRecDepth 100000 in
theorem ggX8_gatherAsking_X2_asksForSomebody : GoodIn wsX8_gatherAsking wsX2_asksForSomebody := goodIn_r _ [13, 14, 15, 16, 27, 28, 29, 30, 31, 32, 33] rfl (by decide +kernel)
set_option maxRecDepth 20000 in
theorem gX8_gatherAsking_X2_asksForSomebody : GoodIn wsX8_gatherAsking (wsV RX8 62 RX2 yX2_asksForSomebody wsX2_asksForSomebody) := goodIn_app (goodIn_of _ (by decide +kernel)) ggX8_gatherAsking_X2_asksForSomebody
theorem dX8_gatherAsking_0 : decode cX8_gatherAsking 0 = .ok (.aload_n 0, 1) := by decide +kernel
theorem dX8_gatherAsking_1 : decode cX8_gatherAsking 1 = .ok (.getfield 15, 3) := by decide +kernel
theorem dX8_gatherAsking_4 : decode cX8_gatherAsking 4 = .ok (.iload_n 1, 1) := by decide +kernel
theorem dX8_gatherAsking_5 : decode cX8_gatherAsking 5 = .ok (.iaload, 1) := by decide +kernel
theorem dX8_gatherAsking_6 : decode cX8_gatherAsking 6 = .ok (.istore_n 2, 1) := by decide +kernel
theorem dX8_gatherAsking_7 : decode cX8_gatherAsking 7 = .ok (.aload_n 0, 1) := by decide +kernel
theorem dX8_gatherAsking_8 : decode cX8_gatherAsking 8 = .ok (.getfield 25, 3) := by decide +kernel
theorem dX8_gatherAsking_11 : decode cX8_gatherAsking 11 = .ok (.iload_n 1, 1) := by decide +kernel
theorem dX8_gatherAsking_12 : decode cX8_gatherAsking 12 = .ok (.aload_n 0, 1) := by decide +kernel
theorem dX8_gatherAsking_13 : decode cX8_gatherAsking 13 = .ok (.getfield 37, 3) := by decide +kernel
theorem dX8_gatherAsking_16 : decode cX8_gatherAsking 16 = .ok (.iload_n 2, 1) := by decide +kernel
theorem dX8_gatherAsking_17 : decode cX8_gatherAsking 17 = .ok (.invokevirtual 62, 3) := by decide +kernel
theorem dX8_gatherAsking_20 : decode cX8_gatherAsking 20 = .ok (.ifCond .eq 20, 3) := by decide +kernel
theorem dX8_gatherAsking_23 : decode cX8_gatherAsking 23 = .ok (.aload_n 0, 1) := by decide +kernel
theorem dX8_gatherAsking_24 : decode cX8_gatherAsking 24 = .ok (.getfield 19, 3) := by decide +kernel
theorem dX8_gatherAsking_27 : decode cX8_gatherAsking 27 = .ok (.aload_n 0, 1) := by decide +kernel
theorem dX8_gatherAsking_28 : decode cX8_gatherAsking 28 = .ok (.getfield 37, 3) := by decide +kernel
theorem dX8_gatherAsking_31 : decode cX8_gatherAsking 31 = .ok (.getfield 65, 3) := by decide +kernel
theorem dX8_gatherAsking_34 : decode cX8_gatherAsking 34 = .ok (.iload_n 2, 1) := by decide +kernel
theorem dX8_gatherAsking_35 : decode cX8_gatherAsking 35 = .ok (.iaload, 1) := by decide +kernel
theorem dX8_gatherAsking_36 : decode cX8_gatherAsking 36 = .ok (.iaload, 1) := by decide +kernel
theorem dX8_gatherAsking_37 : decode cX8_gatherAsking 37 = .ok (.goto 4, 3) := by decide +kernel
theorem dX8_gatherAsking_40 : decode cX8_gatherAsking 40 = .ok (.iconst (-1), 1) := by decide +kernel
theorem dX8_gatherAsking_41 : decode cX8_gatherAsking 41 = .ok (.iastore, 1) := by decide +kernel
theorem dX8_gatherAsking_42 : decode cX8_gatherAsking 42 = .ok (.aload_n 0, 1) := by decide +kernel
theorem dX8_gatherAsking_43 : decode cX8_gatherAsking 43 = .ok (.getfield 25, 3) := by decide +kernel
theorem dX8_gatherAsking_46 : decode cX8_gatherAsking 46 = .ok (.iload_n 1, 1) := by decide +kernel
theorem dX8_gatherAsking_47 : decode cX8_gatherAsking 47 = .ok (.iaload, 1) := by decide +kernel
theorem dX8_gatherAsking_48 : decode cX8_gatherAsking 48 = .ok (.iconst (-1), 1) := by decide +kernel
theorem dX8_gatherAsking_49 : decode cX8_gatherAsking 49 = .ok (.if_icmp .ne 4, 3) := by decide +kernel
theorem dX8_gatherAsking_52 : decode cX8_gatherAsking 52 = .ok (.return_, 1) := by decide +kernel
theorem dX8_gatherAsking_53 : decode cX8_gatherAsking 53 = .ok (.aload_n 0, 1) := by decide +kernel
theorem dX8_gatherAsking_54 : decode cX8_gatherAsking 54 = .ok (.getfield 22, 3) := by decide +kernel
theorem dX8_gatherAsking_57 : decode cX8_gatherAsking 57 = .ok (.iload_n 1, 1) := by decide +kernel
theorem dX8_gatherAsking_58 : decode cX8_gatherAsking 58 = .ok (.iaload, 1) := by decide +kernel
theorem dX8_gatherAsking_59 : decode cX8_gatherAsking 59 = .ok (.iconst 2, 1) := by decide +kernel
theorem dX8_gatherAsking_60 : decode cX8_gatherAsking 60 = .ok (.if_icmp .ne 23, 3) := by decide +kernel
theorem dX8_gatherAsking_63 : decode cX8_gatherAsking 63 = .ok (.aload_n 0, 1) := by decide +kernel
theorem dX8_gatherAsking_64 : decode cX8_gatherAsking 64 = .ok (.getfield 28, 3) := by decide +kernel
theorem dX8_gatherAsking_67 : decode cX8_gatherAsking 67 = .ok (.iload_n 1, 1) := by decide +kernel
theorem dX8_gatherAsking_68 : decode cX8_gatherAsking 68 = .ok (.dup2, 1) := by decide +kernel
theorem dX8_gatherAsking_69 : decode cX8_gatherAsking 69 = .ok (.iaload, 1) := by decide +kernel
theorem dX8_gatherAsking_70 : decode cX8_gatherAsking 70 = .ok (.iconst 1, 1) := by decide +kernel
theorem dX8_gatherAsking_71 : decode cX8_gatherAsking 71 = .ok (.aload_n 0, 1) := by decide +kernel
theorem dX8_gatherAsking_72 : decode cX8_gatherAsking 72 = .ok (.getfield 25, 3) := by decide +kernel
theorem dX8_gatherAsking_75 : decode cX8_gatherAsking 75 = .ok (.iload_n 1, 1) := by decide +kernel
theorem dX8_gatherAsking_76 : decode cX8_gatherAsking 76 = .ok (.iaload, 1) := by decide +kernel
theorem dX8_gatherAsking_77 : decode cX8_gatherAsking 77 = .ok (.ishl, 1) := by decide +kernel
theorem dX8_gatherAsking_78 : decode cX8_gatherAsking 78 = .ok (.ior, 1) := by decide +kernel
theorem dX8_gatherAsking_79 : decode cX8_gatherAsking 79 = .ok (.iastore, 1) := by decide +kernel
theorem dX8_gatherAsking_80 : decode cX8_gatherAsking 80 = .ok (.goto 20, 3) := by decide +kernel
theorem dX8_gatherAsking_83 : decode cX8_gatherAsking 83 = .ok (.aload_n 0, 1) := by decide +kernel
theorem dX8_gatherAsking_84 : decode cX8_gatherAsking 84 = .ok (.getfield 28, 3) := by decide +kernel
theorem dX8_gatherAsking_87 : decode cX8_gatherAsking 87 = .ok (.aload_n 0, 1) := by decide +kernel
theorem dX8_gatherAsking_88 : decode cX8_gatherAsking 88 = .ok (.getfield 25, 3) := by decide +kernel
theorem dX8_gatherAsking_91 : decode cX8_gatherAsking 91 = .ok (.iload_n 1, 1) := by decide +kernel
theorem dX8_gatherAsking_92 : decode cX8_gatherAsking 92 = .ok (.iaload, 1) := by decide +kernel
theorem dX8_gatherAsking_93 : decode cX8_gatherAsking 93 = .ok (.dup2, 1) := by decide +kernel
theorem dX8_gatherAsking_94 : decode cX8_gatherAsking 94 = .ok (.iaload, 1) := by decide +kernel
theorem dX8_gatherAsking_95 : decode cX8_gatherAsking 95 = .ok (.iconst 1, 1) := by decide +kernel
theorem dX8_gatherAsking_96 : decode cX8_gatherAsking 96 = .ok (.iload_n 1, 1) := by decide +kernel
theorem dX8_gatherAsking_97 : decode cX8_gatherAsking 97 = .ok (.ishl, 1) := by decide +kernel
theorem dX8_gatherAsking_98 : decode cX8_gatherAsking 98 = .ok (.ior, 1) := by decide +kernel
theorem dX8_gatherAsking_99 : decode cX8_gatherAsking 99 = .ok (.iastore, 1) := by decide +kernel
theorem dX8_gatherAsking_100 : decode cX8_gatherAsking 100 = .ok (.aload_n 0, 1) := by decide +kernel
theorem dX8_gatherAsking_101 : decode cX8_gatherAsking 101 = .ok (.getfield 22, 3) := by decide +kernel
theorem dX8_gatherAsking_104 : decode cX8_gatherAsking 104 = .ok (.iload_n 1, 1) := by decide +kernel
theorem dX8_gatherAsking_105 : decode cX8_gatherAsking 105 = .ok (.iaload, 1) := by decide +kernel
theorem dX8_gatherAsking_106 : decode cX8_gatherAsking 106 = .ok (.iconst 3, 1) := by decide +kernel
theorem dX8_gatherAsking_107 : decode cX8_gatherAsking 107 = .ok (.if_icmp .ne 20, 3) := by decide +kernel
theorem dX8_gatherAsking_110 : decode cX8_gatherAsking 110 = .ok (.aload_n 0, 1) := by decide +kernel
theorem dX8_gatherAsking_111 : decode cX8_gatherAsking 111 = .ok (.getfield 31, 3) := by decide +kernel
theorem dX8_gatherAsking_114 : decode cX8_gatherAsking 114 = .ok (.aload_n 0, 1) := by decide +kernel
theorem dX8_gatherAsking_115 : decode cX8_gatherAsking 115 = .ok (.getfield 25, 3) := by decide +kernel
theorem dX8_gatherAsking_118 : decode cX8_gatherAsking 118 = .ok (.iload_n 1, 1) := by decide +kernel
theorem dX8_gatherAsking_119 : decode cX8_gatherAsking 119 = .ok (.iaload, 1) := by decide +kernel
theorem dX8_gatherAsking_120 : decode cX8_gatherAsking 120 = .ok (.dup2, 1) := by decide +kernel
theorem dX8_gatherAsking_121 : decode cX8_gatherAsking 121 = .ok (.iaload, 1) := by decide +kernel
theorem dX8_gatherAsking_122 : decode cX8_gatherAsking 122 = .ok (.iconst 1, 1) := by decide +kernel
theorem dX8_gatherAsking_123 : decode cX8_gatherAsking 123 = .ok (.iload_n 1, 1) := by decide +kernel
theorem dX8_gatherAsking_124 : decode cX8_gatherAsking 124 = .ok (.ishl, 1) := by decide +kernel
theorem dX8_gatherAsking_125 : decode cX8_gatherAsking 125 = .ok (.ior, 1) := by decide +kernel
theorem dX8_gatherAsking_126 : decode cX8_gatherAsking 126 = .ok (.iastore, 1) := by decide +kernel
theorem dX8_gatherAsking_127 : decode cX8_gatherAsking 127 = .ok (.return_, 1) := by decide +kernel
theorem dX8_all_0 : decode cX8_all 0 = .ok (.iconst 1, 1) := by decide +kernel
theorem dX8_all_1 : decode cX8_all 1 = .ok (.aload_n 0, 1) := by decide +kernel
theorem dX8_all_2 : decode cX8_all 2 = .ok (.getfield 44, 3) := by decide +kernel
theorem dX8_all_5 : decode cX8_all 5 = .ok (.ishl, 1) := by decide +kernel
theorem dX8_all_6 : decode cX8_all 6 = .ok (.iconst 1, 1) := by decide +kernel
theorem dX8_all_7 : decode cX8_all 7 = .ok (.isub, 1) := by decide +kernel
theorem dX8_all_8 : decode cX8_all 8 = .ok (.ireturn, 1) := by decide +kernel
theorem dX8_peckOf_0 : decode cX8_peckOf 0 = .ok (.aload_n 0, 1) := by decide +kernel
theorem dX8_peckOf_1 : decode cX8_peckOf 1 = .ok (.getfield 34, 3) := by decide +kernel
theorem dX8_peckOf_4 : decode cX8_peckOf 4 = .ok (.iload_n 1, 1) := by decide +kernel
theorem dX8_peckOf_5 : decode cX8_peckOf 5 = .ok (.bipush 12, 2) := by decide +kernel
theorem dX8_peckOf_7 : decode cX8_peckOf 7 = .ok (.imul, 1) := by decide +kernel
theorem dX8_peckOf_8 : decode cX8_peckOf 8 = .ok (.iload_n 2, 1) := by decide +kernel
theorem dX8_peckOf_9 : decode cX8_peckOf 9 = .ok (.iadd, 1) := by decide +kernel
theorem dX8_peckOf_10 : decode cX8_peckOf 10 = .ok (.iaload, 1) := by decide +kernel
theorem dX8_peckOf_11 : decode cX8_peckOf 11 = .ok (.ireturn, 1) := by decide +kernel
set_option maxRecDepth 20000 in
set_option maxRecDepth 100000 in
theorem ggX8_allPecks_X8_peckOf : GoodIn wsX8_allPecks wsX8_peckOf := goodIn_r _ [6, 7, 8, 9, 10, 11, 12, 13, 14, 15, 16, 17] rfl (by decide +kernel)
set_option maxRecDepth 20000 in
theorem gX8_allPecks_X8_peckOf : GoodIn wsX8_allPecks (wsV RX8 68 RX8 yX8_peckOf wsX8_peckOf) := goodIn_app (goodIn_of _ (by decide +kernel)) ggX8_allPecks_X8_peckOf
theorem dX8_allPecks_0 : decode cX8_allPecks 0 = .ok (.lconst 0, 1) := by decide +kernel
theorem dX8_allPecks_1 : decode cX8_allPecks 1 = .ok (.lstore_n 1, 1) := by decide +kernel
theorem dX8_allPecks_2 : decode cX8_allPecks 2 = .ok (.iconst 0, 1) := by decide +kernel
theorem dX8_allPecks_3 : decode cX8_allPecks 3 = .ok (.istore_n 3, 1) := by decide +kernel
theorem dX8_allPecks_4 : decode cX8_allPecks 4 = .ok (.iload_n 3, 1) := by decide +kernel
theorem dX8_allPecks_5 : decode cX8_allPecks 5 = .ok (.aload_n 0, 1) := by decide +kernel
theorem dX8_allPecks_6 : decode cX8_allPecks 6 = .ok (.getfield 44, 3) := by decide +kernel
theorem dX8_allPecks_9 : decode cX8_allPecks 9 = .ok (.if_icmp .ge 38, 3) := by decide +kernel
theorem dX8_allPecks_12 : decode cX8_allPecks 12 = .ok (.iconst 0, 1) := by decide +kernel
theorem dX8_allPecks_13 : decode cX8_allPecks 13 = .ok (.istore 4, 2) := by decide +kernel
theorem dX8_allPecks_15 : decode cX8_allPecks 15 = .ok (.iload 4, 2) := by decide +kernel
theorem dX8_allPecks_17 : decode cX8_allPecks 17 = .ok (.aload_n 0, 1) := by decide +kernel
theorem dX8_allPecks_18 : decode cX8_allPecks 18 = .ok (.getfield 44, 3) := by decide +kernel
theorem dX8_allPecks_21 : decode cX8_allPecks 21 = .ok (.if_icmp .ge 20, 3) := by decide +kernel
theorem dX8_allPecks_24 : decode cX8_allPecks 24 = .ok (.lload_n 1, 1) := by decide +kernel
theorem dX8_allPecks_25 : decode cX8_allPecks 25 = .ok (.aload_n 0, 1) := by decide +kernel
theorem dX8_allPecks_26 : decode cX8_allPecks 26 = .ok (.iload_n 3, 1) := by decide +kernel
theorem dX8_allPecks_27 : decode cX8_allPecks 27 = .ok (.iload 4, 2) := by decide +kernel
theorem dX8_allPecks_29 : decode cX8_allPecks 29 = .ok (.invokevirtual 68, 3) := by decide +kernel
theorem dX8_allPecks_32 : decode cX8_allPecks 32 = .ok (.i2l, 1) := by decide +kernel
theorem dX8_allPecks_33 : decode cX8_allPecks 33 = .ok (.ladd, 1) := by decide +kernel
theorem dX8_allPecks_34 : decode cX8_allPecks 34 = .ok (.lstore_n 1, 1) := by decide +kernel
theorem dX8_allPecks_35 : decode cX8_allPecks 35 = .ok (.iinc 4 1, 3) := by decide +kernel
theorem dX8_allPecks_38 : decode cX8_allPecks 38 = .ok (.goto (-23), 3) := by decide +kernel
theorem dX8_allPecks_41 : decode cX8_allPecks 41 = .ok (.iinc 3 1, 3) := by decide +kernel
theorem dX8_allPecks_44 : decode cX8_allPecks 44 = .ok (.goto (-40), 3) := by decide +kernel
theorem dX8_allPecks_47 : decode cX8_allPecks 47 = .ok (.lload_n 1, 1) := by decide +kernel
theorem dX8_allPecks_48 : decode cX8_allPecks 48 = .ok (.lreturn, 1) := by decide +kernel
set_option maxRecDepth 20000 in
set_option maxRecDepth 100000 in
theorem ggX9_init_X4_init : GoodIn wsX9_init wsX4_init := goodIn_r _ [21, 22, 2, 3, 23, 7, 24, 25, 26, 27, 28, 29, 30, 42, 43, 44, 45, 46, 47, 48, 49] rfl (by decide +kernel)
set_option maxRecDepth 20000 in
theorem gX9_init_X4_init : GoodIn wsX9_init (wsX4_init) := ggX9_init_X4_init
theorem dX9_init_0 : decode cX9_init 0 = .ok (.aload_n 0, 1) := by decide +kernel
theorem dX9_init_1 : decode cX9_init 1 = .ok (.invokespecial 3, 3) := by decide +kernel
theorem dX9_init_4 : decode cX9_init 4 = .ok (.aload_n 0, 1) := by decide +kernel
theorem dX9_init_5 : decode cX9_init 5 = .ok (.iconst (-1), 1) := by decide +kernel
theorem dX9_init_6 : decode cX9_init 6 = .ok (.putfield 9, 3) := by decide +kernel
theorem dX9_init_9 : decode cX9_init 9 = .ok (.aload_n 0, 1) := by decide +kernel
theorem dX9_init_10 : decode cX9_init 10 = .ok (.iconst (-1), 1) := by decide +kernel
theorem dX9_init_11 : decode cX9_init 11 = .ok (.putfield 15, 3) := by decide +kernel
theorem dX9_init_14 : decode cX9_init 14 = .ok (.aload_n 0, 1) := by decide +kernel
theorem dX9_init_15 : decode cX9_init 15 = .ok (.iconst (-1), 1) := by decide +kernel
theorem dX9_init_16 : decode cX9_init 16 = .ok (.putfield 18, 3) := by decide +kernel
theorem dX9_init_19 : decode cX9_init 19 = .ok (.aload_n 0, 1) := by decide +kernel
theorem dX9_init_20 : decode cX9_init 20 = .ok (.iconst 1, 1) := by decide +kernel
theorem dX9_init_21 : decode cX9_init 21 = .ok (.newarray .int, 2) := by decide +kernel
theorem dX9_init_23 : decode cX9_init 23 = .ok (.putfield 21, 3) := by decide +kernel
theorem dX9_init_26 : decode cX9_init 26 = .ok (.aload_n 0, 1) := by decide +kernel
theorem dX9_init_27 : decode cX9_init 27 = .ok (.iconst 1, 1) := by decide +kernel
theorem dX9_init_28 : decode cX9_init 28 = .ok (.newarray .int, 2) := by decide +kernel
theorem dX9_init_30 : decode cX9_init 30 = .ok (.putfield 25, 3) := by decide +kernel
theorem dX9_init_33 : decode cX9_init 33 = .ok (.aload_n 0, 1) := by decide +kernel
theorem dX9_init_34 : decode cX9_init 34 = .ok (.iconst 1, 1) := by decide +kernel
theorem dX9_init_35 : decode cX9_init 35 = .ok (.newarray .int, 2) := by decide +kernel
theorem dX9_init_37 : decode cX9_init 37 = .ok (.putfield 28, 3) := by decide +kernel
theorem dX9_init_40 : decode cX9_init 40 = .ok (.aload_n 0, 1) := by decide +kernel
theorem dX9_init_41 : decode cX9_init 41 = .ok (.iconst 1, 1) := by decide +kernel
theorem dX9_init_42 : decode cX9_init 42 = .ok (.newarray .byte, 2) := by decide +kernel
theorem dX9_init_44 : decode cX9_init 44 = .ok (.putfield 31, 3) := by decide +kernel
theorem dX9_init_47 : decode cX9_init 47 = .ok (.aload_n 0, 1) := by decide +kernel
theorem dX9_init_48 : decode cX9_init 48 = .ok (.bipush 12, 2) := by decide +kernel
theorem dX9_init_50 : decode cX9_init 50 = .ok (.newarray .int, 2) := by decide +kernel
theorem dX9_init_52 : decode cX9_init 52 = .ok (.putfield 35, 3) := by decide +kernel
theorem dX9_init_55 : decode cX9_init 55 = .ok (.aload_n 0, 1) := by decide +kernel
theorem dX9_init_56 : decode cX9_init 56 = .ok (.aload_n 1, 1) := by decide +kernel
theorem dX9_init_57 : decode cX9_init 57 = .ok (.putfield 38, 3) := by decide +kernel
theorem dX9_init_60 : decode cX9_init 60 = .ok (.aload_n 0, 1) := by decide +kernel
theorem dX9_init_61 : decode cX9_init 61 = .ok (.new 42, 3) := by decide +kernel
theorem dX9_init_64 : decode cX9_init 64 = .ok (.dup, 1) := by decide +kernel
theorem dX9_init_65 : decode cX9_init 65 = .ok (.aload_n 1, 1) := by decide +kernel
theorem dX9_init_66 : decode cX9_init 66 = .ok (.invokespecial 44, 3) := by decide +kernel
theorem dX9_init_69 : decode cX9_init 69 = .ok (.putfield 47, 3) := by decide +kernel
theorem dX9_init_72 : decode cX9_init 72 = .ok (.return_, 1) := by decide +kernel
set_option maxRecDepth 20000 in
set_option maxRecDepth 100000 in
theorem ggX9_solve_X4_prepare : GoodIn wsX9_solve wsX4_prepare := goodIn_r _ [12, 13, 14, 15, 16, 17, 18, 19, 20, 21, 22, 23, 24, 25, 26, 27, 28, 29, 30, 31, 32, 33, 34, 35, 36, 37, 38, 39, 40, 41, 42, 43, 44, 45, 46, 47, 48, 49, 50, 51, 52, 53, 54, 55, 56, 57, 58, 59, 60, 61, 62, 63, 64, 65, 66, 67, 68, 69, 70, 71, 11, 72, 73, 74, 75, 76, 77, 78, 79, 127, 128, 129, 130, 131, 132, 133, 134, 117, 118, 119, 120, 121, 122, 123, 124, 125, 126, 135, 136, 137, 138, 139, 140, 141] rfl (by decide +kernel)
set_option maxRecDepth 20000 in
theorem gX9_solve_X4_prepare : GoodIn wsX9_solve (wsV RX9 51 RX4 yX4_prepare wsX4_prepare) := goodIn_app (goodIn_of _ (by decide +kernel)) ggX9_solve_X4_prepare
set_option maxRecDepth 20000 in
set_option maxRecDepth 100000 in
theorem ggX9_solve_X8_all : GoodIn wsX9_solve wsX8_all := goodIn_r _ [83, 33, 117, 118, 119, 120, 121, 122, 123, 124, 125, 126] rfl (by decide +kernel)
set_option maxRecDepth 20000 in
theorem gX9_solve_X8_all : GoodIn wsX9_solve (wsV RX9 59 RX8 yX8_all wsX8_all) := goodIn_app (goodIn_of _ (by decide +kernel)) ggX9_solve_X8_all
set_option maxRecDepth 20000 in
set_option maxRecDepth 100000 in
theorem ggX9_solve_X9_choices : GoodIn wsX9_solve wsX9_choices := goodIn_r _ [88, 3, 1, 80, 81, 82, 28, 83, 33, 89, 90, 91, 11, 92, 20, 21, 93, 94, 95, 96, 17, 18, 106, 107, 108, 109, 110, 111, 112, 113, 114, 115, 116, 117, 118, 119, 120, 121, 122, 123, 124, 125, 126, 127, 128, 129, 130, 131, 132, 133, 134] rfl (by decide +kernel)
set_option maxRecDepth 20000 in
theorem gX9_solve_X9_choices : GoodIn wsX9_solve (wsV RX9 63 RX9 yX9_choices wsX9_choices) := goodIn_app (goodIn_of _ (by decide +kernel)) ggX9_solve_X9_choices
set_option maxRecDepth 20000 in
set_option maxRecDepth 100000 in
theorem ggX9_solve_X9_weighRest : GoodIn wsX9_solve wsX9_weighRest := goodIn_r _ [100, 101, 5, 1, 7, 102, 103, 104, 11, 105, 23, 24, 106, 107, 108, 109, 110, 111, 112, 113, 114, 115, 116, 127, 128, 129, 130, 131, 132, 133, 134] rfl (by decide +kernel)
set_option maxRecDepth 20000 in
theorem gX9_solve_X9_weighRest : GoodIn wsX9_solve (wsV RX9 67 RX9 yX9_weighRest wsX9_weighRest) := goodIn_app (goodIn_of _ (by decide +kernel)) ggX9_solve_X9_weighRest
theorem dX9_solve_0 : decode cX9_solve 0 = .ok (.aload_n 0, 1) := by decide +kernel
theorem dX9_solve_1 : decode cX9_solve 1 = .ok (.getfield 47, 3) := by decide +kernel
theorem dX9_solve_4 : decode cX9_solve 4 = .ok (.invokevirtual 51, 3) := by decide +kernel
theorem dX9_solve_7 : decode cX9_solve 7 = .ok (.aload_n 0, 1) := by decide +kernel
theorem dX9_solve_8 : decode cX9_solve 8 = .ok (.getfield 9, 3) := by decide +kernel
theorem dX9_solve_11 : decode cX9_solve 11 = .ok (.aload_n 0, 1) := by decide +kernel
theorem dX9_solve_12 : decode cX9_solve 12 = .ok (.getfield 38, 3) := by decide +kernel
theorem dX9_solve_15 : decode cX9_solve 15 = .ok (.getfield 54, 3) := by decide +kernel
theorem dX9_solve_18 : decode cX9_solve 18 = .ok (.if_icmp .ne 4, 3) := by decide +kernel
theorem dX9_solve_21 : decode cX9_solve 21 = .ok (.return_, 1) := by decide +kernel
theorem dX9_solve_22 : decode cX9_solve 22 = .ok (.aload_n 0, 1) := by decide +kernel
theorem dX9_solve_23 : decode cX9_solve 23 = .ok (.aload_n 0, 1) := by decide +kernel
theorem dX9_solve_24 : decode cX9_solve 24 = .ok (.getfield 38, 3) := by decide +kernel
theorem dX9_solve_27 : decode cX9_solve 27 = .ok (.getfield 54, 3) := by decide +kernel
theorem dX9_solve_30 : decode cX9_solve 30 = .ok (.putfield 9, 3) := by decide +kernel
theorem dX9_solve_33 : decode cX9_solve 33 = .ok (.aload_n 0, 1) := by decide +kernel
theorem dX9_solve_34 : decode cX9_solve 34 = .ok (.getfield 38, 3) := by decide +kernel
theorem dX9_solve_37 : decode cX9_solve 37 = .ok (.invokevirtual 59, 3) := by decide +kernel
theorem dX9_solve_40 : decode cX9_solve 40 = .ok (.istore_n 1, 1) := by decide +kernel
theorem dX9_solve_41 : decode cX9_solve 41 = .ok (.aload_n 0, 1) := by decide +kernel
theorem dX9_solve_42 : decode cX9_solve 42 = .ok (.getfield 21, 3) := by decide +kernel
theorem dX9_solve_45 : decode cX9_solve 45 = .ok (.arraylength, 1) := by decide +kernel
theorem dX9_solve_46 : decode cX9_solve 46 = .ok (.iload_n 1, 1) := by decide +kernel
theorem dX9_solve_47 : decode cX9_solve 47 = .ok (.if_icmp .gt 21, 3) := by decide +kernel
theorem dX9_solve_50 : decode cX9_solve 50 = .ok (.aload_n 0, 1) := by decide +kernel
theorem dX9_solve_51 : decode cX9_solve 51 = .ok (.iload_n 1, 1) := by decide +kernel
theorem dX9_solve_52 : decode cX9_solve 52 = .ok (.iconst 1, 1) := by decide +kernel
theorem dX9_solve_53 : decode cX9_solve 53 = .ok (.iadd, 1) := by decide +kernel
theorem dX9_solve_54 : decode cX9_solve 54 = .ok (.newarray .int, 2) := by decide +kernel
theorem dX9_solve_56 : decode cX9_solve 56 = .ok (.putfield 21, 3) := by decide +kernel
theorem dX9_solve_59 : decode cX9_solve 59 = .ok (.aload_n 0, 1) := by decide +kernel
theorem dX9_solve_60 : decode cX9_solve 60 = .ok (.iload_n 1, 1) := by decide +kernel
theorem dX9_solve_61 : decode cX9_solve 61 = .ok (.iconst 1, 1) := by decide +kernel
theorem dX9_solve_62 : decode cX9_solve 62 = .ok (.iadd, 1) := by decide +kernel
theorem dX9_solve_63 : decode cX9_solve 63 = .ok (.newarray .int, 2) := by decide +kernel
theorem dX9_solve_65 : decode cX9_solve 65 = .ok (.putfield 25, 3) := by decide +kernel
theorem dX9_solve_68 : decode cX9_solve 68 = .ok (.aload_n 0, 1) := by decide +kernel
theorem dX9_solve_69 : decode cX9_solve 69 = .ok (.getfield 21, 3) := by decide +kernel
theorem dX9_solve_72 : decode cX9_solve 72 = .ok (.iload_n 1, 1) := by decide +kernel
theorem dX9_solve_73 : decode cX9_solve 73 = .ok (.iconst 0, 1) := by decide +kernel
theorem dX9_solve_74 : decode cX9_solve 74 = .ok (.iastore, 1) := by decide +kernel
theorem dX9_solve_75 : decode cX9_solve 75 = .ok (.aload_n 0, 1) := by decide +kernel
theorem dX9_solve_76 : decode cX9_solve 76 = .ok (.getfield 25, 3) := by decide +kernel
theorem dX9_solve_79 : decode cX9_solve 79 = .ok (.iload_n 1, 1) := by decide +kernel
theorem dX9_solve_80 : decode cX9_solve 80 = .ok (.iconst 1, 1) := by decide +kernel
theorem dX9_solve_81 : decode cX9_solve 81 = .ok (.iastore, 1) := by decide +kernel
theorem dX9_solve_82 : decode cX9_solve 82 = .ok (.iload_n 1, 1) := by decide +kernel
theorem dX9_solve_83 : decode cX9_solve 83 = .ok (.iconst 1, 1) := by decide +kernel
theorem dX9_solve_84 : decode cX9_solve 84 = .ok (.isub, 1) := by decide +kernel
theorem dX9_solve_85 : decode cX9_solve 85 = .ok (.istore_n 2, 1) := by decide +kernel
theorem dX9_solve_86 : decode cX9_solve 86 = .ok (.iload_n 2, 1) := by decide +kernel
theorem dX9_solve_87 : decode cX9_solve 87 = .ok (.ifCond .lt 19, 3) := by decide +kernel
theorem dX9_solve_90 : decode cX9_solve 90 = .ok (.aload_n 0, 1) := by decide +kernel
theorem dX9_solve_91 : decode cX9_solve 91 = .ok (.iload_n 2, 1) := by decide +kernel
theorem dX9_solve_92 : decode cX9_solve 92 = .ok (.aload_n 0, 1) := by decide +kernel
theorem dX9_solve_93 : decode cX9_solve 93 = .ok (.iload_n 2, 1) := by decide +kernel
theorem dX9_solve_94 : decode cX9_solve 94 = .ok (.invokevirtual 63, 3) := by decide +kernel
theorem dX9_solve_97 : decode cX9_solve 97 = .ok (.invokevirtual 67, 3) := by decide +kernel
theorem dX9_solve_100 : decode cX9_solve 100 = .ok (.iinc 2 (-1), 3) := by decide +kernel
theorem dX9_solve_103 : decode cX9_solve 103 = .ok (.goto (-17), 3) := by decide +kernel
theorem dX9_solve_106 : decode cX9_solve 106 = .ok (.return_, 1) := by decide +kernel
set_option maxRecDepth 20000 in
set_option maxRecDepth 100000 in
theorem ggX9_weighRest_X4_costBelow : GoodIn wsX9_weighRest wsX4_costBelow := goodIn_r _ [9, 10, 11, 23, 24, 25, 26, 27, 28, 29, 30] rfl (by decide +kernel)
set_option maxRecDepth 20000 in
theorem gX9_weighRest_X4_costBelow : GoodIn wsX9_weighRest (wsV RX9 72 RX4 yX4_costBelow wsX4_costBelow) := goodIn_app (goodIn_of _ (by decide +kernel)) ggX9_weighRest_X4_costBelow
theorem dX9_weighRest_0 : decode cX9_weighRest 0 = .ok (.ldc 71, 2) := by decide +kernel
theorem dX9_weighRest_2 : decode cX9_weighRest 2 = .ok (.istore_n 3, 1) := by decide +kernel
theorem dX9_weighRest_3 : decode cX9_weighRest 3 = .ok (.iconst 0, 1) := by decide +kernel
theorem dX9_weighRest_4 : decode cX9_weighRest 4 = .ok (.istore 4, 2) := by decide +kernel
theorem dX9_weighRest_6 : decode cX9_weighRest 6 = .ok (.iconst 0, 1) := by decide +kernel
theorem dX9_weighRest_7 : decode cX9_weighRest 7 = .ok (.istore 5, 2) := by decide +kernel
theorem dX9_weighRest_9 : decode cX9_weighRest 9 = .ok (.iload_n 2, 1) := by decide +kernel
theorem dX9_weighRest_10 : decode cX9_weighRest 10 = .ok (.istore 6, 2) := by decide +kernel
theorem dX9_weighRest_12 : decode cX9_weighRest 12 = .ok (.iload 5, 2) := by decide +kernel
theorem dX9_weighRest_14 : decode cX9_weighRest 14 = .ok (.bipush 12, 2) := by decide +kernel
theorem dX9_weighRest_16 : decode cX9_weighRest 16 = .ok (.if_icmp .ge 95, 3) := by decide +kernel
theorem dX9_weighRest_19 : decode cX9_weighRest 19 = .ok (.iload 6, 2) := by decide +kernel
theorem dX9_weighRest_21 : decode cX9_weighRest 21 = .ok (.ifCond .eq 90, 3) := by decide +kernel
theorem dX9_weighRest_24 : decode cX9_weighRest 24 = .ok (.iload 6, 2) := by decide +kernel
theorem dX9_weighRest_26 : decode cX9_weighRest 26 = .ok (.iconst 1, 1) := by decide +kernel
theorem dX9_weighRest_27 : decode cX9_weighRest 27 = .ok (.iand, 1) := by decide +kernel
theorem dX9_weighRest_28 : decode cX9_weighRest 28 = .ok (.iconst 1, 1) := by decide +kernel
theorem dX9_weighRest_29 : decode cX9_weighRest 29 = .ok (.if_icmp .ne 70, 3) := by decide +kernel
theorem dX9_weighRest_32 : decode cX9_weighRest 32 = .ok (.iload_n 1, 1) := by decide +kernel
theorem dX9_weighRest_33 : decode cX9_weighRest 33 = .ok (.iconst 1, 1) := by decide +kernel
theorem dX9_weighRest_34 : decode cX9_weighRest 34 = .ok (.iload 5, 2) := by decide +kernel
theorem dX9_weighRest_36 : decode cX9_weighRest 36 = .ok (.ishl, 1) := by decide +kernel
theorem dX9_weighRest_37 : decode cX9_weighRest 37 = .ok (.ior, 1) := by decide +kernel
theorem dX9_weighRest_38 : decode cX9_weighRest 38 = .ok (.istore 7, 2) := by decide +kernel
theorem dX9_weighRest_40 : decode cX9_weighRest 40 = .ok (.aload_n 0, 1) := by decide +kernel
theorem dX9_weighRest_41 : decode cX9_weighRest 41 = .ok (.getfield 21, 3) := by decide +kernel
theorem dX9_weighRest_44 : decode cX9_weighRest 44 = .ok (.iload 7, 2) := by decide +kernel
theorem dX9_weighRest_46 : decode cX9_weighRest 46 = .ok (.iaload, 1) := by decide +kernel
theorem dX9_weighRest_47 : decode cX9_weighRest 47 = .ok (.aload_n 0, 1) := by decide +kernel
theorem dX9_weighRest_48 : decode cX9_weighRest 48 = .ok (.getfield 47, 3) := by decide +kernel
theorem dX9_weighRest_51 : decode cX9_weighRest 51 = .ok (.iload_n 1, 1) := by decide +kernel
theorem dX9_weighRest_52 : decode cX9_weighRest 52 = .ok (.iload 5, 2) := by decide +kernel
theorem dX9_weighRest_54 : decode cX9_weighRest 54 = .ok (.invokevirtual 72, 3) := by decide +kernel
theorem dX9_weighRest_57 : decode cX9_weighRest 57 = .ok (.iadd, 1) := by decide +kernel
theorem dX9_weighRest_58 : decode cX9_weighRest 58 = .ok (.istore 8, 2) := by decide +kernel
theorem dX9_weighRest_60 : decode cX9_weighRest 60 = .ok (.iload 8, 2) := by decide +kernel
theorem dX9_weighRest_62 : decode cX9_weighRest 62 = .ok (.iload_n 3, 1) := by decide +kernel
theorem dX9_weighRest_63 : decode cX9_weighRest 63 = .ok (.if_icmp .ge 18, 3) := by decide +kernel
theorem dX9_weighRest_66 : decode cX9_weighRest 66 = .ok (.iload 8, 2) := by decide +kernel
theorem dX9_weighRest_68 : decode cX9_weighRest 68 = .ok (.istore_n 3, 1) := by decide +kernel
theorem dX9_weighRest_69 : decode cX9_weighRest 69 = .ok (.aload_n 0, 1) := by decide +kernel
theorem dX9_weighRest_70 : decode cX9_weighRest 70 = .ok (.getfield 25, 3) := by decide +kernel
theorem dX9_weighRest_73 : decode cX9_weighRest 73 = .ok (.iload 7, 2) := by decide +kernel
theorem dX9_weighRest_75 : decode cX9_weighRest 75 = .ok (.iaload, 1) := by decide +kernel
theorem dX9_weighRest_76 : decode cX9_weighRest 76 = .ok (.istore 4, 2) := by decide +kernel
theorem dX9_weighRest_78 : decode cX9_weighRest 78 = .ok (.goto 21, 3) := by decide +kernel
theorem dX9_weighRest_81 : decode cX9_weighRest 81 = .ok (.iload 8, 2) := by decide +kernel
theorem dX9_weighRest_83 : decode cX9_weighRest 83 = .ok (.iload_n 3, 1) := by decide +kernel
theorem dX9_weighRest_84 : decode cX9_weighRest 84 = .ok (.if_icmp .ne 15, 3) := by decide +kernel
theorem dX9_weighRest_87 : decode cX9_weighRest 87 = .ok (.iload 4, 2) := by decide +kernel
theorem dX9_weighRest_89 : decode cX9_weighRest 89 = .ok (.aload_n 0, 1) := by decide +kernel
theorem dX9_weighRest_90 : decode cX9_weighRest 90 = .ok (.getfield 25, 3) := by decide +kernel
theorem dX9_weighRest_93 : decode cX9_weighRest 93 = .ok (.iload 7, 2) := by decide +kernel
theorem dX9_weighRest_95 : decode cX9_weighRest 95 = .ok (.iaload, 1) := by decide +kernel
theorem dX9_weighRest_96 : decode cX9_weighRest 96 = .ok (.iadd, 1) := by decide +kernel
theorem dX9_weighRest_97 : decode cX9_weighRest 97 = .ok (.istore 4, 2) := by decide +kernel
theorem dX9_weighRest_99 : decode cX9_weighRest 99 = .ok (.iinc 5 1, 3) := by decide +kernel
theorem dX9_weighRest_102 : decode cX9_weighRest 102 = .ok (.iload 6, 2) := by decide +kernel
theorem dX9_weighRest_104 : decode cX9_weighRest 104 = .ok (.iconst 1, 1) := by decide +kernel
theorem dX9_weighRest_105 : decode cX9_weighRest 105 = .ok (.ishr, 1) := by decide +kernel
theorem dX9_weighRest_106 : decode cX9_weighRest 106 = .ok (.istore 6, 2) := by decide +kernel
theorem dX9_weighRest_108 : decode cX9_weighRest 108 = .ok (.goto (-96), 3) := by decide +kernel
theorem dX9_weighRest_111 : decode cX9_weighRest 111 = .ok (.aload_n 0, 1) := by decide +kernel
theorem dX9_weighRest_112 : decode cX9_weighRest 112 = .ok (.getfield 21, 3) := by decide +kernel
theorem dX9_weighRest_115 : decode cX9_weighRest 115 = .ok (.iload_n 1, 1) := by decide +kernel
theorem dX9_weighRest_116 : decode cX9_weighRest 116 = .ok (.iload_n 3, 1) := by decide +kernel
theorem dX9_weighRest_117 : decode cX9_weighRest 117 = .ok (.iastore, 1) := by decide +kernel
theorem dX9_weighRest_118 : decode cX9_weighRest 118 = .ok (.aload_n 0, 1) := by decide +kernel
theorem dX9_weighRest_119 : decode cX9_weighRest 119 = .ok (.getfield 25, 3) := by decide +kernel
theorem dX9_weighRest_122 : decode cX9_weighRest 122 = .ok (.iload_n 1, 1) := by decide +kernel
theorem dX9_weighRest_123 : decode cX9_weighRest 123 = .ok (.iload 4, 2) := by decide +kernel
theorem dX9_weighRest_125 : decode cX9_weighRest 125 = .ok (.iastore, 1) := by decide +kernel
theorem dX9_weighRest_126 : decode cX9_weighRest 126 = .ok (.return_, 1) := by decide +kernel
set_option maxRecDepth 20000 in
set_option maxRecDepth 100000 in
theorem ggX9_choices_X8_all : GoodIn wsX9_choices wsX8_all := goodIn_r _ [7, 8, 33, 34, 35, 36, 37, 38, 39, 40, 41, 42] rfl (by decide +kernel)
set_option maxRecDepth 20000 in
theorem gX9_choices_X8_all : GoodIn wsX9_choices (wsV RX9 59 RX8 yX8_all wsX8_all) := goodIn_app (goodIn_of _ (by decide +kernel)) ggX9_choices_X8_all
set_option maxRecDepth 20000 in
set_option maxRecDepth 100000 in
theorem ggX9_choices_X4_pairsOf : GoodIn wsX9_choices wsX4_pairsOf := goodIn_r _ [13, 14, 15, 43, 44, 45, 46, 47, 48, 49, 50] rfl (by decide +kernel)
set_option maxRecDepth 20000 in
theorem gX9_choices_X4_pairsOf : GoodIn wsX9_choices (wsV RX9 76 RX4 yX4_pairsOf wsX4_pairsOf) := goodIn_app (goodIn_of _ (by decide +kernel)) ggX9_choices_X4_pairsOf
set_option maxRecDepth 20000 in
set_option maxRecDepth 100000 in
theorem ggX9_choices_X4_mustBeBelow : GoodIn wsX9_choices wsX4_mustBeBelow := goodIn_r _ [19, 20, 21, 43, 44, 45, 46, 47, 48, 49, 50] rfl (by decide +kernel)
set_option maxRecDepth 20000 in
theorem gX9_choices_X4_mustBeBelow : GoodIn wsX9_choices (wsV RX9 79 RX4 yX4_mustBeBelow wsX4_mustBeBelow) := goodIn_app (goodIn_of _ (by decide +kernel)) ggX9_choices_X4_mustBeBelow
theorem dX9_choices_0 : decode cX9_choices 0 = .ok (.aload_n 0, 1) := by decide +kernel
theorem dX9_choices_1 : decode cX9_choices 1 = .ok (.getfield 38, 3) := by decide +kernel
theorem dX9_choices_4 : decode cX9_choices 4 = .ok (.invokevirtual 59, 3) := by decide +kernel
theorem dX9_choices_7 : decode cX9_choices 7 = .ok (.iload_n 1, 1) := by decide +kernel
theorem dX9_choices_8 : decode cX9_choices 8 = .ok (.iconst (-1), 1) := by decide +kernel
theorem dX9_choices_9 : decode cX9_choices 9 = .ok (.ixor, 1) := by decide +kernel
theorem dX9_choices_10 : decode cX9_choices 10 = .ok (.iand, 1) := by decide +kernel
theorem dX9_choices_11 : decode cX9_choices 11 = .ok (.istore_n 2, 1) := by decide +kernel
theorem dX9_choices_12 : decode cX9_choices 12 = .ok (.aload_n 0, 1) := by decide +kernel
theorem dX9_choices_13 : decode cX9_choices 13 = .ok (.getfield 47, 3) := by decide +kernel
theorem dX9_choices_16 : decode cX9_choices 16 = .ok (.iload_n 1, 1) := by decide +kernel
theorem dX9_choices_17 : decode cX9_choices 17 = .ok (.invokevirtual 76, 3) := by decide +kernel
theorem dX9_choices_20 : decode cX9_choices 20 = .ok (.iload_n 2, 1) := by decide +kernel
theorem dX9_choices_21 : decode cX9_choices 21 = .ok (.iand, 1) := by decide +kernel
theorem dX9_choices_22 : decode cX9_choices 22 = .ok (.istore_n 3, 1) := by decide +kernel
theorem dX9_choices_23 : decode cX9_choices 23 = .ok (.iload_n 3, 1) := by decide +kernel
theorem dX9_choices_24 : decode cX9_choices 24 = .ok (.iload_n 3, 1) := by decide +kernel
theorem dX9_choices_25 : decode cX9_choices 25 = .ok (.iconst 1, 1) := by decide +kernel
theorem dX9_choices_26 : decode cX9_choices 26 = .ok (.isub, 1) := by decide +kernel
theorem dX9_choices_27 : decode cX9_choices 27 = .ok (.iand, 1) := by decide +kernel
theorem dX9_choices_28 : decode cX9_choices 28 = .ok (.ifCond .eq 5, 3) := by decide +kernel
theorem dX9_choices_31 : decode cX9_choices 31 = .ok (.iconst 0, 1) := by decide +kernel
theorem dX9_choices_32 : decode cX9_choices 32 = .ok (.ireturn, 1) := by decide +kernel
theorem dX9_choices_33 : decode cX9_choices 33 = .ok (.iload_n 3, 1) := by decide +kernel
theorem dX9_choices_34 : decode cX9_choices 34 = .ok (.ifCond .ne 7, 3) := by decide +kernel
theorem dX9_choices_37 : decode cX9_choices 37 = .ok (.iload_n 2, 1) := by decide +kernel
theorem dX9_choices_38 : decode cX9_choices 38 = .ok (.goto 4, 3) := by decide +kernel
theorem dX9_choices_41 : decode cX9_choices 41 = .ok (.iload_n 3, 1) := by decide +kernel
theorem dX9_choices_42 : decode cX9_choices 42 = .ok (.aload_n 0, 1) := by decide +kernel
theorem dX9_choices_43 : decode cX9_choices 43 = .ok (.getfield 47, 3) := by decide +kernel
theorem dX9_choices_46 : decode cX9_choices 46 = .ok (.iload_n 2, 1) := by decide +kernel
theorem dX9_choices_47 : decode cX9_choices 47 = .ok (.invokevirtual 79, 3) := by decide +kernel
theorem dX9_choices_50 : decode cX9_choices 50 = .ok (.iconst (-1), 1) := by decide +kernel
theorem dX9_choices_51 : decode cX9_choices 51 = .ok (.ixor, 1) := by decide +kernel
theorem dX9_choices_52 : decode cX9_choices 52 = .ok (.iand, 1) := by decide +kernel
theorem dX9_choices_53 : decode cX9_choices 53 = .ok (.ireturn, 1) := by decide +kernel
theorem dX9_hasLawful_0 : decode cX9_hasLawful 0 = .ok (.aload_n 0, 1) := by decide +kernel
theorem dX9_hasLawful_1 : decode cX9_hasLawful 1 = .ok (.getfield 21, 3) := by decide +kernel
theorem dX9_hasLawful_4 : decode cX9_hasLawful 4 = .ok (.iconst 0, 1) := by decide +kernel
theorem dX9_hasLawful_5 : decode cX9_hasLawful 5 = .ok (.iaload, 1) := by decide +kernel
theorem dX9_hasLawful_6 : decode cX9_hasLawful 6 = .ok (.ldc 71, 2) := by decide +kernel
theorem dX9_hasLawful_8 : decode cX9_hasLawful 8 = .ok (.if_icmp .ge 7, 3) := by decide +kernel
theorem dX9_hasLawful_11 : decode cX9_hasLawful 11 = .ok (.iconst 1, 1) := by decide +kernel
theorem dX9_hasLawful_12 : decode cX9_hasLawful 12 = .ok (.goto 4, 3) := by decide +kernel
theorem dX9_hasLawful_15 : decode cX9_hasLawful 15 = .ok (.iconst 0, 1) := by decide +kernel
theorem dX9_hasLawful_16 : decode cX9_hasLawful 16 = .ok (.ireturn, 1) := by decide +kernel
theorem dX9_leastWeight_0 : decode cX9_leastWeight 0 = .ok (.aload_n 0, 1) := by decide +kernel
theorem dX9_leastWeight_1 : decode cX9_leastWeight 1 = .ok (.getfield 21, 3) := by decide +kernel
theorem dX9_leastWeight_4 : decode cX9_leastWeight 4 = .ok (.iconst 0, 1) := by decide +kernel
theorem dX9_leastWeight_5 : decode cX9_leastWeight 5 = .ok (.iaload, 1) := by decide +kernel
theorem dX9_leastWeight_6 : decode cX9_leastWeight 6 = .ok (.i2l, 1) := by decide +kernel
theorem dX9_leastWeight_7 : decode cX9_leastWeight 7 = .ok (.lreturn, 1) := by decide +kernel
theorem dX9_howMany_0 : decode cX9_howMany 0 = .ok (.aload_n 0, 1) := by decide +kernel
theorem dX9_howMany_1 : decode cX9_howMany 1 = .ok (.getfield 25, 3) := by decide +kernel
theorem dX9_howMany_4 : decode cX9_howMany 4 = .ok (.iconst 0, 1) := by decide +kernel
theorem dX9_howMany_5 : decode cX9_howMany 5 = .ok (.iaload, 1) := by decide +kernel
theorem dX9_howMany_6 : decode cX9_howMany 6 = .ok (.i2l, 1) := by decide +kernel
theorem dX9_howMany_7 : decode cX9_howMany 7 = .ok (.lreturn, 1) := by decide +kernel
set_option maxRecDepth 20000 in
set_option maxRecDepth 100000 in
theorem ggX9_bestChoices_X9_choices : GoodIn wsX9_bestChoices wsX9_choices := goodIn_r _ [9, 1, 4, 10, 11, 12, 13, 14, 15, 16, 17, 18, 19, 20, 21, 22, 23, 24, 25, 26, 27, 28, 38, 39, 40, 41, 42, 43, 44, 45, 46, 47, 48, 49, 50, 51, 52, 53, 54, 55, 56, 57, 58, 59, 60, 61, 62, 63, 64, 65, 66] rfl (by decide +kernel)
set_option maxRecDepth 20000 in
theorem gX9_bestChoices_X9_choices : GoodIn wsX9_bestChoices (wsV RX9 63 RX9 yX9_choices wsX9_choices) := goodIn_app (goodIn_of _ (by decide +kernel)) ggX9_bestChoices_X9_choices
set_option maxRecDepth 20000 in
set_option maxRecDepth 100000 in
theorem ggX9_bestChoices_X11_isIn : GoodIn wsX9_bestChoices wsX11_isIn := goodIn_r _ [31] rfl (by decide +kernel)
set_option maxRecDepth 20000 in
theorem gX9_bestChoices_X11_isIn_n85 : GoodIn wsX9_bestChoices (wsX11_isIn) := ggX9_bestChoices_X11_isIn
set_option maxRecDepth 20000 in
set_option maxRecDepth 100000 in
theorem ggX9_bestChoices_X4_costBelow : GoodIn wsX9_bestChoices wsX4_costBelow := goodIn_r _ [35, 36, 37, 59, 60, 61, 62, 63, 64, 65, 66] rfl (by decide +kernel)
set_option maxRecDepth 20000 in
theorem gX9_bestChoices_X4_costBelow : GoodIn wsX9_bestChoices (wsV RX9 72 RX4 yX4_costBelow wsX4_costBelow) := goodIn_app (goodIn_of _ (by decide +kernel)) ggX9_bestChoices_X4_costBelow
theorem dX9_bestChoices_0 : decode cX9_bestChoices 0 = .ok (.aload_n 0, 1) := by decide +kernel
theorem dX9_bestChoices_1 : decode cX9_bestChoices 1 = .ok (.iload_n 1, 1) := by decide +kernel
theorem dX9_bestChoices_2 : decode cX9_bestChoices 2 = .ok (.invokevirtual 63, 3) := by decide +kernel
theorem dX9_bestChoices_5 : decode cX9_bestChoices 5 = .ok (.istore_n 2, 1) := by decide +kernel
theorem dX9_bestChoices_6 : decode cX9_bestChoices 6 = .ok (.iconst 0, 1) := by decide +kernel
theorem dX9_bestChoices_7 : decode cX9_bestChoices 7 = .ok (.istore_n 3, 1) := by decide +kernel
theorem dX9_bestChoices_8 : decode cX9_bestChoices 8 = .ok (.iconst 0, 1) := by decide +kernel
theorem dX9_bestChoices_9 : decode cX9_bestChoices 9 = .ok (.istore 4, 2) := by decide +kernel
theorem dX9_bestChoices_11 : decode cX9_bestChoices 11 = .ok (.iload 4, 2) := by decide +kernel
theorem dX9_bestChoices_13 : decode cX9_bestChoices 13 = .ok (.aload_n 0, 1) := by decide +kernel
theorem dX9_bestChoices_14 : decode cX9_bestChoices 14 = .ok (.getfield 38, 3) := by decide +kernel
theorem dX9_bestChoices_17 : decode cX9_bestChoices 17 = .ok (.getfield 82, 3) := by decide +kernel
theorem dX9_bestChoices_20 : decode cX9_bestChoices 20 = .ok (.if_icmp .ge 63, 3) := by decide +kernel
theorem dX9_bestChoices_23 : decode cX9_bestChoices 23 = .ok (.iload_n 2, 1) := by decide +kernel
theorem dX9_bestChoices_24 : decode cX9_bestChoices 24 = .ok (.iload 4, 2) := by decide +kernel
theorem dX9_bestChoices_26 : decode cX9_bestChoices 26 = .ok (.ishr, 1) := by decide +kernel
theorem dX9_bestChoices_27 : decode cX9_bestChoices 27 = .ok (.ifCond .eq 56, 3) := by decide +kernel
theorem dX9_bestChoices_30 : decode cX9_bestChoices 30 = .ok (.iload_n 2, 1) := by decide +kernel
theorem dX9_bestChoices_31 : decode cX9_bestChoices 31 = .ok (.iload 4, 2) := by decide +kernel
theorem dX9_bestChoices_33 : decode cX9_bestChoices 33 = .ok (.invokestatic 85, 3) := by decide +kernel
theorem dX9_bestChoices_36 : decode cX9_bestChoices 36 = .ok (.ifCond .eq 41, 3) := by decide +kernel
theorem dX9_bestChoices_39 : decode cX9_bestChoices 39 = .ok (.aload_n 0, 1) := by decide +kernel
theorem dX9_bestChoices_40 : decode cX9_bestChoices 40 = .ok (.getfield 21, 3) := by decide +kernel
theorem dX9_bestChoices_43 : decode cX9_bestChoices 43 = .ok (.iload_n 1, 1) := by decide +kernel
theorem dX9_bestChoices_44 : decode cX9_bestChoices 44 = .ok (.iaload, 1) := by decide +kernel
theorem dX9_bestChoices_45 : decode cX9_bestChoices 45 = .ok (.aload_n 0, 1) := by decide +kernel
theorem dX9_bestChoices_46 : decode cX9_bestChoices 46 = .ok (.getfield 21, 3) := by decide +kernel
theorem dX9_bestChoices_49 : decode cX9_bestChoices 49 = .ok (.iload_n 1, 1) := by decide +kernel
theorem dX9_bestChoices_50 : decode cX9_bestChoices 50 = .ok (.iconst 1, 1) := by decide +kernel
theorem dX9_bestChoices_51 : decode cX9_bestChoices 51 = .ok (.iload 4, 2) := by decide +kernel
theorem dX9_bestChoices_53 : decode cX9_bestChoices 53 = .ok (.ishl, 1) := by decide +kernel
theorem dX9_bestChoices_54 : decode cX9_bestChoices 54 = .ok (.ior, 1) := by decide +kernel
theorem dX9_bestChoices_55 : decode cX9_bestChoices 55 = .ok (.iaload, 1) := by decide +kernel
theorem dX9_bestChoices_56 : decode cX9_bestChoices 56 = .ok (.aload_n 0, 1) := by decide +kernel
theorem dX9_bestChoices_57 : decode cX9_bestChoices 57 = .ok (.getfield 47, 3) := by decide +kernel
theorem dX9_bestChoices_60 : decode cX9_bestChoices 60 = .ok (.iload_n 1, 1) := by decide +kernel
theorem dX9_bestChoices_61 : decode cX9_bestChoices 61 = .ok (.iload 4, 2) := by decide +kernel
theorem dX9_bestChoices_63 : decode cX9_bestChoices 63 = .ok (.invokevirtual 72, 3) := by decide +kernel
theorem dX9_bestChoices_66 : decode cX9_bestChoices 66 = .ok (.iadd, 1) := by decide +kernel
theorem dX9_bestChoices_67 : decode cX9_bestChoices 67 = .ok (.if_icmp .ne 10, 3) := by decide +kernel
theorem dX9_bestChoices_70 : decode cX9_bestChoices 70 = .ok (.iload_n 3, 1) := by decide +kernel
theorem dX9_bestChoices_71 : decode cX9_bestChoices 71 = .ok (.iconst 1, 1) := by decide +kernel
theorem dX9_bestChoices_72 : decode cX9_bestChoices 72 = .ok (.iload 4, 2) := by decide +kernel
theorem dX9_bestChoices_74 : decode cX9_bestChoices 74 = .ok (.ishl, 1) := by decide +kernel
theorem dX9_bestChoices_75 : decode cX9_bestChoices 75 = .ok (.ior, 1) := by decide +kernel
theorem dX9_bestChoices_76 : decode cX9_bestChoices 76 = .ok (.istore_n 3, 1) := by decide +kernel
theorem dX9_bestChoices_77 : decode cX9_bestChoices 77 = .ok (.iinc 4 1, 3) := by decide +kernel
theorem dX9_bestChoices_80 : decode cX9_bestChoices 80 = .ok (.goto (-69), 3) := by decide +kernel
theorem dX9_bestChoices_83 : decode cX9_bestChoices 83 = .ok (.iload_n 3, 1) := by decide +kernel
theorem dX9_bestChoices_84 : decode cX9_bestChoices 84 = .ok (.ireturn, 1) := by decide +kernel
set_option maxRecDepth 20000 in
set_option maxRecDepth 100000 in
theorem ggX9_bringInHand_X9_bestChoices : GoodIn wsX9_bringInHand wsX9_bestChoices := goodIn_r _ [10, 2, 3, 11, 12, 13, 14, 15, 9, 16, 17, 18, 19, 20, 21, 22, 23, 24, 25, 26, 27, 28, 29, 30, 31, 32, 33, 34, 35, 36, 37, 38, 39, 40, 41, 42, 43, 44, 54, 55, 56, 57, 58, 59, 60, 61, 62, 63, 64, 65, 66, 67, 68, 69, 70, 71, 72, 73, 74, 75, 76, 77, 78, 79, 80, 81, 82] rfl (by decide +kernel)
set_option maxRecDepth 20000 in
theorem gX9_bringInHand_X9_bestChoices : GoodIn wsX9_bringInHand (wsV RX9 92 RX9 yX9_bestChoices wsX9_bestChoices) := goodIn_app (goodIn_of _ (by decide +kernel)) ggX9_bringInHand_X9_bestChoices
set_option maxRecDepth 20000 in
set_option maxRecDepth 100000 in
theorem ggX9_bringInHand_X11_isIn : GoodIn wsX9_bringInHand wsX11_isIn := goodIn_r _ [38] rfl (by decide +kernel)
set_option maxRecDepth 20000 in
theorem gX9_bringInHand_X11_isIn_n85 : GoodIn wsX9_bringInHand (wsX11_isIn) := ggX9_bringInHand_X11_isIn
set_option maxRecDepth 20000 in
set_option maxRecDepth 100000 in
theorem ggX9_bringInHand_X5_append : GoodIn wsX9_bringInHand wsX5_append := goodIn_r _ [49, 50, 51, 52, 53] rfl (by decide +kernel)
set_option maxRecDepth 20000 in
theorem gX9_bringInHand_X5_append : GoodIn wsX9_bringInHand (wsV RX9 98 RX5 yX5_append wsX5_append) := goodIn_app (goodIn_of _ (by decide +kernel)) ggX9_bringInHand_X5_append
theorem dX9_bringInHand_0 : decode cX9_bringInHand 0 = .ok (.lload_n 1, 1) := by decide +kernel
theorem dX9_bringInHand_1 : decode cX9_bringInHand 1 = .ok (.lstore 4, 2) := by decide +kernel
theorem dX9_bringInHand_3 : decode cX9_bringInHand 3 = .ok (.iconst 0, 1) := by decide +kernel
theorem dX9_bringInHand_4 : decode cX9_bringInHand 4 = .ok (.istore 6, 2) := by decide +kernel
theorem dX9_bringInHand_6 : decode cX9_bringInHand 6 = .ok (.aload_n 3, 1) := by decide +kernel
theorem dX9_bringInHand_7 : decode cX9_bringInHand 7 = .ok (.iconst 0, 1) := by decide +kernel
theorem dX9_bringInHand_8 : decode cX9_bringInHand 8 = .ok (.putfield 89, 3) := by decide +kernel
theorem dX9_bringInHand_11 : decode cX9_bringInHand 11 = .ok (.iconst 0, 1) := by decide +kernel
theorem dX9_bringInHand_12 : decode cX9_bringInHand 12 = .ok (.istore 7, 2) := by decide +kernel
theorem dX9_bringInHand_14 : decode cX9_bringInHand 14 = .ok (.iload 7, 2) := by decide +kernel
theorem dX9_bringInHand_16 : decode cX9_bringInHand 16 = .ok (.aload_n 0, 1) := by decide +kernel
theorem dX9_bringInHand_17 : decode cX9_bringInHand 17 = .ok (.getfield 38, 3) := by decide +kernel
theorem dX9_bringInHand_20 : decode cX9_bringInHand 20 = .ok (.getfield 82, 3) := by decide +kernel
theorem dX9_bringInHand_23 : decode cX9_bringInHand 23 = .ok (.if_icmp .ge 125, 3) := by decide +kernel
theorem dX9_bringInHand_26 : decode cX9_bringInHand 26 = .ok (.aload_n 0, 1) := by decide +kernel
theorem dX9_bringInHand_27 : decode cX9_bringInHand 27 = .ok (.iload 6, 2) := by decide +kernel
theorem dX9_bringInHand_29 : decode cX9_bringInHand 29 = .ok (.invokevirtual 92, 3) := by decide +kernel
theorem dX9_bringInHand_32 : decode cX9_bringInHand 32 = .ok (.istore 8, 2) := by decide +kernel
theorem dX9_bringInHand_34 : decode cX9_bringInHand 34 = .ok (.iconst (-1), 1) := by decide +kernel
theorem dX9_bringInHand_35 : decode cX9_bringInHand 35 = .ok (.istore 9, 2) := by decide +kernel
theorem dX9_bringInHand_37 : decode cX9_bringInHand 37 = .ok (.iconst 0, 1) := by decide +kernel
theorem dX9_bringInHand_38 : decode cX9_bringInHand 38 = .ok (.istore 10, 2) := by decide +kernel
theorem dX9_bringInHand_40 : decode cX9_bringInHand 40 = .ok (.iload 10, 2) := by decide +kernel
theorem dX9_bringInHand_42 : decode cX9_bringInHand 42 = .ok (.aload_n 0, 1) := by decide +kernel
theorem dX9_bringInHand_43 : decode cX9_bringInHand 43 = .ok (.getfield 38, 3) := by decide +kernel
theorem dX9_bringInHand_46 : decode cX9_bringInHand 46 = .ok (.getfield 82, 3) := by decide +kernel
theorem dX9_bringInHand_49 : decode cX9_bringInHand 49 = .ok (.if_icmp .ge 63, 3) := by decide +kernel
theorem dX9_bringInHand_52 : decode cX9_bringInHand 52 = .ok (.iload 9, 2) := by decide +kernel
theorem dX9_bringInHand_54 : decode cX9_bringInHand 54 = .ok (.iconst (-1), 1) := by decide +kernel
theorem dX9_bringInHand_55 : decode cX9_bringInHand 55 = .ok (.if_icmp .ne 57, 3) := by decide +kernel
theorem dX9_bringInHand_58 : decode cX9_bringInHand 58 = .ok (.iload 8, 2) := by decide +kernel
theorem dX9_bringInHand_60 : decode cX9_bringInHand 60 = .ok (.iload 10, 2) := by decide +kernel
theorem dX9_bringInHand_62 : decode cX9_bringInHand 62 = .ok (.invokestatic 85, 3) := by decide +kernel
theorem dX9_bringInHand_65 : decode cX9_bringInHand 65 = .ok (.ifCond .eq 41, 3) := by decide +kernel
theorem dX9_bringInHand_68 : decode cX9_bringInHand 68 = .ok (.aload_n 0, 1) := by decide +kernel
theorem dX9_bringInHand_69 : decode cX9_bringInHand 69 = .ok (.getfield 25, 3) := by decide +kernel
theorem dX9_bringInHand_72 : decode cX9_bringInHand 72 = .ok (.iload 6, 2) := by decide +kernel
theorem dX9_bringInHand_74 : decode cX9_bringInHand 74 = .ok (.iconst 1, 1) := by decide +kernel
theorem dX9_bringInHand_75 : decode cX9_bringInHand 75 = .ok (.iload 10, 2) := by decide +kernel
theorem dX9_bringInHand_77 : decode cX9_bringInHand 77 = .ok (.ishl, 1) := by decide +kernel
theorem dX9_bringInHand_78 : decode cX9_bringInHand 78 = .ok (.ior, 1) := by decide +kernel
theorem dX9_bringInHand_79 : decode cX9_bringInHand 79 = .ok (.iaload, 1) := by decide +kernel
theorem dX9_bringInHand_80 : decode cX9_bringInHand 80 = .ok (.istore 11, 2) := by decide +kernel
theorem dX9_bringInHand_82 : decode cX9_bringInHand 82 = .ok (.lload 4, 2) := by decide +kernel
theorem dX9_bringInHand_84 : decode cX9_bringInHand 84 = .ok (.iload 11, 2) := by decide +kernel
theorem dX9_bringInHand_86 : decode cX9_bringInHand 86 = .ok (.i2l, 1) := by decide +kernel
theorem dX9_bringInHand_87 : decode cX9_bringInHand 87 = .ok (.lcmp, 1) := by decide +kernel
theorem dX9_bringInHand_88 : decode cX9_bringInHand 88 = .ok (.ifCond .ge 10, 3) := by decide +kernel
theorem dX9_bringInHand_91 : decode cX9_bringInHand 91 = .ok (.iload 10, 2) := by decide +kernel
theorem dX9_bringInHand_93 : decode cX9_bringInHand 93 = .ok (.istore 9, 2) := by decide +kernel
theorem dX9_bringInHand_95 : decode cX9_bringInHand 95 = .ok (.goto 11, 3) := by decide +kernel
theorem dX9_bringInHand_98 : decode cX9_bringInHand 98 = .ok (.lload 4, 2) := by decide +kernel
theorem dX9_bringInHand_100 : decode cX9_bringInHand 100 = .ok (.iload 11, 2) := by decide +kernel
theorem dX9_bringInHand_102 : decode cX9_bringInHand 102 = .ok (.i2l, 1) := by decide +kernel
theorem dX9_bringInHand_103 : decode cX9_bringInHand 103 = .ok (.lsub, 1) := by decide +kernel
theorem dX9_bringInHand_104 : decode cX9_bringInHand 104 = .ok (.lstore 4, 2) := by decide +kernel
theorem dX9_bringInHand_106 : decode cX9_bringInHand 106 = .ok (.iinc 10 1, 3) := by decide +kernel
theorem dX9_bringInHand_109 : decode cX9_bringInHand 109 = .ok (.goto (-69), 3) := by decide +kernel
theorem dX9_bringInHand_112 : decode cX9_bringInHand 112 = .ok (.iload 9, 2) := by decide +kernel
theorem dX9_bringInHand_114 : decode cX9_bringInHand 114 = .ok (.iconst (-1), 1) := by decide +kernel
theorem dX9_bringInHand_115 : decode cX9_bringInHand 115 = .ok (.if_icmp .ne 4, 3) := by decide +kernel
theorem dX9_bringInHand_118 : decode cX9_bringInHand 118 = .ok (.return_, 1) := by decide +kernel
theorem dX9_bringInHand_119 : decode cX9_bringInHand 119 = .ok (.aload_n 3, 1) := by decide +kernel
theorem dX9_bringInHand_120 : decode cX9_bringInHand 120 = .ok (.aload_n 0, 1) := by decide +kernel
theorem dX9_bringInHand_121 : decode cX9_bringInHand 121 = .ok (.getfield 38, 3) := by decide +kernel
theorem dX9_bringInHand_124 : decode cX9_bringInHand 124 = .ok (.getfield 95, 3) := by decide +kernel
theorem dX9_bringInHand_127 : decode cX9_bringInHand 127 = .ok (.iload 9, 2) := by decide +kernel
theorem dX9_bringInHand_129 : decode cX9_bringInHand 129 = .ok (.iaload, 1) := by decide +kernel
theorem dX9_bringInHand_130 : decode cX9_bringInHand 130 = .ok (.invokevirtual 98, 3) := by decide +kernel
theorem dX9_bringInHand_133 : decode cX9_bringInHand 133 = .ok (.iload 6, 2) := by decide +kernel
theorem dX9_bringInHand_135 : decode cX9_bringInHand 135 = .ok (.iconst 1, 1) := by decide +kernel
theorem dX9_bringInHand_136 : decode cX9_bringInHand 136 = .ok (.iload 9, 2) := by decide +kernel
theorem dX9_bringInHand_138 : decode cX9_bringInHand 138 = .ok (.ishl, 1) := by decide +kernel
theorem dX9_bringInHand_139 : decode cX9_bringInHand 139 = .ok (.ior, 1) := by decide +kernel
theorem dX9_bringInHand_140 : decode cX9_bringInHand 140 = .ok (.istore 6, 2) := by decide +kernel
theorem dX9_bringInHand_142 : decode cX9_bringInHand 142 = .ok (.iinc 7 1, 3) := by decide +kernel
theorem dX9_bringInHand_145 : decode cX9_bringInHand 145 = .ok (.goto (-131), 3) := by decide +kernel
theorem dX9_bringInHand_148 : decode cX9_bringInHand 148 = .ok (.return_, 1) := by decide +kernel
set_option maxRecDepth 20000 in
set_option maxRecDepth 100000 in
theorem ggX9_numberOf_X9_hasLawful : GoodIn wsX9_numberOf wsX9_hasLawful := goodIn_r _ [9, 10, 11, 49, 50, 51, 52, 53, 54, 55, 56, 57, 58, 59] rfl (by decide +kernel)
set_option maxRecDepth 20000 in
theorem gX9_numberOf_X9_hasLawful : GoodIn wsX9_numberOf (wsV RX9 102 RX9 yX9_hasLawful wsX9_hasLawful) := goodIn_app (goodIn_of _ (by decide +kernel)) ggX9_numberOf_X9_hasLawful
set_option maxRecDepth 20000 in
set_option maxRecDepth 100000 in
theorem ggX9_numberOf_X9_bestChoices : GoodIn wsX9_numberOf wsX9_bestChoices := goodIn_r _ [15, 2, 3, 10, 16, 17, 18, 19, 8, 20, 21, 22, 23, 24, 25, 26, 27, 28, 29, 30, 31, 32, 33, 34, 35, 36, 37, 38, 39, 40, 41, 42, 43, 44, 45, 46, 47, 48, 49, 50, 51, 52, 53, 54, 55, 56, 57, 58, 59, 60, 61, 62, 63, 64, 65, 66, 67, 68, 69, 70, 71, 72, 73, 74, 75, 76, 77] rfl (by decide +kernel)
set_option maxRecDepth 20000 in
theorem gX9_numberOf_X9_bestChoices : GoodIn wsX9_numberOf (wsV RX9 92 RX9 yX9_bestChoices wsX9_bestChoices) := goodIn_app (goodIn_of _ (by decide +kernel)) ggX9_numberOf_X9_bestChoices
set_option maxRecDepth 20000 in
set_option maxRecDepth 100000 in
theorem ggX9_numberOf_X11_isIn : GoodIn wsX9_numberOf wsX11_isIn := goodIn_r _ [42] rfl (by decide +kernel)
set_option maxRecDepth 20000 in
theorem gX9_numberOf_X11_isIn_n85 : GoodIn wsX9_numberOf (wsX11_isIn) := ggX9_numberOf_X11_isIn
theorem dX9_numberOf_0 : decode cX9_numberOf 0 = .ok (.aload_n 0, 1) := by decide +kernel
theorem dX9_numberOf_1 : decode cX9_numberOf 1 = .ok (.invokevirtual 102, 3) := by decide +kernel
theorem dX9_numberOf_4 : decode cX9_numberOf 4 = .ok (.ifCond .ne 7, 3) := by decide +kernel
theorem dX9_numberOf_7 : decode cX9_numberOf 7 = .ok (.ldc2_w 106, 3) := by decide +kernel
theorem dX9_numberOf_10 : decode cX9_numberOf 10 = .ok (.lreturn, 1) := by decide +kernel
theorem dX9_numberOf_11 : decode cX9_numberOf 11 = .ok (.lconst 0, 1) := by decide +kernel
theorem dX9_numberOf_12 : decode cX9_numberOf 12 = .ok (.lstore_n 2, 1) := by decide +kernel
theorem dX9_numberOf_13 : decode cX9_numberOf 13 = .ok (.iconst 0, 1) := by decide +kernel
theorem dX9_numberOf_14 : decode cX9_numberOf 14 = .ok (.istore 4, 2) := by decide +kernel
theorem dX9_numberOf_16 : decode cX9_numberOf 16 = .ok (.iconst 0, 1) := by decide +kernel
theorem dX9_numberOf_17 : decode cX9_numberOf 17 = .ok (.istore 5, 2) := by decide +kernel
theorem dX9_numberOf_19 : decode cX9_numberOf 19 = .ok (.iload 5, 2) := by decide +kernel
theorem dX9_numberOf_21 : decode cX9_numberOf 21 = .ok (.aload_n 0, 1) := by decide +kernel
theorem dX9_numberOf_22 : decode cX9_numberOf 22 = .ok (.getfield 38, 3) := by decide +kernel
theorem dX9_numberOf_25 : decode cX9_numberOf 25 = .ok (.getfield 82, 3) := by decide +kernel
theorem dX9_numberOf_28 : decode cX9_numberOf 28 = .ok (.if_icmp .ge 88, 3) := by decide +kernel
theorem dX9_numberOf_31 : decode cX9_numberOf 31 = .ok (.aload_n 1, 1) := by decide +kernel
theorem dX9_numberOf_32 : decode cX9_numberOf 32 = .ok (.iload 5, 2) := by decide +kernel
theorem dX9_numberOf_34 : decode cX9_numberOf 34 = .ok (.iaload, 1) := by decide +kernel
theorem dX9_numberOf_35 : decode cX9_numberOf 35 = .ok (.istore 6, 2) := by decide +kernel
theorem dX9_numberOf_37 : decode cX9_numberOf 37 = .ok (.aload_n 0, 1) := by decide +kernel
theorem dX9_numberOf_38 : decode cX9_numberOf 38 = .ok (.iload 4, 2) := by decide +kernel
theorem dX9_numberOf_40 : decode cX9_numberOf 40 = .ok (.invokevirtual 92, 3) := by decide +kernel
theorem dX9_numberOf_43 : decode cX9_numberOf 43 = .ok (.istore 7, 2) := by decide +kernel
theorem dX9_numberOf_45 : decode cX9_numberOf 45 = .ok (.iload 7, 2) := by decide +kernel
theorem dX9_numberOf_47 : decode cX9_numberOf 47 = .ok (.iload 6, 2) := by decide +kernel
theorem dX9_numberOf_49 : decode cX9_numberOf 49 = .ok (.invokestatic 85, 3) := by decide +kernel
theorem dX9_numberOf_52 : decode cX9_numberOf 52 = .ok (.ifCond .ne 7, 3) := by decide +kernel
theorem dX9_numberOf_55 : decode cX9_numberOf 55 = .ok (.ldc2_w 106, 3) := by decide +kernel
theorem dX9_numberOf_58 : decode cX9_numberOf 58 = .ok (.lreturn, 1) := by decide +kernel
theorem dX9_numberOf_59 : decode cX9_numberOf 59 = .ok (.iconst 0, 1) := by decide +kernel
theorem dX9_numberOf_60 : decode cX9_numberOf 60 = .ok (.istore 8, 2) := by decide +kernel
theorem dX9_numberOf_62 : decode cX9_numberOf 62 = .ok (.iload 8, 2) := by decide +kernel
theorem dX9_numberOf_64 : decode cX9_numberOf 64 = .ok (.iload 6, 2) := by decide +kernel
theorem dX9_numberOf_66 : decode cX9_numberOf 66 = .ok (.if_icmp .ge 35, 3) := by decide +kernel
theorem dX9_numberOf_69 : decode cX9_numberOf 69 = .ok (.iload 7, 2) := by decide +kernel
theorem dX9_numberOf_71 : decode cX9_numberOf 71 = .ok (.iload 8, 2) := by decide +kernel
theorem dX9_numberOf_73 : decode cX9_numberOf 73 = .ok (.invokestatic 85, 3) := by decide +kernel
theorem dX9_numberOf_76 : decode cX9_numberOf 76 = .ok (.ifCond .eq 19, 3) := by decide +kernel
theorem dX9_numberOf_79 : decode cX9_numberOf 79 = .ok (.lload_n 2, 1) := by decide +kernel
theorem dX9_numberOf_80 : decode cX9_numberOf 80 = .ok (.aload_n 0, 1) := by decide +kernel
theorem dX9_numberOf_81 : decode cX9_numberOf 81 = .ok (.getfield 25, 3) := by decide +kernel
theorem dX9_numberOf_84 : decode cX9_numberOf 84 = .ok (.iload 4, 2) := by decide +kernel
theorem dX9_numberOf_86 : decode cX9_numberOf 86 = .ok (.iconst 1, 1) := by decide +kernel
theorem dX9_numberOf_87 : decode cX9_numberOf 87 = .ok (.iload 8, 2) := by decide +kernel
theorem dX9_numberOf_89 : decode cX9_numberOf 89 = .ok (.ishl, 1) := by decide +kernel
theorem dX9_numberOf_90 : decode cX9_numberOf 90 = .ok (.ior, 1) := by decide +kernel
theorem dX9_numberOf_91 : decode cX9_numberOf 91 = .ok (.iaload, 1) := by decide +kernel
theorem dX9_numberOf_92 : decode cX9_numberOf 92 = .ok (.i2l, 1) := by decide +kernel
theorem dX9_numberOf_93 : decode cX9_numberOf 93 = .ok (.ladd, 1) := by decide +kernel
theorem dX9_numberOf_94 : decode cX9_numberOf 94 = .ok (.lstore_n 2, 1) := by decide +kernel
theorem dX9_numberOf_95 : decode cX9_numberOf 95 = .ok (.iinc 8 1, 3) := by decide +kernel
theorem dX9_numberOf_98 : decode cX9_numberOf 98 = .ok (.goto (-36), 3) := by decide +kernel
theorem dX9_numberOf_101 : decode cX9_numberOf 101 = .ok (.iload 4, 2) := by decide +kernel
theorem dX9_numberOf_103 : decode cX9_numberOf 103 = .ok (.iconst 1, 1) := by decide +kernel
theorem dX9_numberOf_104 : decode cX9_numberOf 104 = .ok (.iload 6, 2) := by decide +kernel
theorem dX9_numberOf_106 : decode cX9_numberOf 106 = .ok (.ishl, 1) := by decide +kernel
theorem dX9_numberOf_107 : decode cX9_numberOf 107 = .ok (.ior, 1) := by decide +kernel
theorem dX9_numberOf_108 : decode cX9_numberOf 108 = .ok (.istore 4, 2) := by decide +kernel
theorem dX9_numberOf_110 : decode cX9_numberOf 110 = .ok (.iinc 5 1, 3) := by decide +kernel
theorem dX9_numberOf_113 : decode cX9_numberOf 113 = .ok (.goto (-94), 3) := by decide +kernel
theorem dX9_numberOf_116 : decode cX9_numberOf 116 = .ok (.lload_n 2, 1) := by decide +kernel
theorem dX9_numberOf_117 : decode cX9_numberOf 117 = .ok (.lreturn, 1) := by decide +kernel
set_option maxRecDepth 20000 in
set_option maxRecDepth 100000 in
theorem ggX9_agree_X8_all : GoodIn wsX9_agree wsX8_all := goodIn_r _ [12, 13, 65, 66, 67, 68, 69, 70, 71, 72, 73, 74] rfl (by decide +kernel)
set_option maxRecDepth 20000 in
theorem gX9_agree_X8_all : GoodIn wsX9_agree (wsV RX9 59 RX8 yX8_all wsX8_all) := goodIn_app (goodIn_of _ (by decide +kernel)) ggX9_agree_X8_all
set_option maxRecDepth 20000 in
set_option maxRecDepth 100000 in
theorem ggX9_agree_J7_fill_031fb : GoodIn wsX9_agree wsJ7_fill_031fb := goodIn_r _ [17] rfl (by decide +kernel)
set_option maxRecDepth 20000 in
theorem gX9_agree_J7_fill_031fb : GoodIn wsX9_agree (va_wsS RX9 108 yJ7_fill_031fb wsJ7_fill_031fb) := goodIn_app (goodIn_of _ (by decide +kernel)) ggX9_agree_J7_fill_031fb
set_option maxRecDepth 20000 in
set_option maxRecDepth 100000 in
theorem ggX9_agree_J7_fill_53178 : GoodIn wsX9_agree wsJ7_fill_53178 := goodIn_r _ [20] rfl (by decide +kernel)
set_option maxRecDepth 20000 in
theorem gX9_agree_J7_fill_53178 : GoodIn wsX9_agree (va_wsS RX9 114 yJ7_fill_53178 wsJ7_fill_53178) := goodIn_app (goodIn_of _ (by decide +kernel)) ggX9_agree_J7_fill_53178
set_option maxRecDepth 20000 in
set_option maxRecDepth 100000 in
theorem ggX9_agree_X9_bestChoices : GoodIn wsX9_agree wsX9_bestChoices := goodIn_r _ [25, 2, 7, 26, 27, 28, 29, 30, 24, 31, 8, 9, 10, 11, 12, 13, 32, 33, 34, 35, 36, 37, 38, 39, 40, 41, 42, 43, 44, 45, 46, 47, 48, 49, 50, 51, 52, 53, 54, 55, 56, 57, 58, 59, 60, 61, 62, 63, 64, 65, 66, 67, 68, 69, 70, 71, 72, 73, 74, 75, 76, 77, 78, 79, 80, 81, 82] rfl (by decide +kernel)
set_option maxRecDepth 20000 in
theorem gX9_agree_X9_bestChoices : GoodIn wsX9_agree (wsV RX9 92 RX9 yX9_bestChoices wsX9_bestChoices) := goodIn_app (goodIn_of _ (by decide +kernel)) ggX9_agree_X9_bestChoices
set_option maxRecDepth 20000 in
set_option maxRecDepth 100000 in
theorem ggX9_agree_X11_isIn : GoodIn wsX9_agree wsX11_isIn := goodIn_r _ [47] rfl (by decide +kernel)
set_option maxRecDepth 20000 in
theorem gX9_agree_X11_isIn_n85 : GoodIn wsX9_agree (wsX11_isIn) := ggX9_agree_X11_isIn
theorem dX9_agree_0 : decode cX9_agree 0 = .ok (.aload_n 0, 1) := by decide +kernel
theorem dX9_agree_1 : decode cX9_agree 1 = .ok (.getfield 15, 3) := by decide +kernel
theorem dX9_agree_4 : decode cX9_agree 4 = .ok (.aload_n 0, 1) := by decide +kernel
theorem dX9_agree_5 : decode cX9_agree 5 = .ok (.getfield 38, 3) := by decide +kernel
theorem dX9_agree_8 : decode cX9_agree 8 = .ok (.getfield 54, 3) := by decide +kernel
theorem dX9_agree_11 : decode cX9_agree 11 = .ok (.if_icmp .ne 4, 3) := by decide +kernel
theorem dX9_agree_14 : decode cX9_agree 14 = .ok (.return_, 1) := by decide +kernel
theorem dX9_agree_15 : decode cX9_agree 15 = .ok (.aload_n 0, 1) := by decide +kernel
theorem dX9_agree_16 : decode cX9_agree 16 = .ok (.aload_n 0, 1) := by decide +kernel
theorem dX9_agree_17 : decode cX9_agree 17 = .ok (.getfield 38, 3) := by decide +kernel
theorem dX9_agree_20 : decode cX9_agree 20 = .ok (.getfield 54, 3) := by decide +kernel
theorem dX9_agree_23 : decode cX9_agree 23 = .ok (.putfield 15, 3) := by decide +kernel
theorem dX9_agree_26 : decode cX9_agree 26 = .ok (.aload_n 0, 1) := by decide +kernel
theorem dX9_agree_27 : decode cX9_agree 27 = .ok (.getfield 38, 3) := by decide +kernel
theorem dX9_agree_30 : decode cX9_agree 30 = .ok (.invokevirtual 59, 3) := by decide +kernel
theorem dX9_agree_33 : decode cX9_agree 33 = .ok (.istore_n 1, 1) := by decide +kernel
theorem dX9_agree_34 : decode cX9_agree 34 = .ok (.aload_n 0, 1) := by decide +kernel
theorem dX9_agree_35 : decode cX9_agree 35 = .ok (.getfield 31, 3) := by decide +kernel
theorem dX9_agree_38 : decode cX9_agree 38 = .ok (.arraylength, 1) := by decide +kernel
theorem dX9_agree_39 : decode cX9_agree 39 = .ok (.iload_n 1, 1) := by decide +kernel
theorem dX9_agree_40 : decode cX9_agree 40 = .ok (.if_icmp .gt 12, 3) := by decide +kernel
theorem dX9_agree_43 : decode cX9_agree 43 = .ok (.aload_n 0, 1) := by decide +kernel
theorem dX9_agree_44 : decode cX9_agree 44 = .ok (.iload_n 1, 1) := by decide +kernel
theorem dX9_agree_45 : decode cX9_agree 45 = .ok (.iconst 1, 1) := by decide +kernel
theorem dX9_agree_46 : decode cX9_agree 46 = .ok (.iadd, 1) := by decide +kernel
theorem dX9_agree_47 : decode cX9_agree 47 = .ok (.newarray .byte, 2) := by decide +kernel
theorem dX9_agree_49 : decode cX9_agree 49 = .ok (.putfield 31, 3) := by decide +kernel
theorem dX9_agree_52 : decode cX9_agree 52 = .ok (.aload_n 0, 1) := by decide +kernel
theorem dX9_agree_53 : decode cX9_agree 53 = .ok (.getfield 31, 3) := by decide +kernel
theorem dX9_agree_56 : decode cX9_agree 56 = .ok (.iconst 0, 1) := by decide +kernel
theorem dX9_agree_57 : decode cX9_agree 57 = .ok (.invokestatic 108, 3) := by decide +kernel
theorem dX9_agree_60 : decode cX9_agree 60 = .ok (.aload_n 0, 1) := by decide +kernel
theorem dX9_agree_61 : decode cX9_agree 61 = .ok (.getfield 35, 3) := by decide +kernel
theorem dX9_agree_64 : decode cX9_agree 64 = .ok (.iconst 0, 1) := by decide +kernel
theorem dX9_agree_65 : decode cX9_agree 65 = .ok (.invokestatic 114, 3) := by decide +kernel
theorem dX9_agree_68 : decode cX9_agree 68 = .ok (.aload_n 0, 1) := by decide +kernel
theorem dX9_agree_69 : decode cX9_agree 69 = .ok (.getfield 31, 3) := by decide +kernel
theorem dX9_agree_72 : decode cX9_agree 72 = .ok (.iconst 0, 1) := by decide +kernel
theorem dX9_agree_73 : decode cX9_agree 73 = .ok (.iconst 1, 1) := by decide +kernel
theorem dX9_agree_74 : decode cX9_agree 74 = .ok (.bastore, 1) := by decide +kernel
theorem dX9_agree_75 : decode cX9_agree 75 = .ok (.iconst 0, 1) := by decide +kernel
theorem dX9_agree_76 : decode cX9_agree 76 = .ok (.istore_n 2, 1) := by decide +kernel
theorem dX9_agree_77 : decode cX9_agree 77 = .ok (.iload_n 2, 1) := by decide +kernel
theorem dX9_agree_78 : decode cX9_agree 78 = .ok (.iload_n 1, 1) := by decide +kernel
theorem dX9_agree_79 : decode cX9_agree 79 = .ok (.if_icmp .ge 98, 3) := by decide +kernel
theorem dX9_agree_82 : decode cX9_agree 82 = .ok (.aload_n 0, 1) := by decide +kernel
theorem dX9_agree_83 : decode cX9_agree 83 = .ok (.getfield 31, 3) := by decide +kernel
theorem dX9_agree_86 : decode cX9_agree 86 = .ok (.iload_n 2, 1) := by decide +kernel
theorem dX9_agree_87 : decode cX9_agree 87 = .ok (.baload, 1) := by decide +kernel
theorem dX9_agree_88 : decode cX9_agree 88 = .ok (.iconst 1, 1) := by decide +kernel
theorem dX9_agree_89 : decode cX9_agree 89 = .ok (.if_icmp .ne 11, 3) := by decide +kernel
theorem dX9_agree_92 : decode cX9_agree 92 = .ok (.aload_n 0, 1) := by decide +kernel
theorem dX9_agree_93 : decode cX9_agree 93 = .ok (.iload_n 2, 1) := by decide +kernel
theorem dX9_agree_94 : decode cX9_agree 94 = .ok (.invokevirtual 92, 3) := by decide +kernel
theorem dX9_agree_97 : decode cX9_agree 97 = .ok (.goto 4, 3) := by decide +kernel
theorem dX9_agree_100 : decode cX9_agree 100 = .ok (.iconst 0, 1) := by decide +kernel
theorem dX9_agree_101 : decode cX9_agree 101 = .ok (.istore_n 3, 1) := by decide +kernel
theorem dX9_agree_102 : decode cX9_agree 102 = .ok (.iconst 0, 1) := by decide +kernel
theorem dX9_agree_103 : decode cX9_agree 103 = .ok (.istore 4, 2) := by decide +kernel
theorem dX9_agree_105 : decode cX9_agree 105 = .ok (.iload 4, 2) := by decide +kernel
theorem dX9_agree_107 : decode cX9_agree 107 = .ok (.aload_n 0, 1) := by decide +kernel
theorem dX9_agree_108 : decode cX9_agree 108 = .ok (.getfield 38, 3) := by decide +kernel
theorem dX9_agree_111 : decode cX9_agree 111 = .ok (.getfield 82, 3) := by decide +kernel
theorem dX9_agree_114 : decode cX9_agree 114 = .ok (.if_icmp .ge 57, 3) := by decide +kernel
theorem dX9_agree_117 : decode cX9_agree 117 = .ok (.iload_n 3, 1) := by decide +kernel
theorem dX9_agree_118 : decode cX9_agree 118 = .ok (.iload 4, 2) := by decide +kernel
theorem dX9_agree_120 : decode cX9_agree 120 = .ok (.ishr, 1) := by decide +kernel
theorem dX9_agree_121 : decode cX9_agree 121 = .ok (.ifCond .eq 50, 3) := by decide +kernel
theorem dX9_agree_124 : decode cX9_agree 124 = .ok (.iload_n 3, 1) := by decide +kernel
theorem dX9_agree_125 : decode cX9_agree 125 = .ok (.iload 4, 2) := by decide +kernel
theorem dX9_agree_127 : decode cX9_agree 127 = .ok (.invokestatic 85, 3) := by decide +kernel
theorem dX9_agree_130 : decode cX9_agree 130 = .ok (.ifCond .eq 35, 3) := by decide +kernel
theorem dX9_agree_133 : decode cX9_agree 133 = .ok (.iload_n 2, 1) := by decide +kernel
theorem dX9_agree_134 : decode cX9_agree 134 = .ok (.iconst 1, 1) := by decide +kernel
theorem dX9_agree_135 : decode cX9_agree 135 = .ok (.iload 4, 2) := by decide +kernel
theorem dX9_agree_137 : decode cX9_agree 137 = .ok (.ishl, 1) := by decide +kernel
theorem dX9_agree_138 : decode cX9_agree 138 = .ok (.ior, 1) := by decide +kernel
theorem dX9_agree_139 : decode cX9_agree 139 = .ok (.istore 5, 2) := by decide +kernel
theorem dX9_agree_141 : decode cX9_agree 141 = .ok (.aload_n 0, 1) := by decide +kernel
theorem dX9_agree_142 : decode cX9_agree 142 = .ok (.getfield 31, 3) := by decide +kernel
theorem dX9_agree_145 : decode cX9_agree 145 = .ok (.iload 5, 2) := by decide +kernel
theorem dX9_agree_147 : decode cX9_agree 147 = .ok (.iconst 1, 1) := by decide +kernel
theorem dX9_agree_148 : decode cX9_agree 148 = .ok (.bastore, 1) := by decide +kernel
theorem dX9_agree_149 : decode cX9_agree 149 = .ok (.aload_n 0, 1) := by decide +kernel
theorem dX9_agree_150 : decode cX9_agree 150 = .ok (.getfield 35, 3) := by decide +kernel
theorem dX9_agree_153 : decode cX9_agree 153 = .ok (.iload 4, 2) := by decide +kernel
theorem dX9_agree_155 : decode cX9_agree 155 = .ok (.dup2, 1) := by decide +kernel
theorem dX9_agree_156 : decode cX9_agree 156 = .ok (.iaload, 1) := by decide +kernel
theorem dX9_agree_157 : decode cX9_agree 157 = .ok (.iload_n 1, 1) := by decide +kernel
theorem dX9_agree_158 : decode cX9_agree 158 = .ok (.iload 5, 2) := by decide +kernel
theorem dX9_agree_160 : decode cX9_agree 160 = .ok (.iconst (-1), 1) := by decide +kernel
theorem dX9_agree_161 : decode cX9_agree 161 = .ok (.ixor, 1) := by decide +kernel
theorem dX9_agree_162 : decode cX9_agree 162 = .ok (.iand, 1) := by decide +kernel
theorem dX9_agree_163 : decode cX9_agree 163 = .ok (.ior, 1) := by decide +kernel
theorem dX9_agree_164 : decode cX9_agree 164 = .ok (.iastore, 1) := by decide +kernel
theorem dX9_agree_165 : decode cX9_agree 165 = .ok (.iinc 4 1, 3) := by decide +kernel
theorem dX9_agree_168 : decode cX9_agree 168 = .ok (.goto (-63), 3) := by decide +kernel
theorem dX9_agree_171 : decode cX9_agree 171 = .ok (.iinc 2 1, 3) := by decide +kernel
theorem dX9_agree_174 : decode cX9_agree 174 = .ok (.goto (-97), 3) := by decide +kernel
theorem dX9_agree_177 : decode cX9_agree 177 = .ok (.return_, 1) := by decide +kernel
set_option maxRecDepth 20000 in
set_option maxRecDepth 100000 in
theorem ggX9_mayStandAbove_X11_isIn : GoodIn wsX9_mayStandAbove wsX11_isIn := goodIn_r _ [4] rfl (by decide +kernel)
set_option maxRecDepth 20000 in
theorem gX9_mayStandAbove_X11_isIn_n85 : GoodIn wsX9_mayStandAbove (wsX11_isIn) := ggX9_mayStandAbove_X11_isIn
theorem dX9_mayStandAbove_0 : decode cX9_mayStandAbove 0 = .ok (.aload_n 0, 1) := by decide +kernel
theorem dX9_mayStandAbove_1 : decode cX9_mayStandAbove 1 = .ok (.getfield 35, 3) := by decide +kernel
theorem dX9_mayStandAbove_4 : decode cX9_mayStandAbove 4 = .ok (.iload_n 1, 1) := by decide +kernel
theorem dX9_mayStandAbove_5 : decode cX9_mayStandAbove 5 = .ok (.iaload, 1) := by decide +kernel
theorem dX9_mayStandAbove_6 : decode cX9_mayStandAbove 6 = .ok (.iload_n 2, 1) := by decide +kernel
theorem dX9_mayStandAbove_7 : decode cX9_mayStandAbove 7 = .ok (.invokestatic 85, 3) := by decide +kernel
theorem dX9_mayStandAbove_10 : decode cX9_mayStandAbove 10 = .ok (.ireturn, 1) := by decide +kernel
set_option maxRecDepth 20000 in
set_option maxRecDepth 100000 in
theorem ggX9_looseWeight_X4_prepare : GoodIn wsX9_looseWeight wsX4_prepare := goodIn_r _ [10, 11, 12, 13, 14, 15, 16, 17, 18, 19, 20, 21, 22, 23, 24, 25, 26, 27, 28, 29, 30, 31, 32, 33, 34, 35, 36, 37, 38, 39, 40, 41, 42, 43, 44, 45, 46, 47, 48, 49, 50, 51, 52, 53, 54, 55, 56, 57, 58, 59, 60, 61, 62, 63, 64, 65, 66, 67, 68, 69, 9, 70, 71, 72, 73, 74, 75, 76, 77, 115, 116, 117, 118, 119, 120, 121, 122, 105, 106, 107, 108, 109, 110, 111, 112, 113, 114, 123, 124, 125, 126, 127, 128, 129] rfl (by decide +kernel)
set_option maxRecDepth 20000 in
theorem gX9_looseWeight_X4_prepare : GoodIn wsX9_looseWeight (wsV RX9 51 RX4 yX4_prepare wsX4_prepare) := goodIn_app (goodIn_of _ (by decide +kernel)) ggX9_looseWeight_X4_prepare
set_option maxRecDepth 20000 in
set_option maxRecDepth 100000 in
theorem ggX9_looseWeight_X9_loosen : GoodIn wsX9_looseWeight wsX9_loosen := goodIn_r _ [82, 3, 83, 84, 85, 1, 5, 86, 87, 88, 26, 89, 31, 90, 91, 92, 9, 93, 21, 22, 94, 95, 96, 97, 98, 99, 100, 101, 102, 103, 104, 105, 106, 107, 108, 109, 110, 111, 112, 113, 114, 115, 116, 117, 118, 119, 120, 121, 122] rfl (by decide +kernel)
set_option maxRecDepth 20000 in
theorem gX9_looseWeight_X9_loosen : GoodIn wsX9_looseWeight (wsV RX9 117 RX9 yX9_loosen wsX9_loosen) := goodIn_app (goodIn_of _ (by decide +kernel)) ggX9_looseWeight_X9_loosen
theorem dX9_looseWeight_0 : decode cX9_looseWeight 0 = .ok (.aload_n 0, 1) := by decide +kernel
theorem dX9_looseWeight_1 : decode cX9_looseWeight 1 = .ok (.getfield 47, 3) := by decide +kernel
theorem dX9_looseWeight_4 : decode cX9_looseWeight 4 = .ok (.invokevirtual 51, 3) := by decide +kernel
theorem dX9_looseWeight_7 : decode cX9_looseWeight 7 = .ok (.aload_n 0, 1) := by decide +kernel
theorem dX9_looseWeight_8 : decode cX9_looseWeight 8 = .ok (.getfield 18, 3) := by decide +kernel
theorem dX9_looseWeight_11 : decode cX9_looseWeight 11 = .ok (.aload_n 0, 1) := by decide +kernel
theorem dX9_looseWeight_12 : decode cX9_looseWeight 12 = .ok (.getfield 38, 3) := by decide +kernel
theorem dX9_looseWeight_15 : decode cX9_looseWeight 15 = .ok (.getfield 54, 3) := by decide +kernel
theorem dX9_looseWeight_18 : decode cX9_looseWeight 18 = .ok (.if_icmp .eq 18, 3) := by decide +kernel
theorem dX9_looseWeight_21 : decode cX9_looseWeight 21 = .ok (.aload_n 0, 1) := by decide +kernel
theorem dX9_looseWeight_22 : decode cX9_looseWeight 22 = .ok (.aload_n 0, 1) := by decide +kernel
theorem dX9_looseWeight_23 : decode cX9_looseWeight 23 = .ok (.getfield 38, 3) := by decide +kernel
theorem dX9_looseWeight_26 : decode cX9_looseWeight 26 = .ok (.getfield 54, 3) := by decide +kernel
theorem dX9_looseWeight_29 : decode cX9_looseWeight 29 = .ok (.putfield 18, 3) := by decide +kernel
theorem dX9_looseWeight_32 : decode cX9_looseWeight 32 = .ok (.aload_n 0, 1) := by decide +kernel
theorem dX9_looseWeight_33 : decode cX9_looseWeight 33 = .ok (.invokevirtual 117, 3) := by decide +kernel
theorem dX9_looseWeight_36 : decode cX9_looseWeight 36 = .ok (.aload_n 0, 1) := by decide +kernel
theorem dX9_looseWeight_37 : decode cX9_looseWeight 37 = .ok (.getfield 120, 3) := by decide +kernel
theorem dX9_looseWeight_40 : decode cX9_looseWeight 40 = .ok (.i2l, 1) := by decide +kernel
theorem dX9_looseWeight_41 : decode cX9_looseWeight 41 = .ok (.lreturn, 1) := by decide +kernel
set_option maxRecDepth 20000 in
set_option maxRecDepth 100000 in
theorem ggX9_loosen_X8_all : GoodIn wsX9_loosen wsX8_all := goodIn_r _ [11, 12, 31, 32, 33, 34, 35, 36, 37, 38, 39, 40] rfl (by decide +kernel)
set_option maxRecDepth 20000 in
theorem gX9_loosen_X8_all : GoodIn wsX9_loosen (wsV RX9 59 RX8 yX8_all wsX8_all) := goodIn_app (goodIn_of _ (by decide +kernel)) ggX9_loosen_X8_all
set_option maxRecDepth 20000 in
set_option maxRecDepth 100000 in
theorem ggX9_loosen_X4_costBelow : GoodIn wsX9_loosen wsX4_costBelow := goodIn_r _ [17, 18, 19, 41, 42, 43, 44, 45, 46, 47, 48] rfl (by decide +kernel)
set_option maxRecDepth 20000 in
theorem gX9_loosen_X4_costBelow : GoodIn wsX9_loosen (wsV RX9 72 RX4 yX4_costBelow wsX4_costBelow) := goodIn_app (goodIn_of _ (by decide +kernel)) ggX9_loosen_X4_costBelow
theorem dX9_loosen_0 : decode cX9_loosen 0 = .ok (.aload_n 0, 1) := by decide +kernel
theorem dX9_loosen_1 : decode cX9_loosen 1 = .ok (.getfield 38, 3) := by decide +kernel
theorem dX9_loosen_4 : decode cX9_loosen 4 = .ok (.invokevirtual 59, 3) := by decide +kernel
theorem dX9_loosen_7 : decode cX9_loosen 7 = .ok (.istore_n 1, 1) := by decide +kernel
theorem dX9_loosen_8 : decode cX9_loosen 8 = .ok (.aload_n 0, 1) := by decide +kernel
theorem dX9_loosen_9 : decode cX9_loosen 9 = .ok (.getfield 28, 3) := by decide +kernel
theorem dX9_loosen_12 : decode cX9_loosen 12 = .ok (.arraylength, 1) := by decide +kernel
theorem dX9_loosen_13 : decode cX9_loosen 13 = .ok (.iload_n 1, 1) := by decide +kernel
theorem dX9_loosen_14 : decode cX9_loosen 14 = .ok (.if_icmp .gt 12, 3) := by decide +kernel
theorem dX9_loosen_17 : decode cX9_loosen 17 = .ok (.aload_n 0, 1) := by decide +kernel
theorem dX9_loosen_18 : decode cX9_loosen 18 = .ok (.iload_n 1, 1) := by decide +kernel
theorem dX9_loosen_19 : decode cX9_loosen 19 = .ok (.iconst 1, 1) := by decide +kernel
theorem dX9_loosen_20 : decode cX9_loosen 20 = .ok (.iadd, 1) := by decide +kernel
theorem dX9_loosen_21 : decode cX9_loosen 21 = .ok (.newarray .int, 2) := by decide +kernel
theorem dX9_loosen_23 : decode cX9_loosen 23 = .ok (.putfield 28, 3) := by decide +kernel
theorem dX9_loosen_26 : decode cX9_loosen 26 = .ok (.aload_n 0, 1) := by decide +kernel
theorem dX9_loosen_27 : decode cX9_loosen 27 = .ok (.getfield 28, 3) := by decide +kernel
theorem dX9_loosen_30 : decode cX9_loosen 30 = .ok (.iload_n 1, 1) := by decide +kernel
theorem dX9_loosen_31 : decode cX9_loosen 31 = .ok (.iconst 0, 1) := by decide +kernel
theorem dX9_loosen_32 : decode cX9_loosen 32 = .ok (.iastore, 1) := by decide +kernel
theorem dX9_loosen_33 : decode cX9_loosen 33 = .ok (.iload_n 1, 1) := by decide +kernel
theorem dX9_loosen_34 : decode cX9_loosen 34 = .ok (.iconst 1, 1) := by decide +kernel
theorem dX9_loosen_35 : decode cX9_loosen 35 = .ok (.isub, 1) := by decide +kernel
theorem dX9_loosen_36 : decode cX9_loosen 36 = .ok (.istore_n 2, 1) := by decide +kernel
theorem dX9_loosen_37 : decode cX9_loosen 37 = .ok (.iload_n 2, 1) := by decide +kernel
theorem dX9_loosen_38 : decode cX9_loosen 38 = .ok (.ifCond .lt 98, 3) := by decide +kernel
theorem dX9_loosen_41 : decode cX9_loosen 41 = .ok (.ldc 71, 2) := by decide +kernel
theorem dX9_loosen_43 : decode cX9_loosen 43 = .ok (.istore_n 3, 1) := by decide +kernel
theorem dX9_loosen_44 : decode cX9_loosen 44 = .ok (.iconst 0, 1) := by decide +kernel
theorem dX9_loosen_45 : decode cX9_loosen 45 = .ok (.istore 4, 2) := by decide +kernel
theorem dX9_loosen_47 : decode cX9_loosen 47 = .ok (.iload_n 1, 1) := by decide +kernel
theorem dX9_loosen_48 : decode cX9_loosen 48 = .ok (.iload_n 2, 1) := by decide +kernel
theorem dX9_loosen_49 : decode cX9_loosen 49 = .ok (.iconst (-1), 1) := by decide +kernel
theorem dX9_loosen_50 : decode cX9_loosen 50 = .ok (.ixor, 1) := by decide +kernel
theorem dX9_loosen_51 : decode cX9_loosen 51 = .ok (.iand, 1) := by decide +kernel
theorem dX9_loosen_52 : decode cX9_loosen 52 = .ok (.istore 5, 2) := by decide +kernel
theorem dX9_loosen_54 : decode cX9_loosen 54 = .ok (.iload 4, 2) := by decide +kernel
theorem dX9_loosen_56 : decode cX9_loosen 56 = .ok (.bipush 12, 2) := by decide +kernel
theorem dX9_loosen_58 : decode cX9_loosen 58 = .ok (.if_icmp .ge 65, 3) := by decide +kernel
theorem dX9_loosen_61 : decode cX9_loosen 61 = .ok (.iload 5, 2) := by decide +kernel
theorem dX9_loosen_63 : decode cX9_loosen 63 = .ok (.ifCond .eq 60, 3) := by decide +kernel
theorem dX9_loosen_66 : decode cX9_loosen 66 = .ok (.iload 5, 2) := by decide +kernel
theorem dX9_loosen_68 : decode cX9_loosen 68 = .ok (.iconst 1, 1) := by decide +kernel
theorem dX9_loosen_69 : decode cX9_loosen 69 = .ok (.iand, 1) := by decide +kernel
theorem dX9_loosen_70 : decode cX9_loosen 70 = .ok (.iconst 1, 1) := by decide +kernel
theorem dX9_loosen_71 : decode cX9_loosen 71 = .ok (.if_icmp .ne 40, 3) := by decide +kernel
theorem dX9_loosen_74 : decode cX9_loosen 74 = .ok (.aload_n 0, 1) := by decide +kernel
theorem dX9_loosen_75 : decode cX9_loosen 75 = .ok (.getfield 28, 3) := by decide +kernel
theorem dX9_loosen_78 : decode cX9_loosen 78 = .ok (.iload_n 2, 1) := by decide +kernel
theorem dX9_loosen_79 : decode cX9_loosen 79 = .ok (.iconst 1, 1) := by decide +kernel
theorem dX9_loosen_80 : decode cX9_loosen 80 = .ok (.iload 4, 2) := by decide +kernel
theorem dX9_loosen_82 : decode cX9_loosen 82 = .ok (.ishl, 1) := by decide +kernel
theorem dX9_loosen_83 : decode cX9_loosen 83 = .ok (.ior, 1) := by decide +kernel
theorem dX9_loosen_84 : decode cX9_loosen 84 = .ok (.iaload, 1) := by decide +kernel
theorem dX9_loosen_85 : decode cX9_loosen 85 = .ok (.aload_n 0, 1) := by decide +kernel
theorem dX9_loosen_86 : decode cX9_loosen 86 = .ok (.getfield 47, 3) := by decide +kernel
theorem dX9_loosen_89 : decode cX9_loosen 89 = .ok (.iload_n 2, 1) := by decide +kernel
theorem dX9_loosen_90 : decode cX9_loosen 90 = .ok (.iload 4, 2) := by decide +kernel
theorem dX9_loosen_92 : decode cX9_loosen 92 = .ok (.invokevirtual 72, 3) := by decide +kernel
theorem dX9_loosen_95 : decode cX9_loosen 95 = .ok (.iadd, 1) := by decide +kernel
theorem dX9_loosen_96 : decode cX9_loosen 96 = .ok (.istore 6, 2) := by decide +kernel
theorem dX9_loosen_98 : decode cX9_loosen 98 = .ok (.iload 6, 2) := by decide +kernel
theorem dX9_loosen_100 : decode cX9_loosen 100 = .ok (.iload_n 3, 1) := by decide +kernel
theorem dX9_loosen_101 : decode cX9_loosen 101 = .ok (.if_icmp .ge 8, 3) := by decide +kernel
theorem dX9_loosen_104 : decode cX9_loosen 104 = .ok (.iload 6, 2) := by decide +kernel
theorem dX9_loosen_106 : decode cX9_loosen 106 = .ok (.goto 4, 3) := by decide +kernel
theorem dX9_loosen_109 : decode cX9_loosen 109 = .ok (.iload_n 3, 1) := by decide +kernel
theorem dX9_loosen_110 : decode cX9_loosen 110 = .ok (.istore_n 3, 1) := by decide +kernel
theorem dX9_loosen_111 : decode cX9_loosen 111 = .ok (.iinc 4 1, 3) := by decide +kernel
theorem dX9_loosen_114 : decode cX9_loosen 114 = .ok (.iload 5, 2) := by decide +kernel
theorem dX9_loosen_116 : decode cX9_loosen 116 = .ok (.iconst 1, 1) := by decide +kernel
theorem dX9_loosen_117 : decode cX9_loosen 117 = .ok (.ishr, 1) := by decide +kernel
theorem dX9_loosen_118 : decode cX9_loosen 118 = .ok (.istore 5, 2) := by decide +kernel
theorem dX9_loosen_120 : decode cX9_loosen 120 = .ok (.goto (-66), 3) := by decide +kernel
theorem dX9_loosen_123 : decode cX9_loosen 123 = .ok (.aload_n 0, 1) := by decide +kernel
theorem dX9_loosen_124 : decode cX9_loosen 124 = .ok (.getfield 28, 3) := by decide +kernel
theorem dX9_loosen_127 : decode cX9_loosen 127 = .ok (.iload_n 2, 1) := by decide +kernel
theorem dX9_loosen_128 : decode cX9_loosen 128 = .ok (.iload_n 3, 1) := by decide +kernel
theorem dX9_loosen_129 : decode cX9_loosen 129 = .ok (.iastore, 1) := by decide +kernel
theorem dX9_loosen_130 : decode cX9_loosen 130 = .ok (.iinc 2 (-1), 3) := by decide +kernel
theorem dX9_loosen_133 : decode cX9_loosen 133 = .ok (.goto (-96), 3) := by decide +kernel
theorem dX9_loosen_136 : decode cX9_loosen 136 = .ok (.aload_n 0, 1) := by decide +kernel
theorem dX9_loosen_137 : decode cX9_loosen 137 = .ok (.aload_n 0, 1) := by decide +kernel
theorem dX9_loosen_138 : decode cX9_loosen 138 = .ok (.getfield 28, 3) := by decide +kernel
theorem dX9_loosen_141 : decode cX9_loosen 141 = .ok (.iconst 0, 1) := by decide +kernel
theorem dX9_loosen_142 : decode cX9_loosen 142 = .ok (.iaload, 1) := by decide +kernel
theorem dX9_loosen_143 : decode cX9_loosen 143 = .ok (.putfield 120, 3) := by decide +kernel
theorem dX9_loosen_146 : decode cX9_loosen 146 = .ok (.return_, 1) := by decide +kernel
theorem dX10_init_0 : decode cX10_init 0 = .ok (.aload_n 0, 1) := by decide +kernel
theorem dX10_init_1 : decode cX10_init 1 = .ok (.invokespecial 3, 3) := by decide +kernel
theorem dX10_init_4 : decode cX10_init 4 = .ok (.aload_n 0, 1) := by decide +kernel
theorem dX10_init_5 : decode cX10_init 5 = .ok (.sipush 132, 3) := by decide +kernel
theorem dX10_init_8 : decode cX10_init 8 = .ok (.newarray .int, 2) := by decide +kernel
theorem dX10_init_10 : decode cX10_init 10 = .ok (.putfield 11, 3) := by decide +kernel
theorem dX10_init_13 : decode cX10_init 13 = .ok (.aload_n 0, 1) := by decide +kernel
theorem dX10_init_14 : decode cX10_init 14 = .ok (.sipush 132, 3) := by decide +kernel
theorem dX10_init_17 : decode cX10_init 17 = .ok (.newarray .int, 2) := by decide +kernel
theorem dX10_init_19 : decode cX10_init 19 = .ok (.putfield 15, 3) := by decide +kernel
theorem dX10_init_22 : decode cX10_init 22 = .ok (.aload_n 0, 1) := by decide +kernel
theorem dX10_init_23 : decode cX10_init 23 = .ok (.sipush 1584, 3) := by decide +kernel
theorem dX10_init_26 : decode cX10_init 26 = .ok (.newarray .int, 2) := by decide +kernel
theorem dX10_init_28 : decode cX10_init 28 = .ok (.putfield 18, 3) := by decide +kernel
theorem dX10_init_31 : decode cX10_init 31 = .ok (.aload_n 0, 1) := by decide +kernel
theorem dX10_init_32 : decode cX10_init 32 = .ok (.sipush 144, 3) := by decide +kernel
theorem dX10_init_35 : decode cX10_init 35 = .ok (.newarray .int, 2) := by decide +kernel
theorem dX10_init_37 : decode cX10_init 37 = .ok (.putfield 21, 3) := by decide +kernel
theorem dX10_init_40 : decode cX10_init 40 = .ok (.aload_n 0, 1) := by decide +kernel
theorem dX10_init_41 : decode cX10_init 41 = .ok (.bipush 12, 2) := by decide +kernel
theorem dX10_init_43 : decode cX10_init 43 = .ok (.newarray .int, 2) := by decide +kernel
theorem dX10_init_45 : decode cX10_init 45 = .ok (.putfield 24, 3) := by decide +kernel
theorem dX10_init_48 : decode cX10_init 48 = .ok (.aload_n 0, 1) := by decide +kernel
theorem dX10_init_49 : decode cX10_init 49 = .ok (.bipush 12, 2) := by decide +kernel
theorem dX10_init_51 : decode cX10_init 51 = .ok (.newarray .int, 2) := by decide +kernel
theorem dX10_init_53 : decode cX10_init 53 = .ok (.putfield 27, 3) := by decide +kernel
theorem dX10_init_56 : decode cX10_init 56 = .ok (.aload_n 0, 1) := by decide +kernel
theorem dX10_init_57 : decode cX10_init 57 = .ok (.bipush 12, 2) := by decide +kernel
theorem dX10_init_59 : decode cX10_init 59 = .ok (.newarray .int, 2) := by decide +kernel
theorem dX10_init_61 : decode cX10_init 61 = .ok (.putfield 30, 3) := by decide +kernel
theorem dX10_init_64 : decode cX10_init 64 = .ok (.aload_n 0, 1) := by decide +kernel
theorem dX10_init_65 : decode cX10_init 65 = .ok (.bipush 12, 2) := by decide +kernel
theorem dX10_init_67 : decode cX10_init 67 = .ok (.newarray .int, 2) := by decide +kernel
theorem dX10_init_69 : decode cX10_init 69 = .ok (.putfield 33, 3) := by decide +kernel
theorem dX10_init_72 : decode cX10_init 72 = .ok (.aload_n 0, 1) := by decide +kernel
theorem dX10_init_73 : decode cX10_init 73 = .ok (.aload_n 1, 1) := by decide +kernel
theorem dX10_init_74 : decode cX10_init 74 = .ok (.putfield 36, 3) := by decide +kernel
theorem dX10_init_77 : decode cX10_init 77 = .ok (.return_, 1) := by decide +kernel
set_option maxRecDepth 20000 in
set_option maxRecDepth 100000 in
theorem ggX10_packAll_X8_gather : GoodIn wsX10_packAll wsX8_gather := goodIn_r _ [7, 8, 9, 10, 11, 12, 13, 14, 15, 16, 17, 18, 19, 20, 21, 22, 23, 24, 25, 26, 27, 28, 29, 30, 31, 32, 6, 33, 34, 35, 36, 37, 38, 39, 40, 41, 42, 43, 44, 45, 46, 47, 131, 132, 133, 134, 135, 136, 137, 138, 139, 140, 141, 142, 143, 144, 145, 146, 147] rfl (by decide +kernel)
set_option maxRecDepth 20000 in
theorem gX10_packAll_X8_gather : GoodIn wsX10_packAll (wsV RX10 40 RX8 yX8_gather wsX8_gather) := goodIn_app (goodIn_of _ (by decide +kernel)) ggX10_packAll_X8_gather
set_option maxRecDepth 20000 in
set_option maxRecDepth 100000 in
theorem ggX10_packAll_X10_takeAllPecks : GoodIn wsX10_packAll wsX10_takeAllPecks := goodIn_r _ [52, 53, 54, 1, 55, 56, 57, 58, 59, 60, 61, 62, 63, 6, 64, 34, 121, 122, 123, 124, 125, 126, 127, 128, 129, 130, 131, 132, 133, 134, 135, 136, 137, 138, 139, 140] rfl (by decide +kernel)
set_option maxRecDepth 20000 in
theorem gX10_packAll_X10_takeAllPecks : GoodIn wsX10_packAll (wsV RX10 45 RX10 yX10_takeAllPecks wsX10_takeAllPecks) := goodIn_app (goodIn_of _ (by decide +kernel)) ggX10_packAll_X10_takeAllPecks
set_option maxRecDepth 20000 in
set_option maxRecDepth 100000 in
theorem ggX10_packAll_X10_findShortest : GoodIn wsX10_packAll wsX10_findShortest := goodIn_r _ [68, 1, 55, 69, 70, 71, 51, 72, 73, 53, 74, 75, 76, 6, 77, 11, 78, 79, 80, 81, 54, 82, 83, 84, 85, 86, 87, 88, 89, 90, 91, 92, 93, 94, 95, 96, 97, 98, 99, 121, 122, 123, 124, 125, 126, 127, 128, 129, 130, 131, 132, 133, 134, 135, 136, 137, 138, 139, 140] rfl (by decide +kernel)
set_option maxRecDepth 20000 in
theorem gX10_packAll_X10_findShortest : GoodIn wsX10_packAll (wsV RX10 52 RX10 yX10_findShortest wsX10_findShortest) := goodIn_app (goodIn_of _ (by decide +kernel)) ggX10_packAll_X10_findShortest
set_option maxRecDepth 20000 in
set_option maxRecDepth 100000 in
theorem ggX10_packAll_X10_useUp : GoodIn wsX10_packAll wsX10_useUp := goodIn_r _ [103, 104, 56, 105, 106, 107, 108, 53, 54, 109, 110, 111, 51, 112, 89, 121, 122, 123, 124, 125, 126, 127, 128, 129, 130] rfl (by decide +kernel)
set_option maxRecDepth 20000 in
theorem gX10_packAll_X10_useUp : GoodIn wsX10_packAll (wsV RX10 56 RX10 yX10_useUp wsX10_useUp) := goodIn_app (goodIn_of _ (by decide +kernel)) ggX10_packAll_X10_useUp
set_option maxRecDepth 20000 in
set_option maxRecDepth 100000 in
theorem ggX10_packAll_X10_keepFound : GoodIn wsX10_packAll wsX10_keepFound := goodIn_r _ [116, 117, 2, 118, 119, 1, 120, 89, 121, 122, 123, 124, 125, 126, 127, 128, 129, 130, 131, 132, 133, 134, 135, 136, 137, 138, 139, 140] rfl (by decide +kernel)
set_option maxRecDepth 20000 in
theorem gX10_packAll_X10_keepFound : GoodIn wsX10_packAll (wsV RX10 60 RX10 yX10_keepFound wsX10_keepFound) := goodIn_app (goodIn_of _ (by decide +kernel)) ggX10_packAll_X10_keepFound
theorem dX10_packAll_0 : decode cX10_packAll 0 = .ok (.aload_n 0, 1) := by decide +kernel
theorem dX10_packAll_1 : decode cX10_packAll 1 = .ok (.getfield 36, 3) := by decide +kernel
theorem dX10_packAll_4 : decode cX10_packAll 4 = .ok (.invokevirtual 40, 3) := by decide +kernel
theorem dX10_packAll_7 : decode cX10_packAll 7 = .ok (.aload_n 0, 1) := by decide +kernel
theorem dX10_packAll_8 : decode cX10_packAll 8 = .ok (.invokevirtual 45, 3) := by decide +kernel
theorem dX10_packAll_11 : decode cX10_packAll 11 = .ok (.aload_n 0, 1) := by decide +kernel
theorem dX10_packAll_12 : decode cX10_packAll 12 = .ok (.iconst 0, 1) := by decide +kernel
theorem dX10_packAll_13 : decode cX10_packAll 13 = .ok (.putfield 48, 3) := by decide +kernel
theorem dX10_packAll_16 : decode cX10_packAll 16 = .ok (.lconst 0, 1) := by decide +kernel
theorem dX10_packAll_17 : decode cX10_packAll 17 = .ok (.lstore_n 1, 1) := by decide +kernel
theorem dX10_packAll_18 : decode cX10_packAll 18 = .ok (.iconst 0, 1) := by decide +kernel
theorem dX10_packAll_19 : decode cX10_packAll 19 = .ok (.istore_n 3, 1) := by decide +kernel
theorem dX10_packAll_20 : decode cX10_packAll 20 = .ok (.iload_n 3, 1) := by decide +kernel
theorem dX10_packAll_21 : decode cX10_packAll 21 = .ok (.sipush 132, 3) := by decide +kernel
theorem dX10_packAll_24 : decode cX10_packAll 24 = .ok (.if_icmp .ge 45, 3) := by decide +kernel
theorem dX10_packAll_27 : decode cX10_packAll 27 = .ok (.aload_n 0, 1) := by decide +kernel
theorem dX10_packAll_28 : decode cX10_packAll 28 = .ok (.invokevirtual 52, 3) := by decide +kernel
theorem dX10_packAll_31 : decode cX10_packAll 31 = .ok (.istore 4, 2) := by decide +kernel
theorem dX10_packAll_33 : decode cX10_packAll 33 = .ok (.iload 4, 2) := by decide +kernel
theorem dX10_packAll_35 : decode cX10_packAll 35 = .ok (.ifCond .ne 6, 3) := by decide +kernel
theorem dX10_packAll_38 : decode cX10_packAll 38 = .ok (.goto 31, 3) := by decide +kernel
theorem dX10_packAll_41 : decode cX10_packAll 41 = .ok (.aload_n 0, 1) := by decide +kernel
theorem dX10_packAll_42 : decode cX10_packAll 42 = .ok (.iload 4, 2) := by decide +kernel
theorem dX10_packAll_44 : decode cX10_packAll 44 = .ok (.invokevirtual 56, 3) := by decide +kernel
theorem dX10_packAll_47 : decode cX10_packAll 47 = .ok (.istore 5, 2) := by decide +kernel
theorem dX10_packAll_49 : decode cX10_packAll 49 = .ok (.aload_n 0, 1) := by decide +kernel
theorem dX10_packAll_50 : decode cX10_packAll 50 = .ok (.iload 4, 2) := by decide +kernel
theorem dX10_packAll_52 : decode cX10_packAll 52 = .ok (.iload 5, 2) := by decide +kernel
theorem dX10_packAll_54 : decode cX10_packAll 54 = .ok (.invokevirtual 60, 3) := by decide +kernel
theorem dX10_packAll_57 : decode cX10_packAll 57 = .ok (.lload_n 1, 1) := by decide +kernel
theorem dX10_packAll_58 : decode cX10_packAll 58 = .ok (.iload 5, 2) := by decide +kernel
theorem dX10_packAll_60 : decode cX10_packAll 60 = .ok (.i2l, 1) := by decide +kernel
theorem dX10_packAll_61 : decode cX10_packAll 61 = .ok (.ladd, 1) := by decide +kernel
theorem dX10_packAll_62 : decode cX10_packAll 62 = .ok (.lstore_n 1, 1) := by decide +kernel
theorem dX10_packAll_63 : decode cX10_packAll 63 = .ok (.iinc 3 1, 3) := by decide +kernel
theorem dX10_packAll_66 : decode cX10_packAll 66 = .ok (.goto (-46), 3) := by decide +kernel
theorem dX10_packAll_69 : decode cX10_packAll 69 = .ok (.lload_n 1, 1) := by decide +kernel
theorem dX10_packAll_70 : decode cX10_packAll 70 = .ok (.lreturn, 1) := by decide +kernel
set_option maxRecDepth 20000 in
set_option maxRecDepth 100000 in
theorem ggX10_takeAllPecks_J7_fill_53178 : GoodIn wsX10_takeAllPecks wsJ7_fill_53178 := goodIn_r _ [9] rfl (by decide +kernel)
set_option maxRecDepth 20000 in
theorem gX10_takeAllPecks_J7_fill_53178 : GoodIn wsX10_takeAllPecks (va_wsS RX10 64 yJ7_fill_53178 wsJ7_fill_53178) := goodIn_app (goodIn_of _ (by decide +kernel)) ggX10_takeAllPecks_J7_fill_53178
set_option maxRecDepth 20000 in
set_option maxRecDepth 100000 in
theorem ggX10_takeAllPecks_X8_peckOf : GoodIn wsX10_takeAllPecks wsX8_peckOf := goodIn_r _ [14, 15, 26, 27, 28, 29, 30, 31, 32, 33, 34, 35] rfl (by decide +kernel)
set_option maxRecDepth 20000 in
theorem gX10_takeAllPecks_X8_peckOf : GoodIn wsX10_takeAllPecks (wsV RX10 71 RX8 yX8_peckOf wsX8_peckOf) := goodIn_app (goodIn_of _ (by decide +kernel)) ggX10_takeAllPecks_X8_peckOf
theorem dX10_takeAllPecks_0 : decode cX10_takeAllPecks 0 = .ok (.aload_n 0, 1) := by decide +kernel
theorem dX10_takeAllPecks_1 : decode cX10_takeAllPecks 1 = .ok (.getfield 24, 3) := by decide +kernel
theorem dX10_takeAllPecks_4 : decode cX10_takeAllPecks 4 = .ok (.iconst 0, 1) := by decide +kernel
theorem dX10_takeAllPecks_5 : decode cX10_takeAllPecks 5 = .ok (.invokestatic 64, 3) := by decide +kernel
theorem dX10_takeAllPecks_8 : decode cX10_takeAllPecks 8 = .ok (.aload_n 0, 1) := by decide +kernel
theorem dX10_takeAllPecks_9 : decode cX10_takeAllPecks 9 = .ok (.getfield 27, 3) := by decide +kernel
theorem dX10_takeAllPecks_12 : decode cX10_takeAllPecks 12 = .ok (.iconst 0, 1) := by decide +kernel
theorem dX10_takeAllPecks_13 : decode cX10_takeAllPecks 13 = .ok (.invokestatic 64, 3) := by decide +kernel
theorem dX10_takeAllPecks_16 : decode cX10_takeAllPecks 16 = .ok (.iconst 0, 1) := by decide +kernel
theorem dX10_takeAllPecks_17 : decode cX10_takeAllPecks 17 = .ok (.istore_n 1, 1) := by decide +kernel
theorem dX10_takeAllPecks_18 : decode cX10_takeAllPecks 18 = .ok (.iload_n 1, 1) := by decide +kernel
theorem dX10_takeAllPecks_19 : decode cX10_takeAllPecks 19 = .ok (.aload_n 0, 1) := by decide +kernel
theorem dX10_takeAllPecks_20 : decode cX10_takeAllPecks 20 = .ok (.getfield 36, 3) := by decide +kernel
theorem dX10_takeAllPecks_23 : decode cX10_takeAllPecks 23 = .ok (.getfield 70, 3) := by decide +kernel
theorem dX10_takeAllPecks_26 : decode cX10_takeAllPecks 26 = .ok (.if_icmp .ge 78, 3) := by decide +kernel
theorem dX10_takeAllPecks_29 : decode cX10_takeAllPecks 29 = .ok (.iconst 0, 1) := by decide +kernel
theorem dX10_takeAllPecks_30 : decode cX10_takeAllPecks 30 = .ok (.istore_n 2, 1) := by decide +kernel
theorem dX10_takeAllPecks_31 : decode cX10_takeAllPecks 31 = .ok (.iload_n 2, 1) := by decide +kernel
theorem dX10_takeAllPecks_32 : decode cX10_takeAllPecks 32 = .ok (.aload_n 0, 1) := by decide +kernel
theorem dX10_takeAllPecks_33 : decode cX10_takeAllPecks 33 = .ok (.getfield 36, 3) := by decide +kernel
theorem dX10_takeAllPecks_36 : decode cX10_takeAllPecks 36 = .ok (.getfield 70, 3) := by decide +kernel
theorem dX10_takeAllPecks_39 : decode cX10_takeAllPecks 39 = .ok (.if_icmp .ge 59, 3) := by decide +kernel
theorem dX10_takeAllPecks_42 : decode cX10_takeAllPecks 42 = .ok (.aload_n 0, 1) := by decide +kernel
theorem dX10_takeAllPecks_43 : decode cX10_takeAllPecks 43 = .ok (.getfield 36, 3) := by decide +kernel
theorem dX10_takeAllPecks_46 : decode cX10_takeAllPecks 46 = .ok (.iload_n 1, 1) := by decide +kernel
theorem dX10_takeAllPecks_47 : decode cX10_takeAllPecks 47 = .ok (.iload_n 2, 1) := by decide +kernel
theorem dX10_takeAllPecks_48 : decode cX10_takeAllPecks 48 = .ok (.invokevirtual 71, 3) := by decide +kernel
theorem dX10_takeAllPecks_51 : decode cX10_takeAllPecks 51 = .ok (.istore_n 3, 1) := by decide +kernel
theorem dX10_takeAllPecks_52 : decode cX10_takeAllPecks 52 = .ok (.aload_n 0, 1) := by decide +kernel
theorem dX10_takeAllPecks_53 : decode cX10_takeAllPecks 53 = .ok (.getfield 21, 3) := by decide +kernel
theorem dX10_takeAllPecks_56 : decode cX10_takeAllPecks 56 = .ok (.iload_n 1, 1) := by decide +kernel
theorem dX10_takeAllPecks_57 : decode cX10_takeAllPecks 57 = .ok (.bipush 12, 2) := by decide +kernel
theorem dX10_takeAllPecks_59 : decode cX10_takeAllPecks 59 = .ok (.imul, 1) := by decide +kernel
theorem dX10_takeAllPecks_60 : decode cX10_takeAllPecks 60 = .ok (.iload_n 2, 1) := by decide +kernel
theorem dX10_takeAllPecks_61 : decode cX10_takeAllPecks 61 = .ok (.iadd, 1) := by decide +kernel
theorem dX10_takeAllPecks_62 : decode cX10_takeAllPecks 62 = .ok (.iload_n 3, 1) := by decide +kernel
theorem dX10_takeAllPecks_63 : decode cX10_takeAllPecks 63 = .ok (.iastore, 1) := by decide +kernel
theorem dX10_takeAllPecks_64 : decode cX10_takeAllPecks 64 = .ok (.iload_n 3, 1) := by decide +kernel
theorem dX10_takeAllPecks_65 : decode cX10_takeAllPecks 65 = .ok (.ifCond .le 27, 3) := by decide +kernel
theorem dX10_takeAllPecks_68 : decode cX10_takeAllPecks 68 = .ok (.aload_n 0, 1) := by decide +kernel
theorem dX10_takeAllPecks_69 : decode cX10_takeAllPecks 69 = .ok (.getfield 24, 3) := by decide +kernel
theorem dX10_takeAllPecks_72 : decode cX10_takeAllPecks 72 = .ok (.iload_n 1, 1) := by decide +kernel
theorem dX10_takeAllPecks_73 : decode cX10_takeAllPecks 73 = .ok (.dup2, 1) := by decide +kernel
theorem dX10_takeAllPecks_74 : decode cX10_takeAllPecks 74 = .ok (.iaload, 1) := by decide +kernel
theorem dX10_takeAllPecks_75 : decode cX10_takeAllPecks 75 = .ok (.iconst 1, 1) := by decide +kernel
theorem dX10_takeAllPecks_76 : decode cX10_takeAllPecks 76 = .ok (.iload_n 2, 1) := by decide +kernel
theorem dX10_takeAllPecks_77 : decode cX10_takeAllPecks 77 = .ok (.ishl, 1) := by decide +kernel
theorem dX10_takeAllPecks_78 : decode cX10_takeAllPecks 78 = .ok (.ior, 1) := by decide +kernel
theorem dX10_takeAllPecks_79 : decode cX10_takeAllPecks 79 = .ok (.iastore, 1) := by decide +kernel
theorem dX10_takeAllPecks_80 : decode cX10_takeAllPecks 80 = .ok (.aload_n 0, 1) := by decide +kernel
theorem dX10_takeAllPecks_81 : decode cX10_takeAllPecks 81 = .ok (.getfield 27, 3) := by decide +kernel
theorem dX10_takeAllPecks_84 : decode cX10_takeAllPecks 84 = .ok (.iload_n 2, 1) := by decide +kernel
theorem dX10_takeAllPecks_85 : decode cX10_takeAllPecks 85 = .ok (.dup2, 1) := by decide +kernel
theorem dX10_takeAllPecks_86 : decode cX10_takeAllPecks 86 = .ok (.iaload, 1) := by decide +kernel
theorem dX10_takeAllPecks_87 : decode cX10_takeAllPecks 87 = .ok (.iconst 1, 1) := by decide +kernel
theorem dX10_takeAllPecks_88 : decode cX10_takeAllPecks 88 = .ok (.iload_n 1, 1) := by decide +kernel
theorem dX10_takeAllPecks_89 : decode cX10_takeAllPecks 89 = .ok (.ishl, 1) := by decide +kernel
theorem dX10_takeAllPecks_90 : decode cX10_takeAllPecks 90 = .ok (.ior, 1) := by decide +kernel
theorem dX10_takeAllPecks_91 : decode cX10_takeAllPecks 91 = .ok (.iastore, 1) := by decide +kernel
theorem dX10_takeAllPecks_92 : decode cX10_takeAllPecks 92 = .ok (.iinc 2 1, 3) := by decide +kernel
theorem dX10_takeAllPecks_95 : decode cX10_takeAllPecks 95 = .ok (.goto (-64), 3) := by decide +kernel
theorem dX10_takeAllPecks_98 : decode cX10_takeAllPecks 98 = .ok (.iinc 1 1, 3) := by decide +kernel
theorem dX10_takeAllPecks_101 : decode cX10_takeAllPecks 101 = .ok (.goto (-83), 3) := by decide +kernel
theorem dX10_takeAllPecks_104 : decode cX10_takeAllPecks 104 = .ok (.return_, 1) := by decide +kernel
set_option maxRecDepth 20000 in
set_option maxRecDepth 100000 in
theorem ggX10_findShortest_X10_lengthFrom : GoodIn wsX10_findShortest wsX10_lengthFrom := goodIn_r _ [7, 1, 8, 9, 10, 11, 12, 13, 14, 15, 16, 17, 18, 6, 19, 2, 20, 21, 22, 23, 39, 40, 41, 42, 43, 44, 45, 46, 47, 48, 49, 50, 51, 52, 53, 54, 55, 56, 57, 58] rfl (by decide +kernel)
set_option maxRecDepth 20000 in
theorem gX10_findShortest_X10_lengthFrom : GoodIn wsX10_findShortest (wsV RX10 75 RX10 yX10_lengthFrom wsX10_lengthFrom) := goodIn_app (goodIn_of _ (by decide +kernel)) ggX10_findShortest_X10_lengthFrom
set_option maxRecDepth 20000 in
set_option maxRecDepth 100000 in
theorem ggX10_findShortest_X10_trace : GoodIn wsX10_findShortest wsX10_trace := goodIn_r _ [27, 28, 9, 8, 29, 30, 6, 31, 32, 33, 34, 35, 36, 37, 38, 39, 40, 41, 42, 43, 44, 45, 46, 47, 48] rfl (by decide +kernel)
set_option maxRecDepth 20000 in
theorem gX10_findShortest_X10_trace : GoodIn wsX10_findShortest (wsV RX10 78 RX10 yX10_trace wsX10_trace) := goodIn_app (goodIn_of _ (by decide +kernel)) ggX10_findShortest_X10_trace
theorem dX10_findShortest_0 : decode cX10_findShortest 0 = .ok (.iconst 0, 1) := by decide +kernel
theorem dX10_findShortest_1 : decode cX10_findShortest 1 = .ok (.istore_n 1, 1) := by decide +kernel
theorem dX10_findShortest_2 : decode cX10_findShortest 2 = .ok (.iconst 0, 1) := by decide +kernel
theorem dX10_findShortest_3 : decode cX10_findShortest 3 = .ok (.istore_n 2, 1) := by decide +kernel
theorem dX10_findShortest_4 : decode cX10_findShortest 4 = .ok (.iload_n 2, 1) := by decide +kernel
theorem dX10_findShortest_5 : decode cX10_findShortest 5 = .ok (.aload_n 0, 1) := by decide +kernel
theorem dX10_findShortest_6 : decode cX10_findShortest 6 = .ok (.getfield 36, 3) := by decide +kernel
theorem dX10_findShortest_9 : decode cX10_findShortest 9 = .ok (.getfield 70, 3) := by decide +kernel
theorem dX10_findShortest_12 : decode cX10_findShortest 12 = .ok (.if_icmp .ge 50, 3) := by decide +kernel
theorem dX10_findShortest_15 : decode cX10_findShortest 15 = .ok (.iload_n 1, 1) := by decide +kernel
theorem dX10_findShortest_16 : decode cX10_findShortest 16 = .ok (.ifCond .ne 15, 3) := by decide +kernel
theorem dX10_findShortest_19 : decode cX10_findShortest 19 = .ok (.aload_n 0, 1) := by decide +kernel
theorem dX10_findShortest_20 : decode cX10_findShortest 20 = .ok (.getfield 36, 3) := by decide +kernel
theorem dX10_findShortest_23 : decode cX10_findShortest 23 = .ok (.getfield 70, 3) := by decide +kernel
theorem dX10_findShortest_26 : decode cX10_findShortest 26 = .ok (.iconst 1, 1) := by decide +kernel
theorem dX10_findShortest_27 : decode cX10_findShortest 27 = .ok (.iadd, 1) := by decide +kernel
theorem dX10_findShortest_28 : decode cX10_findShortest 28 = .ok (.goto 4, 3) := by decide +kernel
theorem dX10_findShortest_31 : decode cX10_findShortest 31 = .ok (.iload_n 1, 1) := by decide +kernel
theorem dX10_findShortest_32 : decode cX10_findShortest 32 = .ok (.istore_n 3, 1) := by decide +kernel
theorem dX10_findShortest_33 : decode cX10_findShortest 33 = .ok (.aload_n 0, 1) := by decide +kernel
theorem dX10_findShortest_34 : decode cX10_findShortest 34 = .ok (.iload_n 2, 1) := by decide +kernel
theorem dX10_findShortest_35 : decode cX10_findShortest 35 = .ok (.iload_n 3, 1) := by decide +kernel
theorem dX10_findShortest_36 : decode cX10_findShortest 36 = .ok (.invokevirtual 75, 3) := by decide +kernel
theorem dX10_findShortest_39 : decode cX10_findShortest 39 = .ok (.istore 4, 2) := by decide +kernel
theorem dX10_findShortest_41 : decode cX10_findShortest 41 = .ok (.iload 4, 2) := by decide +kernel
theorem dX10_findShortest_43 : decode cX10_findShortest 43 = .ok (.ifCond .le 13, 3) := by decide +kernel
theorem dX10_findShortest_46 : decode cX10_findShortest 46 = .ok (.iload 4, 2) := by decide +kernel
theorem dX10_findShortest_48 : decode cX10_findShortest 48 = .ok (.istore_n 1, 1) := by decide +kernel
theorem dX10_findShortest_49 : decode cX10_findShortest 49 = .ok (.aload_n 0, 1) := by decide +kernel
theorem dX10_findShortest_50 : decode cX10_findShortest 50 = .ok (.iload_n 2, 1) := by decide +kernel
